set_option maxHeartbeats 4000000 in
set_option maxRecDepth 100000 in
theorem c_X2_init (l : Launch) (D : va_G) (k : Nat → ClassId) (a0 : Nat)  : MVN l yX2_init wsX2_init ({ frames := 2, cells := 9, slots := 139, locals := 32 }) D k [.ref a0] ([(a0, .inr (2, [.null, .int 0, .null, .int 0, .int 0, .int 0, .int 0]))]) (fun w => ∃ t b : Nat → Nat, t 0 = a0 ∧ w = wTx k t b (fun _ => 0) 0 zS 0 (0, 0) 0) := by
  intro sz
  refine Met.ofW (cc := cX2_init) (maxL := 1) (ret := none) (by decide) rfl ?_
  intro p e s m args below meth c s₁ B hml hv
  obtain ⟨rfl, hN, hsz, hP, hK, hD0⟩ := hv
  have hx := B.exec
  have hb := B.bytes
  have hr := B.returns
  have hts := atoms_spec (ws := wsX2_init) B.pre
  have hown : s.vm.findClass RX2 = some m.cls := findClass_of_methodNamed B.named
  have hlocks := B.notSynchronized
  have hin : meth.name = "<init>" := (name_of_methodNamed B.named B.method).1
  subst hsz
  have hD := hD0.self (sz := s.heap.size)
  generalize hAe : va_A ([(a0, .inr (2, [.null, .int 0, .null, .int 0, .int 0, .int 0, .int 0]))]) s.heap.size = A at hD ⊢
  have hA : ∀ q : Nat, s.heap.size ≤ q → A q := fun q h => by rw [← hAe]; exact Or.inr h
  have hS : va_S A s.heap s.heap [] := va_S.rf
  have hl := lv_entry ([.ref a0]) (n := 1) (Nat.le_of_ble_eq_true rfl)
  rw [lg_entry_eq]
  generalize (lg_sl ([.ref a0]) ++ List.replicate (1 - (lg_sl ([.ref a0])).length) Slot.unset).toArray = ls at hl ⊢
  have hl : lv_has ls 1 [(0, .ref a0)] := hl
  obtain ⟨H, hHe⟩ : ∃ H, H = s.heap := ⟨_, rfl⟩
  have hP : va_P D vwCl ([(a0, .inr (2, [.null, .int 0, .null, .int 0, .int 0, .int 0, .int 0]))]) H := by rw [hHe]; exact hP
  have hS : va_S A s.heap H [] := by rw [hHe]; exact hS
  rw [← hHe]
  refine absQ (fun Q hQ => ?_)
  refine lv_aload_n hx hb dX2_init_0 rfl (lv_at hl 0 rfl) ?_
  refine W.objInit hx hb hown (hts _ (List.mem_of_getElem? (i := 1) rfl)) (hts _ (List.mem_of_getElem? (i := 2) rfl)) (hts _ (List.mem_of_getElem? (i := 3) rfl)) rfl (by rw [hml]; exact hl.1) rfl dX2_init_1 (Nat.le_of_ble_eq_true rfl) (Nat.le_of_ble_eq_true rfl) ?_
  refine W.eq (g2 := F0 m 4 ls []) rfl ?_
  refine lv_aload_n hx hb dX2_init_4 rfl (lv_at hl 0 rfl) ?_
  refine lv_bipush (v := 60) hx hb dX2_init_5 (by decide) ?_
  refine nw_i (k := k) hx hb (hts _ (List.mem_of_getElem? (i := 4) rfl)) hK hP hD hS hA 60 (by decide) rfl (Nat.le_of_ble_eq_true rfl) (Nat.le_of_ble_eq_true rfl) (Nat.le_of_ble_eq_true rfl) dX2_init_7 (fun n_1 H hP hD hS => ?_)
  refine W.widen (k := 1) (n := 60) (Nat.le_of_ble_eq_true rfl) (Nat.le_of_ble_eq_true rfl) ?_
  have hP : va_P D vwCl ([(a0, .inr (2, [.null, .int 0, .null, .int 0, .int 0, .int 0, .int 0]))] ++ ([(n_1, .inl (k 0, 60, .inl (fun _ => 0)))])) H := hP
  have hD : va_D A ([(a0, .inr (2, [.null, .int 0, .null, .int 0, .int 0, .int 0, .int 0]))] ++ ([(n_1, .inl (k 0, 60, .inl (fun _ => 0)))])) := hD
  refine va_putF (D := D) (ci := 2) (v := .ref n_1) (ty := tyX2 0) (C := RX2) (T := TX2) (N := 7) hx hb hts (fun _ h9 => (List.mem_cons_of_mem _ (List.mem_append_left _ (List.mem_append_right _ h9)))) tyX2 tyX2_ok nmX2 hown hK hP hD hS 0 rfl rfl 0 (by decide) (hts _ (List.mem_of_getElem? (i := 5) rfl)) (fun _ h9 => h9) rfl hin rfl (tyX2_ok 0 (by decide)) rfl rfl (Nat.le_of_ble_eq_true rfl) dX2_init_9 (fun H locs hP hD hS => ?_)
  have hP : va_P D vwCl ([(a0, .inr (2, [.ref n_1, .int 0, .null, .int 0, .int 0, .int 0, .int 0]))] ++ ([(n_1, .inl (k 0, 60, .inl (fun _ => 0)))])) H := hP
  have hD : va_D A ([(a0, .inr (2, [.ref n_1, .int 0, .null, .int 0, .int 0, .int 0, .int 0]))] ++ ([(n_1, .inl (k 0, 60, .inl (fun _ => 0)))])) := hD
  refine lv_aload_n hx hb dX2_init_12 rfl (lv_at hl 0 rfl) ?_
  refine va_new (D := D) (ci := 1) (fs := [.null, .null, .null, .null, .null, .null, .null, .int 0, .int 0, .int 0]) (C := RX1) (T := TX1) (N := 10) hx hb hts (fun _ h9 => (List.mem_cons_of_mem _ (List.mem_append_right _ h9))) tyX1 tyX1_ok hown (hts _ (List.mem_of_getElem? (i := 6) rfl)) (hts _ (List.mem_of_getElem? (i := 7) rfl)) (hts _ (List.mem_of_getElem? (i := 8) rfl)) hK hP hD hS hA rfl (fun j hj => by rcases (show j = 0 ∨ j = 1 ∨ j = 2 ∨ j = 3 ∨ j = 4 ∨ j = 5 ∨ j = 6 ∨ j = 7 ∨ j = 8 ∨ j = 9 by omega) with rfl | rfl | rfl | rfl | rfl | rfl | rfl | rfl | rfl | rfl <;> rfl) (Nat.le_of_ble_eq_true rfl) (Nat.le_of_ble_eq_true rfl) dX2_init_13 (fun n_2 H hP hD hS => ?_)
  refine W.widen (k := 2) (n := 70) (Nat.le_of_ble_eq_true rfl) (Nat.le_of_ble_eq_true rfl) ?_
  have hP : va_P D vwCl ([(a0, .inr (2, [.ref n_1, .int 0, .null, .int 0, .int 0, .int 0, .int 0]))] ++ ([(n_1, .inl (k 0, 60, .inl (fun _ => 0)))] ++ ([(n_2, .inr (1, [.null, .null, .null, .null, .null, .null, .null, .int 0, .int 0, .int 0]))]))) H := hP
  have hD : va_D A ([(a0, .inr (2, [.ref n_1, .int 0, .null, .int 0, .int 0, .int 0, .int 0]))] ++ ([(n_1, .inl (k 0, 60, .inl (fun _ => 0)))] ++ ([(n_2, .inr (1, [.null, .null, .null, .null, .null, .null, .null, .int 0, .int 0, .int 0]))]))) := hD
  refine lv_dup hx hb dX2_init_16 rfl ?_
  have hPc : va_P D vwCl [(n_2, .inr (1, [.null, .null, .null, .null, .null, .null, .null, .int 0, .int 0, .int 0]))] H := hP.sub [2] rfl
  have hDc : va_D A [(n_2, .inr (1, [.null, .null, .null, .null, .null, .null, .null, .int 0, .int 0, .int 0]))] := hD.sub [2] (by decide +kernel) rfl
  refine cl_vN (va_runIN (As := []) (rest := [.ref n_2, .ref a0]) ⟨hx, hb, hml, hown, hts⟩ (c_X1_init l D k n_2 H.size) ⟨va_cnB 0 hts gX2_init_X1_init_n17 rfl rfl rfl hN.2.2.1 (hts (.initialized RX1) (List.mem_of_getElem? (i := 8) rfl)) (by decide +kernel) ⟨Nat.le_of_ble_eq_true rfl, Nat.le_of_ble_eq_true rfl⟩, rfl, hts (.instanceMethod yX1_init) (List.mem_of_getElem? (i := 10) rfl)⟩ ⟨pr_blind, pr_at hN hPc hK hDc⟩ rfl rfl hl.1 rfl (lv_room (Nat.le_of_ble_eq_true rfl)) dX2_init_17 ⟨Nat.le_of_ble_eq_true rfl, Nat.le_of_ble_eq_true rfl⟩) hP hD hS hA [2] [0, 1] rfl (wr := ([(a0, .inr (2, [.ref n_1, .int 0, .null, .int 0, .int 0, .int 0, .int 0]))] ++ ([(n_1, .inl (k 0, 60, .inl (fun _ => 0)))]))) rfl (by decide +kernel) (by decide +kernel) (fun w hw H9 locs9 hP9 hD9 hS9 => ?_)
  clear hPc hDc hP hD hS
  obtain ⟨b_3, hw0, rfl⟩ := hw
  subst hw0
  have hS := hS9
  refine W.widen (k := 9) (n := 139) (Nat.le_of_ble_eq_true rfl) (Nat.le_of_ble_eq_true rfl) ?_
  have hP : va_P D vwCl ([(a0, .inr (2, [.ref n_1, .int 0, .null, .int 0, .int 0, .int 0, .int 0]))] ++ ([(n_1, .inl (k 0, 60, .inl (fun _ => 0)))] ++ (wSt k b_3 zS))) _ := hP9
  have hD : va_D A ([(a0, .inr (2, [.ref n_1, .int 0, .null, .int 0, .int 0, .int 0, .int 0]))] ++ ([(n_1, .inl (k 0, 60, .inl (fun _ => 0)))] ++ (wSt k b_3 zS))) := hD9
  clear hP9 hD9 hS9
  generalize H9 = H at hP hS ⊢
  refine va_putF (D := D) (ci := 2) (v := .ref (b_3 0)) (ty := tyX2 2) (C := RX2) (T := TX2) (N := 7) hx hb hts (fun _ h9 => (List.mem_cons_of_mem _ (List.mem_append_left _ (List.mem_append_right _ h9)))) tyX2 tyX2_ok nmX2 hown hK hP hD hS 0 rfl rfl 2 (by decide) (hts _ (List.mem_of_getElem? (i := 9) rfl)) (fun _ h9 => h9) rfl hin rfl (tyX2_ok 2 (by decide)) rfl rfl (Nat.le_of_ble_eq_true rfl) dX2_init_20 (fun H locs hP hD hS => ?_)
  have hP : va_P D vwCl ([(a0, .inr (2, [.ref n_1, .int 0, .ref (b_3 0), .int 0, .int 0, .int 0, .int 0]))] ++ ([(n_1, .inl (k 0, 60, .inl (fun _ => 0)))] ++ (wSt k b_3 zS))) H := hP
  have hD : va_D A ([(a0, .inr (2, [.ref n_1, .int 0, .ref (b_3 0), .int 0, .int 0, .int 0, .int 0]))] ++ ([(n_1, .inl (k 0, 60, .inl (fun _ => 0)))] ++ (wSt k b_3 zS))) := hD
  subst hQ
  refine W.widen (k := 9) (n := 139) (Nat.le_of_ble_eq_true rfl) (Nat.le_of_ble_eq_true rfl) ?_
  exact rt_vN (wn := wTx k (ad4 a0 n_1 0 0) b_3 (fun _ => 0) 0 zS 0 (0, 0) 0) hx hb hr hlocks hS dX2_init_23 ⟨ad4 a0 n_1 0 0, b_3, rfl, rfl⟩ hP hD

set_option maxHeartbeats 4000000 in
set_option maxRecDepth 100000 in
theorem c_X3_init (l : Launch) (D : va_G) (k : Nat → ClassId) (a0 : Nat)  : MVN l yX3_init wsX3_init ({ frames := 2, cells := 11, slots := 1112, locals := 32 }) D k [.ref a0] ([(a0, .inr (3, [.null, .null, .int 0, .int 0, .null, .null]))]) (fun w => ∃ a b : Nat → Nat, a 0 = a0 ∧ w = wWy k a b zS (fun _ => 0) (fun _ => 0) (fun _ => 0) 0 0) := by
  intro sz
  refine Met.ofW (cc := cX3_init) (maxL := 1) (ret := none) (by decide) rfl ?_
  intro p e s m args below meth c s₁ B hml hv
  obtain ⟨rfl, hN, hsz, hP, hK, hD0⟩ := hv
  have hx := B.exec
  have hb := B.bytes
  have hr := B.returns
  have hts := atoms_spec (ws := wsX3_init) B.pre
  have hown : s.vm.findClass RX3 = some m.cls := findClass_of_methodNamed B.named
  have hlocks := B.notSynchronized
  have hin : meth.name = "<init>" := (name_of_methodNamed B.named B.method).1
  subst hsz
  have hD := hD0.self (sz := s.heap.size)
  generalize hAe : va_A ([(a0, .inr (3, [.null, .null, .int 0, .int 0, .null, .null]))]) s.heap.size = A at hD ⊢
  have hA : ∀ q : Nat, s.heap.size ≤ q → A q := fun q h => by rw [← hAe]; exact Or.inr h
  have hS : va_S A s.heap s.heap [] := va_S.rf
  have hl := lv_entry ([.ref a0]) (n := 1) (Nat.le_of_ble_eq_true rfl)
  rw [lg_entry_eq]
  generalize (lg_sl ([.ref a0]) ++ List.replicate (1 - (lg_sl ([.ref a0])).length) Slot.unset).toArray = ls at hl ⊢
  have hl : lv_has ls 1 [(0, .ref a0)] := hl
  obtain ⟨H, hHe⟩ : ∃ H, H = s.heap := ⟨_, rfl⟩
  have hP : va_P D vwCl ([(a0, .inr (3, [.null, .null, .int 0, .int 0, .null, .null]))]) H := by rw [hHe]; exact hP
  have hS : va_S A s.heap H [] := by rw [hHe]; exact hS
  rw [← hHe]
  refine absQ (fun Q hQ => ?_)
  refine lv_aload_n hx hb dX3_init_0 rfl (lv_at hl 0 rfl) ?_
  refine W.objInit hx hb hown (hts _ (List.mem_of_getElem? (i := 1) rfl)) (hts _ (List.mem_of_getElem? (i := 2) rfl)) (hts _ (List.mem_of_getElem? (i := 3) rfl)) rfl (by rw [hml]; exact hl.1) rfl dX3_init_1 (Nat.le_of_ble_eq_true rfl) (Nat.le_of_ble_eq_true rfl) ?_
  refine W.eq (g2 := F0 m 4 ls []) rfl ?_
  refine lv_aload_n hx hb dX3_init_4 rfl (lv_at hl 0 rfl) ?_
  refine lv_sipush (v := 512) hx hb dX3_init_5 (by decide) ?_
  refine nw_i (k := k) hx hb (hts _ (List.mem_of_getElem? (i := 4) rfl)) hK hP hD hS hA 512 (by decide) rfl (Nat.le_of_ble_eq_true rfl) (Nat.le_of_ble_eq_true rfl) (Nat.le_of_ble_eq_true rfl) dX3_init_8 (fun n_1 H hP hD hS => ?_)
  refine W.widen (k := 1) (n := 512) (Nat.le_of_ble_eq_true rfl) (Nat.le_of_ble_eq_true rfl) ?_
  have hP : va_P D vwCl ([(a0, .inr (3, [.null, .null, .int 0, .int 0, .null, .null]))] ++ ([(n_1, .inl (k 0, 512, .inl (fun _ => 0)))])) H := hP
  have hD : va_D A ([(a0, .inr (3, [.null, .null, .int 0, .int 0, .null, .null]))] ++ ([(n_1, .inl (k 0, 512, .inl (fun _ => 0)))])) := hD
  refine va_putF (D := D) (ci := 3) (v := .ref n_1) (ty := tyX3 0) (C := RX3) (T := TX3) (N := 6) hx hb hts (fun _ h9 => (List.mem_cons_of_mem _ (List.mem_append_left _ (List.mem_append_right _ h9)))) tyX3 tyX3_ok nmX3 hown hK hP hD hS 0 rfl rfl 0 (by decide) (hts _ (List.mem_of_getElem? (i := 5) rfl)) (fun _ h9 => h9) rfl hin rfl (tyX3_ok 0 (by decide)) rfl rfl (Nat.le_of_ble_eq_true rfl) dX3_init_10 (fun H locs hP hD hS => ?_)
  have hP : va_P D vwCl ([(a0, .inr (3, [.ref n_1, .null, .int 0, .int 0, .null, .null]))] ++ ([(n_1, .inl (k 0, 512, .inl (fun _ => 0)))])) H := hP
  have hD : va_D A ([(a0, .inr (3, [.ref n_1, .null, .int 0, .int 0, .null, .null]))] ++ ([(n_1, .inl (k 0, 512, .inl (fun _ => 0)))])) := hD
  refine lv_aload_n hx hb dX3_init_13 rfl (lv_at hl 0 rfl) ?_
  refine lv_sipush (v := 512) hx hb dX3_init_14 (by decide) ?_
  refine nw_i (k := k) hx hb (hts _ (List.mem_of_getElem? (i := 4) rfl)) hK hP hD hS hA 512 (by decide) rfl (Nat.le_of_ble_eq_true rfl) (Nat.le_of_ble_eq_true rfl) (Nat.le_of_ble_eq_true rfl) dX3_init_17 (fun n_2 H hP hD hS => ?_)
  refine W.widen (k := 2) (n := 1024) (Nat.le_of_ble_eq_true rfl) (Nat.le_of_ble_eq_true rfl) ?_
  have hP : va_P D vwCl ([(a0, .inr (3, [.ref n_1, .null, .int 0, .int 0, .null, .null]))] ++ ([(n_1, .inl (k 0, 512, .inl (fun _ => 0)))] ++ ([(n_2, .inl (k 0, 512, .inl (fun _ => 0)))]))) H := hP
  have hD : va_D A ([(a0, .inr (3, [.ref n_1, .null, .int 0, .int 0, .null, .null]))] ++ ([(n_1, .inl (k 0, 512, .inl (fun _ => 0)))] ++ ([(n_2, .inl (k 0, 512, .inl (fun _ => 0)))]))) := hD
  refine va_putF (D := D) (ci := 3) (v := .ref n_2) (ty := tyX3 1) (C := RX3) (T := TX3) (N := 6) hx hb hts (fun _ h9 => (List.mem_cons_of_mem _ (List.mem_append_left _ (List.mem_append_right _ h9)))) tyX3 tyX3_ok nmX3 hown hK hP hD hS 0 rfl rfl 1 (by decide) (hts _ (List.mem_of_getElem? (i := 6) rfl)) (fun _ h9 => h9) rfl hin rfl (tyX3_ok 1 (by decide)) rfl rfl (Nat.le_of_ble_eq_true rfl) dX3_init_19 (fun H locs hP hD hS => ?_)
  have hP : va_P D vwCl ([(a0, .inr (3, [.ref n_1, .ref n_2, .int 0, .int 0, .null, .null]))] ++ ([(n_1, .inl (k 0, 512, .inl (fun _ => 0)))] ++ ([(n_2, .inl (k 0, 512, .inl (fun _ => 0)))]))) H := hP
  have hD : va_D A ([(a0, .inr (3, [.ref n_1, .ref n_2, .int 0, .int 0, .null, .null]))] ++ ([(n_1, .inl (k 0, 512, .inl (fun _ => 0)))] ++ ([(n_2, .inl (k 0, 512, .inl (fun _ => 0)))]))) := hD
  refine lv_aload_n hx hb dX3_init_22 rfl (lv_at hl 0 rfl) ?_
  refine va_new (D := D) (ci := 1) (fs := [.null, .null, .null, .null, .null, .null, .null, .int 0, .int 0, .int 0]) (C := RX1) (T := TX1) (N := 10) hx hb hts (fun _ h9 => (List.mem_cons_of_mem _ (List.mem_append_right _ h9))) tyX1 tyX1_ok hown (hts _ (List.mem_of_getElem? (i := 7) rfl)) (hts _ (List.mem_of_getElem? (i := 8) rfl)) (hts _ (List.mem_of_getElem? (i := 9) rfl)) hK hP hD hS hA rfl (fun j hj => by rcases (show j = 0 ∨ j = 1 ∨ j = 2 ∨ j = 3 ∨ j = 4 ∨ j = 5 ∨ j = 6 ∨ j = 7 ∨ j = 8 ∨ j = 9 by omega) with rfl | rfl | rfl | rfl | rfl | rfl | rfl | rfl | rfl | rfl <;> rfl) (Nat.le_of_ble_eq_true rfl) (Nat.le_of_ble_eq_true rfl) dX3_init_23 (fun n_3 H hP hD hS => ?_)
  refine W.widen (k := 3) (n := 1034) (Nat.le_of_ble_eq_true rfl) (Nat.le_of_ble_eq_true rfl) ?_
  have hP : va_P D vwCl ([(a0, .inr (3, [.ref n_1, .ref n_2, .int 0, .int 0, .null, .null]))] ++ ([(n_1, .inl (k 0, 512, .inl (fun _ => 0)))] ++ ([(n_2, .inl (k 0, 512, .inl (fun _ => 0)))] ++ ([(n_3, .inr (1, [.null, .null, .null, .null, .null, .null, .null, .int 0, .int 0, .int 0]))])))) H := hP
  have hD : va_D A ([(a0, .inr (3, [.ref n_1, .ref n_2, .int 0, .int 0, .null, .null]))] ++ ([(n_1, .inl (k 0, 512, .inl (fun _ => 0)))] ++ ([(n_2, .inl (k 0, 512, .inl (fun _ => 0)))] ++ ([(n_3, .inr (1, [.null, .null, .null, .null, .null, .null, .null, .int 0, .int 0, .int 0]))])))) := hD
  refine lv_dup hx hb dX3_init_26 rfl ?_
  have hPc : va_P D vwCl [(n_3, .inr (1, [.null, .null, .null, .null, .null, .null, .null, .int 0, .int 0, .int 0]))] H := hP.sub [3] rfl
  have hDc : va_D A [(n_3, .inr (1, [.null, .null, .null, .null, .null, .null, .null, .int 0, .int 0, .int 0]))] := hD.sub [3] (by decide +kernel) rfl
  refine cl_vN (va_runIN (As := []) (rest := [.ref n_3, .ref a0]) ⟨hx, hb, hml, hown, hts⟩ (c_X1_init l D k n_3 H.size) ⟨va_cnB 0 hts gX3_init_X1_init_n20 rfl rfl rfl hN.2.2.2.2.1 (hts (.initialized RX1) (List.mem_of_getElem? (i := 9) rfl)) (by decide +kernel) ⟨Nat.le_of_ble_eq_true rfl, Nat.le_of_ble_eq_true rfl⟩, rfl, hts (.instanceMethod yX1_init) (List.mem_of_getElem? (i := 12) rfl)⟩ ⟨pr_blind, pr_at hN hPc hK hDc⟩ rfl rfl hl.1 rfl (lv_room (Nat.le_of_ble_eq_true rfl)) dX3_init_27 ⟨Nat.le_of_ble_eq_true rfl, Nat.le_of_ble_eq_true rfl⟩) hP hD hS hA [3] [0, 1, 2] rfl (wr := ([(a0, .inr (3, [.ref n_1, .ref n_2, .int 0, .int 0, .null, .null]))] ++ ([(n_1, .inl (k 0, 512, .inl (fun _ => 0)))] ++ ([(n_2, .inl (k 0, 512, .inl (fun _ => 0)))])))) rfl (by decide +kernel) (by decide +kernel) (fun w hw H9 locs9 hP9 hD9 hS9 => ?_)
  clear hPc hDc hP hD hS
  obtain ⟨b_4, hw0, rfl⟩ := hw
  subst hw0
  have hS := hS9
  refine W.widen (k := 10) (n := 1103) (Nat.le_of_ble_eq_true rfl) (Nat.le_of_ble_eq_true rfl) ?_
  have hP : va_P D vwCl ([(a0, .inr (3, [.ref n_1, .ref n_2, .int 0, .int 0, .null, .null]))] ++ ([(n_1, .inl (k 0, 512, .inl (fun _ => 0)))] ++ ([(n_2, .inl (k 0, 512, .inl (fun _ => 0)))] ++ (wSt k b_4 zS)))) _ := hP9
  have hD : va_D A ([(a0, .inr (3, [.ref n_1, .ref n_2, .int 0, .int 0, .null, .null]))] ++ ([(n_1, .inl (k 0, 512, .inl (fun _ => 0)))] ++ ([(n_2, .inl (k 0, 512, .inl (fun _ => 0)))] ++ (wSt k b_4 zS)))) := hD9
  clear hP9 hD9 hS9
  generalize H9 = H at hP hS ⊢
  refine va_putF (D := D) (ci := 3) (v := .ref (b_4 0)) (ty := tyX3 4) (C := RX3) (T := TX3) (N := 6) hx hb hts (fun _ h9 => (List.mem_cons_of_mem _ (List.mem_append_left _ (List.mem_append_right _ h9)))) tyX3 tyX3_ok nmX3 hown hK hP hD hS 0 rfl rfl 4 (by decide) (hts _ (List.mem_of_getElem? (i := 10) rfl)) (fun _ h9 => h9) rfl hin rfl (tyX3_ok 4 (by decide)) rfl rfl (Nat.le_of_ble_eq_true rfl) dX3_init_30 (fun H locs hP hD hS => ?_)
  have hP : va_P D vwCl ([(a0, .inr (3, [.ref n_1, .ref n_2, .int 0, .int 0, .ref (b_4 0), .null]))] ++ ([(n_1, .inl (k 0, 512, .inl (fun _ => 0)))] ++ ([(n_2, .inl (k 0, 512, .inl (fun _ => 0)))] ++ (wSt k b_4 zS)))) H := hP
  have hD : va_D A ([(a0, .inr (3, [.ref n_1, .ref n_2, .int 0, .int 0, .ref (b_4 0), .null]))] ++ ([(n_1, .inl (k 0, 512, .inl (fun _ => 0)))] ++ ([(n_2, .inl (k 0, 512, .inl (fun _ => 0)))] ++ (wSt k b_4 zS)))) := hD
  refine lv_aload_n hx hb dX3_init_33 rfl (lv_at hl 0 rfl) ?_
  refine lv_bipush (v := 9) hx hb dX3_init_34 (by decide) ?_
  refine nw_i (k := k) hx hb (hts _ (List.mem_of_getElem? (i := 4) rfl)) hK hP hD hS hA 9 (by decide) rfl (Nat.le_of_ble_eq_true rfl) (Nat.le_of_ble_eq_true rfl) (Nat.le_of_ble_eq_true rfl) dX3_init_36 (fun n_5 H hP hD hS => ?_)
  refine W.widen (k := 11) (n := 1112) (Nat.le_of_ble_eq_true rfl) (Nat.le_of_ble_eq_true rfl) ?_
  have hP : va_P D vwCl ([(a0, .inr (3, [.ref n_1, .ref n_2, .int 0, .int 0, .ref (b_4 0), .null]))] ++ ([(n_1, .inl (k 0, 512, .inl (fun _ => 0)))] ++ ([(n_2, .inl (k 0, 512, .inl (fun _ => 0)))] ++ (wSt k b_4 zS ++ ([(n_5, .inl (k 0, 9, .inl (fun _ => 0)))]))))) H := hP
  have hD : va_D A ([(a0, .inr (3, [.ref n_1, .ref n_2, .int 0, .int 0, .ref (b_4 0), .null]))] ++ ([(n_1, .inl (k 0, 512, .inl (fun _ => 0)))] ++ ([(n_2, .inl (k 0, 512, .inl (fun _ => 0)))] ++ (wSt k b_4 zS ++ ([(n_5, .inl (k 0, 9, .inl (fun _ => 0)))]))))) := hD
  refine va_putF (D := D) (ci := 3) (v := .ref n_5) (ty := tyX3 5) (C := RX3) (T := TX3) (N := 6) hx hb hts (fun _ h9 => (List.mem_cons_of_mem _ (List.mem_append_left _ (List.mem_append_right _ h9)))) tyX3 tyX3_ok nmX3 hown hK hP hD hS 0 rfl rfl 5 (by decide) (hts _ (List.mem_of_getElem? (i := 11) rfl)) (fun _ h9 => h9) rfl hin rfl (tyX3_ok 5 (by decide)) rfl rfl (Nat.le_of_ble_eq_true rfl) dX3_init_38 (fun H locs hP hD hS => ?_)
  have hP : va_P D vwCl ([(a0, .inr (3, [.ref n_1, .ref n_2, .int 0, .int 0, .ref (b_4 0), .ref n_5]))] ++ ([(n_1, .inl (k 0, 512, .inl (fun _ => 0)))] ++ ([(n_2, .inl (k 0, 512, .inl (fun _ => 0)))] ++ (wSt k b_4 zS ++ ([(n_5, .inl (k 0, 9, .inl (fun _ => 0)))]))))) H := hP
  have hD : va_D A ([(a0, .inr (3, [.ref n_1, .ref n_2, .int 0, .int 0, .ref (b_4 0), .ref n_5]))] ++ ([(n_1, .inl (k 0, 512, .inl (fun _ => 0)))] ++ ([(n_2, .inl (k 0, 512, .inl (fun _ => 0)))] ++ (wSt k b_4 zS ++ ([(n_5, .inl (k 0, 9, .inl (fun _ => 0)))]))))) := hD
  subst hQ
  refine W.widen (k := 11) (n := 1112) (Nat.le_of_ble_eq_true rfl) (Nat.le_of_ble_eq_true rfl) ?_
  exact rt_vN (wn := wWy k (ad4 a0 n_1 n_2 n_5) b_4 zS (fun _ => 0) (fun _ => 0) (fun _ => 0) 0 0) hx hb hr hlocks hS dX3_init_41 ⟨ad4 a0 n_1 n_2 n_5, b_4, rfl, rfl⟩ (hP.sub [0, 1, 2, 11, 3, 4, 5, 6, 7, 8, 9, 10] rfl) (hD.sub [0, 1, 2, 11, 3, 4, 5, 6, 7, 8, 9, 10] (by decide +kernel) rfl)

/-- the model's row at first -/
def f0M : Nat → Int32 := upd (upd (fun _ => 0) 18 1) 26 2
