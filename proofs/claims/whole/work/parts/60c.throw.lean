set_option maxHeartbeats 1000000 in
set_option maxRecDepth 100000 in
theorem t_append_1 (l : Launch) (hfl : l.stackTraces = false) (D : va_G) (k : Nat → ClassId) (x0 : Nat) (p0 : Int32) (h1 : inB p0 33 126 = false) : MX l yX4_append wsX4_append ({ frames := 6, cells := 1, slots := 6, locals := 90 }) D k [.ref x0, .int p0] ([]) "java/lang/IllegalArgumentException" ([]) := by
  intro sz
  refine vx_ofW (cc := cX4_append) (maxL := 2) (ret := (some .int)) (by decide) rfl ?_
  intro p e s m args below meth c s₁ B hml hno hv
  obtain ⟨rfl, hX, hZ, hN, hsz, hP, hK, hD0⟩ := hv
  have hx := B.exec
  have hb := B.bytes
  have hr := B.returns
  have hts := atoms_spec (ws := wsX4_append) B.pre
  have hown : s.vm.findClass RX4 = some m.cls := findClass_of_methodNamed B.named
  have hlocks := B.notSynchronized
  subst hsz
  have hD := hD0.self (sz := s.heap.size)
  generalize hAe : va_A ([]) s.heap.size = A at hD hZ ⊢
  have hA : ∀ q : Nat, s.heap.size ≤ q → A q := fun q h => by rw [← hAe]; exact Or.inr h
  have hS : va_S A s.heap s.heap [] := va_S.rf
  have hl := lv_entry ([.ref x0, .int p0]) (n := 2) (Nat.le_of_ble_eq_true rfl)
  rw [lg_entry_eq]
  generalize (lg_sl ([.ref x0, .int p0]) ++ List.replicate (2 - (lg_sl ([.ref x0, .int p0])).length) Slot.unset).toArray = ls at hl ⊢
  have hl : lv_has ls 2 [(0, .ref x0), (1, .int p0)] := hl
  obtain ⟨H, hHe⟩ : ∃ H, H = s.heap := ⟨_, rfl⟩
  have hP : va_P D vwCl ([]) H := by rw [hHe]; exact hP
  have hS : va_S A s.heap H [] := by rw [hHe]; exact hS
  rw [← hHe]
  refine absQ (fun Q hQ => ?_)
  refine lv_iload_n hx hb dX4_append_0 rfl (lv_at hl 1 rfl) ?_
  refine lv_bipush (v := 33) hx hb dX4_append_1 (by decide) ?_
  refine lv_icmp_lt (tgt := 12) hx hb dX4_append_3 (by decide) (fun c_1 => ?_) (fun c_1 => ?_)
  · obtain ⟨sa, hstr⟩ := hX.2.2.2 _ (List.mem_of_getElem? (i := 0) rfl)
    subst hQ
    exact vx_throwS (ik := 66) (is := 111) (ic := 70) (text := "a code is 33 to 126") hx hb hfl hown (by decide +kernel) (by decide +kernel) (hts _ (List.mem_of_getElem? (i := 1) rfl)) (hts _ (List.mem_of_getElem? (i := 2) rfl)) hstr (xat_IA (fun w hw => hts w (List.mem_cons_of_mem _ (List.mem_append_left _ (List.mem_append_right _ hw)))) hX) xgd_IA hZ.1 hZ.2 hS (by rw [hml]; exact hl.1) dX4_append_12 dX4_append_15 dX4_append_16 dX4_append_18 dX4_append_21 (fun x hx => (hno x hx).elim) (Nat.le_of_ble_eq_true rfl) (Nat.le_of_ble_eq_true rfl) (Nat.le_of_ble_eq_true rfl) (Nat.le_of_ble_eq_true rfl) hlocks (tx_x hP hS) hS.2.2 (Nat.le_of_ble_eq_true rfl) (Nat.le_of_ble_eq_true rfl)
  · refine lv_iload_n hx hb dX4_append_6 rfl (lv_at hl 1 rfl) ?_
    refine lv_bipush (v := 126) hx hb dX4_append_7 (by decide) ?_
    refine lv_icmp_le (tgt := 22) hx hb dX4_append_9 (by decide) (fun c_2 => ?_) (fun c_2 => ?_)
    · exact (inB_no h1 c_1 c_2).elim
    · obtain ⟨sa, hstr⟩ := hX.2.2.2 _ (List.mem_of_getElem? (i := 0) rfl)
      subst hQ
      exact vx_throwS (ik := 66) (is := 111) (ic := 70) (text := "a code is 33 to 126") hx hb hfl hown (by decide +kernel) (by decide +kernel) (hts _ (List.mem_of_getElem? (i := 1) rfl)) (hts _ (List.mem_of_getElem? (i := 2) rfl)) hstr (xat_IA (fun w hw => hts w (List.mem_cons_of_mem _ (List.mem_append_left _ (List.mem_append_right _ hw)))) hX) xgd_IA hZ.1 hZ.2 hS (by rw [hml]; exact hl.1) dX4_append_12 dX4_append_15 dX4_append_16 dX4_append_18 dX4_append_21 (fun x hx => (hno x hx).elim) (Nat.le_of_ble_eq_true rfl) (Nat.le_of_ble_eq_true rfl) (Nat.le_of_ble_eq_true rfl) (Nat.le_of_ble_eq_true rfl) hlocks (tx_x hP hS) hS.2.2 (Nat.le_of_ble_eq_true rfl) (Nat.le_of_ble_eq_true rfl)

set_option maxHeartbeats 1000000 in
set_option maxRecDepth 100000 in
theorem t_append_2 (l : Launch) (hfl : l.stackTraces = false) (D : va_G) (k : Nat → ClassId) (d : Nat → Nat → Nat) (ns p0 : Int32) (cd : Nat → Int32) (G : Nat → Nat → Int32) (pl : Int32) (kd : Int32 × Int32) (fs : Int32) (h1 : inB p0 33 126 = true) : MX l yX4_append wsX4_append ({ frames := 6, cells := 1, slots := 6, locals := 90 }) D k [.ref (d 0 0), .int p0] (wXo d ns ++ (wTx k (d 6) (d 7) cd 60 G pl kd fs)) "java/lang/IllegalStateException" (wXo d ns ++ (wTx k (d 6) (d 7) cd 60 G pl kd fs)) := by
  intro sz
  refine vx_ofW (cc := cX4_append) (maxL := 2) (ret := (some .int)) (by decide) rfl ?_
  intro p e s m args below meth c s₁ B hml hno hv
  obtain ⟨rfl, hX, hZ, hN, hsz, hP, hK, hD0⟩ := hv
  have hx := B.exec
  have hb := B.bytes
  have hr := B.returns
  have hts := atoms_spec (ws := wsX4_append) B.pre
  have hown : s.vm.findClass RX4 = some m.cls := findClass_of_methodNamed B.named
  have hlocks := B.notSynchronized
  subst hsz
  have hD := hD0.self (sz := s.heap.size)
  generalize hAe : va_A (wXo d ns ++ (wTx k (d 6) (d 7) cd 60 G pl kd fs)) s.heap.size = A at hD hZ ⊢
  have hA : ∀ q : Nat, s.heap.size ≤ q → A q := fun q h => by rw [← hAe]; exact Or.inr h
  have hS : va_S A s.heap s.heap [] := va_S.rf
  have hl := lv_entry ([.ref (d 0 0), .int p0]) (n := 2) (Nat.le_of_ble_eq_true rfl)
  rw [lg_entry_eq]
  generalize (lg_sl ([.ref (d 0 0), .int p0]) ++ List.replicate (2 - (lg_sl ([.ref (d 0 0), .int p0])).length) Slot.unset).toArray = ls at hl ⊢
  have hl : lv_has ls 2 [(0, .ref (d 0 0)), (1, .int p0)] := hl
  obtain ⟨H, hHe⟩ : ∃ H, H = s.heap := ⟨_, rfl⟩
  have hP : va_P D vwCl (wXo d ns ++ (wTx k (d 6) (d 7) cd 60 G pl kd fs)) H := by rw [hHe]; exact hP
  have hS : va_S A s.heap H [] := by rw [hHe]; exact hS
  rw [← hHe]
  refine absQ (fun Q hQ => ?_)
  refine lv_iload_n hx hb dX4_append_0 rfl (lv_at hl 1 rfl) ?_
  refine lv_bipush (v := 33) hx hb dX4_append_1 (by decide) ?_
  refine lv_icmp_lt (tgt := 12) hx hb dX4_append_3 (by decide) (fun c_1 => ?_) (fun c_1 => ?_)
  · exact (inB_lo h1 c_1).elim
  · refine lv_iload_n hx hb dX4_append_6 rfl (lv_at hl 1 rfl) ?_
    refine lv_bipush (v := 126) hx hb dX4_append_7 (by decide) ?_
    refine lv_icmp_le (tgt := 22) hx hb dX4_append_9 (by decide) (fun c_2 => ?_) (fun c_2 => ?_)
    · refine lv_aload_n hx hb dX4_append_22 rfl (lv_at hl 0 rfl) ?_
      refine va_get (D := D) (ci := 4) (v := .ref (d 6 0)) (C := RX4) (T := TX4) (N := 9) hx hb hts (fun _ h9 => (List.mem_cons_of_mem _ (List.mem_append_left _ (List.mem_append_left _ (List.mem_append_left _ (List.mem_append_right _ h9)))))) hown hK hP 0 rfl rfl 6 (by decide) (hts _ (List.mem_of_getElem? (i := 5) rfl)) (fun _ h9 => h9) rfl dX4_append_23 ?_
      refine va_get (D := D) (ci := 2) (v := .int 60) (C := RX2) (T := TX2) (N := 7) hx hb hts (fun _ h9 => (List.mem_cons_of_mem _ (List.mem_append_left _ (List.mem_append_left _ (List.mem_append_right _ h9))))) hown hK hP 1 rfl rfl 1 (by decide) (hts _ (List.mem_of_getElem? (i := 6) rfl)) (fun _ h9 => h9) rfl dX4_append_26 ?_
      refine lv_if_lt (tgt := 44) hx hb dX4_append_29 (by decide) (fun c_3 => ?_) (fun c_3 => ?_)
      · exact absurd c_3 (by decide)
      · refine lv_aload_n hx hb dX4_append_32 rfl (lv_at hl 0 rfl) ?_
        refine va_get (D := D) (ci := 4) (v := .ref (d 6 0)) (C := RX4) (T := TX4) (N := 9) hx hb hts (fun _ h9 => (List.mem_cons_of_mem _ (List.mem_append_left _ (List.mem_append_left _ (List.mem_append_left _ (List.mem_append_right _ h9)))))) hown hK hP 0 rfl rfl 6 (by decide) (hts _ (List.mem_of_getElem? (i := 5) rfl)) (fun _ h9 => h9) rfl dX4_append_33 ?_
        refine va_get (D := D) (ci := 2) (v := .int 60) (C := RX2) (T := TX2) (N := 7) hx hb hts (fun _ h9 => (List.mem_cons_of_mem _ (List.mem_append_left _ (List.mem_append_left _ (List.mem_append_right _ h9))))) hown hK hP 1 rfl rfl 1 (by decide) (hts _ (List.mem_of_getElem? (i := 6) rfl)) (fun _ h9 => h9) rfl dX4_append_36 ?_
        refine lv_bipush (v := 60) hx hb dX4_append_39 (by decide) ?_
        refine lv_icmp_lt (tgt := 54) hx hb dX4_append_41 (by decide) (fun c_4 => ?_) (fun c_4 => ?_)
        · exact absurd c_4 (by decide)
        · obtain ⟨sa, hstr⟩ := hX.2.2.2 _ (List.mem_of_getElem? (i := 1) rfl)
          subst hQ
          exact vx_throwS (ik := 116) (is := 118) (ic := 120) (text := "the buffer is full") hx hb hfl hown (by decide +kernel) (by decide +kernel) (hts _ (List.mem_of_getElem? (i := 3) rfl)) (hts _ (List.mem_of_getElem? (i := 4) rfl)) hstr (xat_IS (fun w hw => hts w (List.mem_cons_of_mem _ (List.mem_append_right _ hw))) hX) xgd_IS hZ.1 hZ.2 hS (by rw [hml]; exact hl.1) dX4_append_44 dX4_append_47 dX4_append_48 dX4_append_50 dX4_append_53 (fun x hx => (hno x hx).elim) (Nat.le_of_ble_eq_true rfl) (Nat.le_of_ble_eq_true rfl) (Nat.le_of_ble_eq_true rfl) (Nat.le_of_ble_eq_true rfl) hlocks (tx_x hP hS) hS.2.2 (Nat.le_of_ble_eq_true rfl) (Nat.le_of_ble_eq_true rfl)
    · exact (inB_hi h1 c_2).elim

set_option maxHeartbeats 1000000 in
set_option maxRecDepth 100000 in
theorem t_undo_1 (l : Launch) (hfl : l.stackTraces = false) (D : va_G) (k : Nat → ClassId) (d : Nat → Nat → Nat)  : MX l yX4_undo wsX4_undo ({ frames := 6, cells := 1, slots := 6, locals := 90 }) D k [.ref (d 0 0)] (wXo d 0) "java/lang/IllegalStateException" (wXo d 0) := by
  intro sz
  refine vx_ofW (cc := cX4_undo) (maxL := 1) (ret := (some .int)) (by decide) rfl ?_
  intro p e s m args below meth c s₁ B hml hno hv
  obtain ⟨rfl, hX, hZ, hN, hsz, hP, hK, hD0⟩ := hv
  have hx := B.exec
  have hb := B.bytes
  have hr := B.returns
  have hts := atoms_spec (ws := wsX4_undo) B.pre
  have hown : s.vm.findClass RX4 = some m.cls := findClass_of_methodNamed B.named
  have hlocks := B.notSynchronized
  subst hsz
  have hD := hD0.self (sz := s.heap.size)
  generalize hAe : va_A (wXo d 0) s.heap.size = A at hD hZ ⊢
  have hA : ∀ q : Nat, s.heap.size ≤ q → A q := fun q h => by rw [← hAe]; exact Or.inr h
  have hS : va_S A s.heap s.heap [] := va_S.rf
  have hl := lv_entry ([.ref (d 0 0)]) (n := 1) (Nat.le_of_ble_eq_true rfl)
  rw [lg_entry_eq]
  generalize (lg_sl ([.ref (d 0 0)]) ++ List.replicate (1 - (lg_sl ([.ref (d 0 0)])).length) Slot.unset).toArray = ls at hl ⊢
  have hl : lv_has ls 1 [(0, .ref (d 0 0))] := hl
  obtain ⟨H, hHe⟩ : ∃ H, H = s.heap := ⟨_, rfl⟩
  have hP : va_P D vwCl (wXo d 0) H := by rw [hHe]; exact hP
  have hS : va_S A s.heap H [] := by rw [hHe]; exact hS
  rw [← hHe]
  refine absQ (fun Q hQ => ?_)
  refine lv_aload_n hx hb dX4_undo_0 rfl (lv_at hl 0 rfl) ?_
  refine va_get (D := D) (ci := 4) (v := .int 0) (C := RX4) (T := TX4) (N := 9) hx hb hts (fun _ h9 => (List.mem_cons_of_mem _ (List.mem_append_left _ (List.mem_append_left _ (List.mem_append_right _ h9))))) hown hK hP 0 rfl rfl 3 (by decide) (hts _ (List.mem_of_getElem? (i := 3) rfl)) (fun _ h9 => h9) rfl dX4_undo_1 ?_
  refine lv_iconst (v := 1) hx hb dX4_undo_4 (by decide) ?_
  refine lv_icmp_lt (tgt := 17) hx hb dX4_undo_5 (by decide) (fun c_1 => ?_) (fun c_1 => ?_)
  · obtain ⟨sa, hstr⟩ := hX.2.2.2 _ (List.mem_of_getElem? (i := 5) rfl)
    subst hQ
    exact vx_throwS (ik := 116) (is := 157) (ic := 120) (text := "no saved state") hx hb hfl hown (by decide +kernel) (by decide +kernel) (hts _ (List.mem_of_getElem? (i := 1) rfl)) (hts _ (List.mem_of_getElem? (i := 2) rfl)) hstr (xat_IS (fun w hw => hts w (List.mem_cons_of_mem _ (List.mem_append_right _ hw))) hX) xgd_IS hZ.1 hZ.2 hS (by rw [hml]; exact hl.1) dX4_undo_17 dX4_undo_20 dX4_undo_21 dX4_undo_23 dX4_undo_26 (fun x hx => (hno x hx).elim) (Nat.le_of_ble_eq_true rfl) (Nat.le_of_ble_eq_true rfl) (Nat.le_of_ble_eq_true rfl) (Nat.le_of_ble_eq_true rfl) hlocks (tx_x hP hS) hS.2.2 (Nat.le_of_ble_eq_true rfl) (Nat.le_of_ble_eq_true rfl)
  · exact absurd c_1 (by decide)

set_option maxHeartbeats 1000000 in
set_option maxRecDepth 100000 in
theorem t_goBack_2_0 (l : Launch) (hfl : l.stackTraces = false) (D : va_G) (k : Nat → ClassId) (d : Nat → Nat → Nat) (ns : Int32) (kp : Nat → Int32) (hkp : kp 0 = 0) : MX l yX4_goBack wsX4_goBack ({ frames := 6, cells := 1, slots := 6, locals := 90 }) D k [.ref (d 0 0), .int 0] (wXo d ns ++ ([(d 5 0, .inl (k 1, 2, .inl kp))])) "java/lang/IllegalStateException" (wXo d ns ++ ([(d 5 0, .inl (k 1, 2, .inl kp))])) := by
  intro sz
  refine vx_ofW (cc := cX4_goBack) (maxL := 2) (ret := (some .int)) (by decide) rfl ?_
  intro p e s m args below meth c s₁ B hml hno hv
  obtain ⟨rfl, hX, hZ, hN, hsz, hP, hK, hD0⟩ := hv
  have hx := B.exec
  have hb := B.bytes
  have hr := B.returns
  have hts := atoms_spec (ws := wsX4_goBack) B.pre
  have hown : s.vm.findClass RX4 = some m.cls := findClass_of_methodNamed B.named
  have hlocks := B.notSynchronized
  subst hsz
  have hD := hD0.self (sz := s.heap.size)
  generalize hAe : va_A (wXo d ns ++ ([(d 5 0, .inl (k 1, 2, .inl kp))])) s.heap.size = A at hD hZ ⊢
  have hA : ∀ q : Nat, s.heap.size ≤ q → A q := fun q h => by rw [← hAe]; exact Or.inr h
  have hS : va_S A s.heap s.heap [] := va_S.rf
  have hl := lv_entry ([.ref (d 0 0), .int 0]) (n := 2) (Nat.le_of_ble_eq_true rfl)
  rw [lg_entry_eq]
  generalize (lg_sl ([.ref (d 0 0), .int 0]) ++ List.replicate (2 - (lg_sl ([.ref (d 0 0), .int 0])).length) Slot.unset).toArray = ls at hl ⊢
  have hl : lv_has ls 2 [(0, .ref (d 0 0)), (1, .int 0)] := hl
  obtain ⟨H, hHe⟩ : ∃ H, H = s.heap := ⟨_, rfl⟩
  have hP : va_P D vwCl (wXo d ns ++ ([(d 5 0, .inl (k 1, 2, .inl kp))])) H := by rw [hHe]; exact hP
  have hS : va_S A s.heap H [] := by rw [hHe]; exact hS
  rw [← hHe]
  refine absQ (fun Q hQ => ?_)
  refine lv_iload_n hx hb dX4_goBack_0 rfl (lv_at hl 1 rfl) ?_
  have hPc : va_P D vwCl ([]) H := hP.sub [] rfl
  have hDc : va_D A ([]) := hD.sub [] (by decide +kernel) rfl
  refine cl_i0 (va_runS (As := [.int 0]) (rest := []) ⟨hx, hb, hml, hown, hts⟩ (c_X4_isSlot l D k 0 H.size) (va_cwS 1 hts gX4_goBack_X4_isSlot rfl rfl rfl (by decide +kernel) ⟨Nat.le_of_ble_eq_true rfl, Nat.le_of_ble_eq_true rfl⟩) ⟨pr_blind, pr_at hN hPc hK hDc⟩ rfl rfl hl.1 rfl (lv_room (Nat.le_of_ble_eq_true rfl)) dX4_goBack_1 ⟨Nat.le_of_ble_eq_true rfl, Nat.le_of_ble_eq_true rfl⟩) hP hD hS hA [] rfl (fun H locs hP hD hS => ?_)
  clear hPc hDc
  refine lv_if_ne (tgt := 17) hx hb dX4_goBack_4 (by decide) (fun c_1 => ?_) (fun c_1 => ?_)
  · have c_1 := bI_ne.mp c_1
    refine lv_aload_n hx hb dX4_goBack_17 rfl (lv_at hl 0 rfl) ?_
    refine va_get (D := D) (ci := 4) (v := .ref (d 5 0)) (C := RX4) (T := TX4) (N := 9) hx hb hts (fun _ h9 => (List.mem_cons_of_mem _ (List.mem_append_left _ (List.mem_append_left _ (List.mem_append_left _ (List.mem_append_right _ h9)))))) hown hK hP 0 rfl rfl 5 (by decide) (hts _ (List.mem_of_getElem? (i := 5) rfl)) (fun _ h9 => h9) rfl dX4_goBack_18 ?_
    refine lv_iload_n hx hb dX4_goBack_21 rfl (lv_at hl 1 rfl) ?_
    refine ar_zld hx hb hK hP 1 rfl 0 rfl (show vp_in (nI 0) 2 from vp_in_nI (by decide) (by decide)) dX4_goBack_22 ?_
    refine lv_if_ne (tgt := 36) hx hb dX4_goBack_23 (by decide) (fun c_2 => ?_) (fun c_2 => ?_)
    · exact absurd hkp c_2
    · obtain ⟨sa, hstr⟩ := hX.2.2.2 _ (List.mem_of_getElem? (i := 4) rfl)
      subst hQ
      exact vx_throwS (ik := 116) (is := 152) (ic := 120) (text := "no snapshot in the slot") hx hb hfl hown (by decide +kernel) (by decide +kernel) (hts _ (List.mem_of_getElem? (i := 3) rfl)) (hts _ (List.mem_of_getElem? (i := 4) rfl)) hstr (xat_IS (fun w hw => hts w (List.mem_cons_of_mem _ (List.mem_append_right _ hw))) hX) xgd_IS hZ.1 hZ.2 hS (by rw [hml]; exact hl.1) dX4_goBack_26 dX4_goBack_29 dX4_goBack_30 dX4_goBack_32 dX4_goBack_35 (fun x hx => (hno x hx).elim) (Nat.le_of_ble_eq_true rfl) (Nat.le_of_ble_eq_true rfl) (Nat.le_of_ble_eq_true rfl) (Nat.le_of_ble_eq_true rfl) hlocks (tx_x hP hS) hS.2.2 (Nat.le_of_ble_eq_true rfl) (Nat.le_of_ble_eq_true rfl)
  · have c_1 := bI_eq.mp c_1
    exact absurd c_1 (by rw [(show slB 0 = true from rfl)]; decide)

set_option maxHeartbeats 1000000 in
set_option maxRecDepth 100000 in
theorem t_goBack_2_1 (l : Launch) (hfl : l.stackTraces = false) (D : va_G) (k : Nat → ClassId) (d : Nat → Nat → Nat) (ns : Int32) (kp : Nat → Int32) (hkp : kp 1 = 0) : MX l yX4_goBack wsX4_goBack ({ frames := 6, cells := 1, slots := 6, locals := 90 }) D k [.ref (d 0 0), .int 1] (wXo d ns ++ ([(d 5 0, .inl (k 1, 2, .inl kp))])) "java/lang/IllegalStateException" (wXo d ns ++ ([(d 5 0, .inl (k 1, 2, .inl kp))])) := by
  intro sz
  refine vx_ofW (cc := cX4_goBack) (maxL := 2) (ret := (some .int)) (by decide) rfl ?_
  intro p e s m args below meth c s₁ B hml hno hv
  obtain ⟨rfl, hX, hZ, hN, hsz, hP, hK, hD0⟩ := hv
  have hx := B.exec
  have hb := B.bytes
  have hr := B.returns
  have hts := atoms_spec (ws := wsX4_goBack) B.pre
  have hown : s.vm.findClass RX4 = some m.cls := findClass_of_methodNamed B.named
  have hlocks := B.notSynchronized
  subst hsz
  have hD := hD0.self (sz := s.heap.size)
  generalize hAe : va_A (wXo d ns ++ ([(d 5 0, .inl (k 1, 2, .inl kp))])) s.heap.size = A at hD hZ ⊢
  have hA : ∀ q : Nat, s.heap.size ≤ q → A q := fun q h => by rw [← hAe]; exact Or.inr h
  have hS : va_S A s.heap s.heap [] := va_S.rf
  have hl := lv_entry ([.ref (d 0 0), .int 1]) (n := 2) (Nat.le_of_ble_eq_true rfl)
  rw [lg_entry_eq]
  generalize (lg_sl ([.ref (d 0 0), .int 1]) ++ List.replicate (2 - (lg_sl ([.ref (d 0 0), .int 1])).length) Slot.unset).toArray = ls at hl ⊢
  have hl : lv_has ls 2 [(0, .ref (d 0 0)), (1, .int 1)] := hl
  obtain ⟨H, hHe⟩ : ∃ H, H = s.heap := ⟨_, rfl⟩
  have hP : va_P D vwCl (wXo d ns ++ ([(d 5 0, .inl (k 1, 2, .inl kp))])) H := by rw [hHe]; exact hP
  have hS : va_S A s.heap H [] := by rw [hHe]; exact hS
  rw [← hHe]
  refine absQ (fun Q hQ => ?_)
  refine lv_iload_n hx hb dX4_goBack_0 rfl (lv_at hl 1 rfl) ?_
  have hPc : va_P D vwCl ([]) H := hP.sub [] rfl
  have hDc : va_D A ([]) := hD.sub [] (by decide +kernel) rfl
  refine cl_i0 (va_runS (As := [.int 1]) (rest := []) ⟨hx, hb, hml, hown, hts⟩ (c_X4_isSlot l D k 1 H.size) (va_cwS 1 hts gX4_goBack_X4_isSlot rfl rfl rfl (by decide +kernel) ⟨Nat.le_of_ble_eq_true rfl, Nat.le_of_ble_eq_true rfl⟩) ⟨pr_blind, pr_at hN hPc hK hDc⟩ rfl rfl hl.1 rfl (lv_room (Nat.le_of_ble_eq_true rfl)) dX4_goBack_1 ⟨Nat.le_of_ble_eq_true rfl, Nat.le_of_ble_eq_true rfl⟩) hP hD hS hA [] rfl (fun H locs hP hD hS => ?_)
  clear hPc hDc
  refine lv_if_ne (tgt := 17) hx hb dX4_goBack_4 (by decide) (fun c_1 => ?_) (fun c_1 => ?_)
  · have c_1 := bI_ne.mp c_1
    refine lv_aload_n hx hb dX4_goBack_17 rfl (lv_at hl 0 rfl) ?_
    refine va_get (D := D) (ci := 4) (v := .ref (d 5 0)) (C := RX4) (T := TX4) (N := 9) hx hb hts (fun _ h9 => (List.mem_cons_of_mem _ (List.mem_append_left _ (List.mem_append_left _ (List.mem_append_left _ (List.mem_append_right _ h9)))))) hown hK hP 0 rfl rfl 5 (by decide) (hts _ (List.mem_of_getElem? (i := 5) rfl)) (fun _ h9 => h9) rfl dX4_goBack_18 ?_
    refine lv_iload_n hx hb dX4_goBack_21 rfl (lv_at hl 1 rfl) ?_
    refine ar_zld hx hb hK hP 1 rfl 1 rfl (show vp_in (nI 1) 2 from vp_in_nI (by decide) (by decide)) dX4_goBack_22 ?_
    refine lv_if_ne (tgt := 36) hx hb dX4_goBack_23 (by decide) (fun c_2 => ?_) (fun c_2 => ?_)
    · exact absurd hkp c_2
    · obtain ⟨sa, hstr⟩ := hX.2.2.2 _ (List.mem_of_getElem? (i := 4) rfl)
      subst hQ
      exact vx_throwS (ik := 116) (is := 152) (ic := 120) (text := "no snapshot in the slot") hx hb hfl hown (by decide +kernel) (by decide +kernel) (hts _ (List.mem_of_getElem? (i := 3) rfl)) (hts _ (List.mem_of_getElem? (i := 4) rfl)) hstr (xat_IS (fun w hw => hts w (List.mem_cons_of_mem _ (List.mem_append_right _ hw))) hX) xgd_IS hZ.1 hZ.2 hS (by rw [hml]; exact hl.1) dX4_goBack_26 dX4_goBack_29 dX4_goBack_30 dX4_goBack_32 dX4_goBack_35 (fun x hx => (hno x hx).elim) (Nat.le_of_ble_eq_true rfl) (Nat.le_of_ble_eq_true rfl) (Nat.le_of_ble_eq_true rfl) (Nat.le_of_ble_eq_true rfl) hlocks (tx_x hP hS) hS.2.2 (Nat.le_of_ble_eq_true rfl) (Nat.le_of_ble_eq_true rfl)
  · have c_1 := bI_eq.mp c_1
    exact absurd c_1 (by rw [(show slB 1 = true from rfl)]; decide)

set_option maxHeartbeats 1000000 in
set_option maxRecDepth 100000 in
theorem t_load_1 (l : Launch) (hfl : l.stackTraces = false) (D : va_G) (k : Nat → ClassId) (d : Nat → Nat → Nat) (ns : Int32) (cd : Nat → Int32) (ln : Nat) (G : Nat → Nat → Int32) (pl : Int32) (kd : Int32 × Int32) (fs : Int32) (hln : ln ≤ 60) (hfs : ∃ f, f < 9 ∧ fs = nI f) (hbad : (rdF cd ln G kd fs).1 < nI ln ∨ ¬ ((rdF cd ln G kd fs).2.2.1 = 5 ∨ (rdF cd ln G kd fs).2.2.1 = 6)) : MX l yX4_load wsX4_load ({ frames := 6, cells := 1, slots := 6, locals := 90 }) D k [.ref (d 0 0)] (wXo d ns ++ (wTx k (d 6) (d 7) cd (nI ln) G pl kd fs)) "java/lang/IllegalArgumentException" (wXo d ns ++ (wTx k (d 6) (d 7) cd (nI ln) ((rdF cd ln G kd fs).2.1) ((rdF cd ln G kd fs).2.2.1) ((rdF cd ln G kd fs).2.2.2.1) ((rdF cd ln G kd fs).2.2.2.2))) := by
  intro sz
  refine vx_ofW (cc := cX4_load) (maxL := 1) (ret := (some .int)) (by decide) rfl ?_
  intro p e s m args below meth c s₁ B hml hno hv
  obtain ⟨rfl, hX, hZ, hN, hsz, hP, hK, hD0⟩ := hv
  have hx := B.exec
  have hb := B.bytes
  have hr := B.returns
  have hts := atoms_spec (ws := wsX4_load) B.pre
  have hown : s.vm.findClass RX4 = some m.cls := findClass_of_methodNamed B.named
  have hlocks := B.notSynchronized
  subst hsz
  have hD := hD0.self (sz := s.heap.size)
  generalize hAe : va_A (wXo d ns ++ (wTx k (d 6) (d 7) cd (nI ln) G pl kd fs)) s.heap.size = A at hD hZ ⊢
  have hA : ∀ q : Nat, s.heap.size ≤ q → A q := fun q h => by rw [← hAe]; exact Or.inr h
  have hS : va_S A s.heap s.heap [] := va_S.rf
  have hl := lv_entry ([.ref (d 0 0)]) (n := 1) (Nat.le_of_ble_eq_true rfl)
  rw [lg_entry_eq]
  generalize (lg_sl ([.ref (d 0 0)]) ++ List.replicate (1 - (lg_sl ([.ref (d 0 0)])).length) Slot.unset).toArray = ls at hl ⊢
  have hl : lv_has ls 1 [(0, .ref (d 0 0))] := hl
  obtain ⟨H, hHe⟩ : ∃ H, H = s.heap := ⟨_, rfl⟩
  have hP : va_P D vwCl (wXo d ns ++ (wTx k (d 6) (d 7) cd (nI ln) G pl kd fs)) H := by rw [hHe]; exact hP
  have hS : va_S A s.heap H [] := by rw [hHe]; exact hS
  rw [← hHe]
  refine absQ (fun Q hQ => ?_)
  refine lv_aload_n hx hb dX4_load_0 rfl (lv_at hl 0 rfl) ?_
  refine va_get (D := D) (ci := 4) (v := .ref (d 6 0)) (C := RX4) (T := TX4) (N := 9) hx hb hts (fun _ h9 => (List.mem_cons_of_mem _ (List.mem_append_left _ (List.mem_append_left _ (List.mem_append_left _ (List.mem_append_right _ h9)))))) hown hK hP 0 rfl rfl 6 (by decide) (hts _ (List.mem_of_getElem? (i := 3) rfl)) (fun _ h9 => h9) rfl dX4_load_1 ?_
  have hPc : va_P D vwCl (wTx k (d 6) (d 7) cd (nI ln) G pl kd fs) H := hP.sub [1, 2, 3, 4, 5, 6, 7, 8, 9, 10] rfl
  have hDc : va_D A (wTx k (d 6) (d 7) cd (nI ln) G pl kd fs) := hD.sub [1, 2, 3, 4, 5, 6, 7, 8, 9, 10] (by decide +kernel) rfl
  refine cl_i (va_runV (As := []) (rest := []) ⟨hx, hb, hml, hown, hts⟩ (c_X2_read l D k (d 6) (d 7) cd ln G pl kd fs hln hfs H.size) (cwV 0 hts gX4_load_X2_read rfl rfl rfl (by decide +kernel) ⟨Nat.le_of_ble_eq_true rfl, Nat.le_of_ble_eq_true rfl⟩) ⟨pr_blind, va_recv hK hP (ci := 2) (q0 := 1) rfl rfl, pr_at hN hPc hK hDc⟩ rfl rfl hl.1 rfl (lv_room (Nat.le_of_ble_eq_true rfl)) dX4_load_4 ⟨Nat.le_of_ble_eq_true rfl, Nat.le_of_ble_eq_true rfl⟩) hP hD hS hA [1, 2, 3, 4, 5, 6, 7, 8, 9, 10] [0] (wXo d ns) [d 0 0, (d 6) 0, (d 6) 1, (d 7) 0, (d 7) 1, (d 7) 2, (d 7) 3, (d 7) 4, (d 7) 5, (d 7) 6, (d 7) 7] 11 rfl (wn := (wXo d ns ++ (wTx k (d 6) (d 7) cd (nI ln) ((rdF cd ln G kd fs).2.1) ((rdF cd ln G kd fs).2.2.1) ((rdF cd ln G kd fs).2.2.2.1) ((rdF cd ln G kd fs).2.2.2.2)))) rfl rfl rfl rfl (by decide +kernel) rfl rfl (fun H locs hP hD hS => ?_)
  clear hPc hDc
  refine lv_aload_n hx hb dX4_load_7 rfl (lv_at hl 0 rfl) ?_
  refine va_get (D := D) (ci := 4) (v := .ref (d 6 0)) (C := RX4) (T := TX4) (N := 9) hx hb hts (fun _ h9 => (List.mem_cons_of_mem _ (List.mem_append_left _ (List.mem_append_left _ (List.mem_append_left _ (List.mem_append_right _ h9)))))) hown hK hP 0 rfl rfl 6 (by decide) (hts _ (List.mem_of_getElem? (i := 3) rfl)) (fun _ h9 => h9) rfl dX4_load_8 ?_
  refine va_get (D := D) (ci := 2) (v := .int (nI ln)) (C := RX2) (T := TX2) (N := 7) hx hb hts (fun _ h9 => (List.mem_cons_of_mem _ (List.mem_append_left _ (List.mem_append_left _ (List.mem_append_right _ h9))))) hown hK hP 1 rfl rfl 1 (by decide) (hts _ (List.mem_of_getElem? (i := 4) rfl)) (fun _ h9 => h9) rfl dX4_load_11 ?_
  refine lv_icmp_lt (tgt := 27) hx hb dX4_load_14 (by decide) (fun c_1 => ?_) (fun c_1 => ?_)
  · obtain ⟨sa, hstr⟩ := hX.2.2.2 _ (List.mem_of_getElem? (i := 2) rfl)
    subst hQ
    exact vx_throwS (ik := 66) (is := 132) (ic := 70) (text := "the buffer does not tell a graph") hx hb hfl hown (by decide +kernel) (by decide +kernel) (hts _ (List.mem_of_getElem? (i := 1) rfl)) (hts _ (List.mem_of_getElem? (i := 2) rfl)) hstr (xat_IA (fun w hw => hts w (List.mem_cons_of_mem _ (List.mem_append_right _ hw))) hX) xgd_IA hZ.1 hZ.2 hS (by rw [hml]; exact hl.1) dX4_load_27 dX4_load_30 dX4_load_31 dX4_load_33 dX4_load_36 (fun x hx => (hno x hx).elim) (Nat.le_of_ble_eq_true rfl) (Nat.le_of_ble_eq_true rfl) (Nat.le_of_ble_eq_true rfl) (Nat.le_of_ble_eq_true rfl) hlocks (tx_x hP hS) hS.2.2 (Nat.le_of_ble_eq_true rfl) (Nat.le_of_ble_eq_true rfl)
  · refine lv_aload_n hx hb dX4_load_17 rfl (lv_at hl 0 rfl) ?_
    refine va_get (D := D) (ci := 4) (v := .ref (d 6 0)) (C := RX4) (T := TX4) (N := 9) hx hb hts (fun _ h9 => (List.mem_cons_of_mem _ (List.mem_append_left _ (List.mem_append_left _ (List.mem_append_left _ (List.mem_append_right _ h9)))))) hown hK hP 0 rfl rfl 6 (by decide) (hts _ (List.mem_of_getElem? (i := 3) rfl)) (fun _ h9 => h9) rfl dX4_load_18 ?_
    have hPc : va_P D vwCl (wTx k (d 6) (d 7) cd (nI ln) ((rdF cd ln G kd fs).2.1) ((rdF cd ln G kd fs).2.2.1) ((rdF cd ln G kd fs).2.2.2.1) ((rdF cd ln G kd fs).2.2.2.2)) H := hP.sub [1, 2, 3, 4, 5, 6, 7, 8, 9, 10] rfl
    have hDc : va_D A (wTx k (d 6) (d 7) cd (nI ln) ((rdF cd ln G kd fs).2.1) ((rdF cd ln G kd fs).2.2.1) ((rdF cd ln G kd fs).2.2.2.1) ((rdF cd ln G kd fs).2.2.2.2)) := hD.sub [1, 2, 3, 4, 5, 6, 7, 8, 9, 10] (by decide +kernel) rfl
    refine cl_i0 (va_runV (As := []) (rest := []) ⟨hx, hb, hml, hown, hts⟩ (c_X2_isWhole l D k (d 6) (d 7) cd (nI ln) ((rdF cd ln G kd fs).2.1) ((rdF cd ln G kd fs).2.2.1) ((rdF cd ln G kd fs).2.2.2.1) ((rdF cd ln G kd fs).2.2.2.2) H.size) (cwV 0 hts gX4_load_X2_isWhole rfl rfl rfl (by decide +kernel) ⟨Nat.le_of_ble_eq_true rfl, Nat.le_of_ble_eq_true rfl⟩) ⟨pr_blind, va_recv hK hP (ci := 2) (q0 := 1) rfl rfl, pr_at hN hPc hK hDc⟩ rfl rfl hl.1 rfl (lv_room (Nat.le_of_ble_eq_true rfl)) dX4_load_21 ⟨Nat.le_of_ble_eq_true rfl, Nat.le_of_ble_eq_true rfl⟩) hP hD hS hA [1, 2, 3, 4, 5, 6, 7, 8, 9, 10] rfl (fun H locs hP hD hS => ?_)
    clear hPc hDc
    refine lv_if_ne (tgt := 37) hx hb dX4_load_24 (by decide) (fun c_2 => ?_) (fun c_2 => ?_)
    · have c_2 := bI_ne.mp c_2
      exact absurd (of_decide_eq_true c_2) (hbad.resolve_left c_1)
    · have c_2 := bI_eq.mp c_2
      obtain ⟨sa, hstr⟩ := hX.2.2.2 _ (List.mem_of_getElem? (i := 2) rfl)
      subst hQ
      exact vx_throwS (ik := 66) (is := 132) (ic := 70) (text := "the buffer does not tell a graph") hx hb hfl hown (by decide +kernel) (by decide +kernel) (hts _ (List.mem_of_getElem? (i := 1) rfl)) (hts _ (List.mem_of_getElem? (i := 2) rfl)) hstr (xat_IA (fun w hw => hts w (List.mem_cons_of_mem _ (List.mem_append_right _ hw))) hX) xgd_IA hZ.1 hZ.2 hS (by rw [hml]; exact hl.1) dX4_load_27 dX4_load_30 dX4_load_31 dX4_load_33 dX4_load_36 (fun x hx => (hno x hx).elim) (Nat.le_of_ble_eq_true rfl) (Nat.le_of_ble_eq_true rfl) (Nat.le_of_ble_eq_true rfl) (Nat.le_of_ble_eq_true rfl) hlocks (tx_x hP hS) hS.2.2 (Nat.le_of_ble_eq_true rfl) (Nat.le_of_ble_eq_true rfl)
