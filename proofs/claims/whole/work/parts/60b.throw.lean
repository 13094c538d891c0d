theorem lt3 {x : Int32} (h : x < 3) : x ≤ 2 := by
  have h1 := Int32.lt_iff_toInt_lt.mp h
  have h2 : (3 : Int32).toInt = 3 := by decide +kernel
  have h3 : (2 : Int32).toInt = 2 := by decide +kernel
  exact Int32.le_iff_toInt_le.mpr (by omega)
theorem inB_o7 {x : Int32} (h : inB x 0 7 = false) : x.toInt < 0 ∨ 7 < x.toInt := by
  have h2 : (7 : Int32).toInt = 7 := by decide +kernel
  have h3 : (0 : Int32).toInt = 0 := by decide +kernel
  rcases inB_out h with h | h
  · have h1 := Int32.lt_iff_toInt_lt.mp h; exact Or.inl (by omega)
  · have h1 := Int32.lt_iff_toInt_lt.mp h; exact Or.inr (by omega)
theorem inB_o11 {x : Int32} (h : inB x 0 11 = false) : x.toInt < 0 ∨ 11 < x.toInt := by
  have h2 : (11 : Int32).toInt = 11 := by decide +kernel
  have h3 : (0 : Int32).toInt = 0 := by decide +kernel
  rcases inB_out h with h | h
  · have h1 := Int32.lt_iff_toInt_lt.mp h; exact Or.inl (by omega)
  · have h1 := Int32.lt_iff_toInt_lt.mp h; exact Or.inr (by omega)

set_option maxHeartbeats 1000000 in
set_option maxRecDepth 100000 in
theorem t_cover_1 (l : Launch) (hfl : l.stackTraces = false) (D : va_G) (k : Nat → ClassId) (x0 : Nat) (p0 p1 : Int32) (h1 : pcB p0 = false) : MX l yX4_cover wsX4_cover ({ frames := 6, cells := 1, slots := 6, locals := 90 }) D k [.ref x0, .int p0, .int p1] ([]) "java/lang/IndexOutOfBoundsException" ([]) := by
  intro sz
  refine vx_ofW (cc := cX4_cover) (maxL := 4) (ret := (some .int)) (by decide) rfl ?_
  intro p e s m args below meth c s₁ B hml hno hv
  obtain ⟨rfl, hX, hZ, hN, hsz, hP, hK, hD0⟩ := hv
  have hx := B.exec
  have hb := B.bytes
  have hr := B.returns
  have hts := atoms_spec (ws := wsX4_cover) B.pre
  have hown : s.vm.findClass RX4 = some m.cls := findClass_of_methodNamed B.named
  have hlocks := B.notSynchronized
  subst hsz
  have hD := hD0.self (sz := s.heap.size)
  generalize hAe : va_A ([]) s.heap.size = A at hD hZ ⊢
  have hA : ∀ q : Nat, s.heap.size ≤ q → A q := fun q h => by rw [← hAe]; exact Or.inr h
  have hS : va_S A s.heap s.heap [] := va_S.rf
  have hl := lv_entry ([.ref x0, .int p0, .int p1]) (n := 4) (Nat.le_of_ble_eq_true rfl)
  rw [lg_entry_eq]
  generalize (lg_sl ([.ref x0, .int p0, .int p1]) ++ List.replicate (4 - (lg_sl ([.ref x0, .int p0, .int p1])).length) Slot.unset).toArray = ls at hl ⊢
  have hl : lv_has ls 4 [(0, .ref x0), (1, .int p0), (2, .int p1)] := hl
  obtain ⟨H, hHe⟩ : ∃ H, H = s.heap := ⟨_, rfl⟩
  have hP : va_P D vwCl ([]) H := by rw [hHe]; exact hP
  have hS : va_S A s.heap H [] := by rw [hHe]; exact hS
  rw [← hHe]
  refine absQ (fun Q hQ => ?_)
  refine lv_iload_n hx hb dX4_cover_0 rfl (lv_at hl 1 rfl) ?_
  have hPc : va_P D vwCl ([]) H := hP.sub [] rfl
  have hDc : va_D A ([]) := hD.sub [] (by decide +kernel) rfl
  refine cl_i0 (va_runS (As := [.int p0]) (rest := []) ⟨hx, hb, hml, hown, hts⟩ (c_X4_isPiece l D k p0 H.size) (va_cwS 1 hts gX4_cover_X4_isPiece rfl rfl rfl (by decide +kernel) ⟨Nat.le_of_ble_eq_true rfl, Nat.le_of_ble_eq_true rfl⟩) ⟨pr_blind, pr_at hN hPc hK hDc⟩ rfl rfl hl.1 rfl (lv_room (Nat.le_of_ble_eq_true rfl)) dX4_cover_1 ⟨Nat.le_of_ble_eq_true rfl, Nat.le_of_ble_eq_true rfl⟩) hP hD hS hA [] rfl (fun H locs hP hD hS => ?_)
  clear hPc hDc
  refine lv_if_ne (tgt := 17) hx hb dX4_cover_4 (by decide) (fun c_1 => ?_) (fun c_1 => ?_)
  · have c_1 := bI_ne.mp c_1
    exact absurd c_1 (by rw [h1]; decide)
  · have c_1 := bI_eq.mp c_1
    obtain ⟨sa, hstr⟩ := hX.2.2.2 _ (List.mem_of_getElem? (i := 11) rfl)
    subst hQ
    exact vx_throwS (ik := 59) (is := 61) (ic := 63) (text := "no such piece") hx hb hfl hown (by decide +kernel) (by decide +kernel) (hts _ (List.mem_of_getElem? (i := 1) rfl)) (hts _ (List.mem_of_getElem? (i := 2) rfl)) hstr (xat_IO (fun w hw => hts w (List.mem_cons_of_mem _ (List.mem_append_left _ (List.mem_append_right _ hw)))) hX) xgd_IO hZ.1 hZ.2 hS (by rw [hml]; exact hl.1) dX4_cover_7 dX4_cover_10 dX4_cover_11 dX4_cover_13 dX4_cover_16 (fun x hx => (hno x hx).elim) (Nat.le_of_ble_eq_true rfl) (Nat.le_of_ble_eq_true rfl) (Nat.le_of_ble_eq_true rfl) (Nat.le_of_ble_eq_true rfl) hlocks (tx_x hP hS) hS.2.2 (Nat.le_of_ble_eq_true rfl) (Nat.le_of_ble_eq_true rfl)

set_option maxHeartbeats 1000000 in
set_option maxRecDepth 100000 in
theorem t_cover_2 (l : Launch) (hfl : l.stackTraces = false) (D : va_G) (k : Nat → ClassId) (x0 : Nat) (p0 p1 : Int32) (h1 : pcB p0 = true) (h2 : inB p1 0 999 = false) : MX l yX4_cover wsX4_cover ({ frames := 6, cells := 1, slots := 6, locals := 90 }) D k [.ref x0, .int p0, .int p1] ([]) "java/lang/IllegalArgumentException" ([]) := by
  intro sz
  refine vx_ofW (cc := cX4_cover) (maxL := 4) (ret := (some .int)) (by decide) rfl ?_
  intro p e s m args below meth c s₁ B hml hno hv
  obtain ⟨rfl, hX, hZ, hN, hsz, hP, hK, hD0⟩ := hv
  have hx := B.exec
  have hb := B.bytes
  have hr := B.returns
  have hts := atoms_spec (ws := wsX4_cover) B.pre
  have hown : s.vm.findClass RX4 = some m.cls := findClass_of_methodNamed B.named
  have hlocks := B.notSynchronized
  subst hsz
  have hD := hD0.self (sz := s.heap.size)
  generalize hAe : va_A ([]) s.heap.size = A at hD hZ ⊢
  have hA : ∀ q : Nat, s.heap.size ≤ q → A q := fun q h => by rw [← hAe]; exact Or.inr h
  have hS : va_S A s.heap s.heap [] := va_S.rf
  have hl := lv_entry ([.ref x0, .int p0, .int p1]) (n := 4) (Nat.le_of_ble_eq_true rfl)
  rw [lg_entry_eq]
  generalize (lg_sl ([.ref x0, .int p0, .int p1]) ++ List.replicate (4 - (lg_sl ([.ref x0, .int p0, .int p1])).length) Slot.unset).toArray = ls at hl ⊢
  have hl : lv_has ls 4 [(0, .ref x0), (1, .int p0), (2, .int p1)] := hl
  obtain ⟨H, hHe⟩ : ∃ H, H = s.heap := ⟨_, rfl⟩
  have hP : va_P D vwCl ([]) H := by rw [hHe]; exact hP
  have hS : va_S A s.heap H [] := by rw [hHe]; exact hS
  rw [← hHe]
  refine absQ (fun Q hQ => ?_)
  refine lv_iload_n hx hb dX4_cover_0 rfl (lv_at hl 1 rfl) ?_
  have hPc : va_P D vwCl ([]) H := hP.sub [] rfl
  have hDc : va_D A ([]) := hD.sub [] (by decide +kernel) rfl
  refine cl_i0 (va_runS (As := [.int p0]) (rest := []) ⟨hx, hb, hml, hown, hts⟩ (c_X4_isPiece l D k p0 H.size) (va_cwS 1 hts gX4_cover_X4_isPiece rfl rfl rfl (by decide +kernel) ⟨Nat.le_of_ble_eq_true rfl, Nat.le_of_ble_eq_true rfl⟩) ⟨pr_blind, pr_at hN hPc hK hDc⟩ rfl rfl hl.1 rfl (lv_room (Nat.le_of_ble_eq_true rfl)) dX4_cover_1 ⟨Nat.le_of_ble_eq_true rfl, Nat.le_of_ble_eq_true rfl⟩) hP hD hS hA [] rfl (fun H locs hP hD hS => ?_)
  clear hPc hDc
  refine lv_if_ne (tgt := 17) hx hb dX4_cover_4 (by decide) (fun c_1 => ?_) (fun c_1 => ?_)
  · have c_1 := bI_ne.mp c_1
    refine lv_iload_n hx hb dX4_cover_17 rfl (lv_at hl 2 rfl) ?_
    refine lv_if_lt (tgt := 28) hx hb dX4_cover_18 (by decide) (fun c_2 => ?_) (fun c_2 => ?_)
    · obtain ⟨sa, hstr⟩ := hX.2.2.2 _ (List.mem_of_getElem? (i := 12) rfl)
      subst hQ
      exact vx_throwS (ik := 66) (is := 68) (ic := 70) (text := "a cover is 0 to 999") hx hb hfl hown (by decide +kernel) (by decide +kernel) (hts _ (List.mem_of_getElem? (i := 3) rfl)) (hts _ (List.mem_of_getElem? (i := 4) rfl)) hstr (xat_IA (fun w hw => hts w (List.mem_cons_of_mem _ (List.mem_append_right _ hw))) hX) xgd_IA hZ.1 hZ.2 hS (by rw [hml]; exact hl.1) dX4_cover_28 dX4_cover_31 dX4_cover_32 dX4_cover_34 dX4_cover_37 (fun x hx => (hno x hx).elim) (Nat.le_of_ble_eq_true rfl) (Nat.le_of_ble_eq_true rfl) (Nat.le_of_ble_eq_true rfl) (Nat.le_of_ble_eq_true rfl) hlocks (tx_x hP hS) hS.2.2 (Nat.le_of_ble_eq_true rfl) (Nat.le_of_ble_eq_true rfl)
    · refine lv_iload_n hx hb dX4_cover_21 rfl (lv_at hl 2 rfl) ?_
      refine lv_sipush (v := 999) hx hb dX4_cover_22 (by decide) ?_
      refine lv_icmp_le (tgt := 38) hx hb dX4_cover_25 (by decide) (fun c_3 => ?_) (fun c_3 => ?_)
      · exact (inB_no h2 c_2 c_3).elim
      · obtain ⟨sa, hstr⟩ := hX.2.2.2 _ (List.mem_of_getElem? (i := 12) rfl)
        subst hQ
        exact vx_throwS (ik := 66) (is := 68) (ic := 70) (text := "a cover is 0 to 999") hx hb hfl hown (by decide +kernel) (by decide +kernel) (hts _ (List.mem_of_getElem? (i := 3) rfl)) (hts _ (List.mem_of_getElem? (i := 4) rfl)) hstr (xat_IA (fun w hw => hts w (List.mem_cons_of_mem _ (List.mem_append_right _ hw))) hX) xgd_IA hZ.1 hZ.2 hS (by rw [hml]; exact hl.1) dX4_cover_28 dX4_cover_31 dX4_cover_32 dX4_cover_34 dX4_cover_37 (fun x hx => (hno x hx).elim) (Nat.le_of_ble_eq_true rfl) (Nat.le_of_ble_eq_true rfl) (Nat.le_of_ble_eq_true rfl) (Nat.le_of_ble_eq_true rfl) hlocks (tx_x hP hS) hS.2.2 (Nat.le_of_ble_eq_true rfl) (Nat.le_of_ble_eq_true rfl)
  · have c_1 := bI_eq.mp c_1
    exact absurd c_1 (by rw [h1]; decide)

set_option maxHeartbeats 1000000 in
set_option maxRecDepth 100000 in
theorem t_join_1a (l : Launch) (hfl : l.stackTraces = false) (D : va_G) (k : Nat → ClassId) (x0 : Nat) (p0 p1 : Int32) (h1 : pcB p0 = false) : MX l yX4_join wsX4_join ({ frames := 6, cells := 1, slots := 6, locals := 90 }) D k [.ref x0, .int p0, .int p1] ([]) "java/lang/IndexOutOfBoundsException" ([]) := by
  intro sz
  refine vx_ofW (cc := cX4_join) (maxL := 3) (ret := (some .int)) (by decide) rfl ?_
  intro p e s m args below meth c s₁ B hml hno hv
  obtain ⟨rfl, hX, hZ, hN, hsz, hP, hK, hD0⟩ := hv
  have hx := B.exec
  have hb := B.bytes
  have hr := B.returns
  have hts := atoms_spec (ws := wsX4_join) B.pre
  have hown : s.vm.findClass RX4 = some m.cls := findClass_of_methodNamed B.named
  have hlocks := B.notSynchronized
  subst hsz
  have hD := hD0.self (sz := s.heap.size)
  generalize hAe : va_A ([]) s.heap.size = A at hD hZ ⊢
  have hA : ∀ q : Nat, s.heap.size ≤ q → A q := fun q h => by rw [← hAe]; exact Or.inr h
  have hS : va_S A s.heap s.heap [] := va_S.rf
  have hl := lv_entry ([.ref x0, .int p0, .int p1]) (n := 3) (Nat.le_of_ble_eq_true rfl)
  rw [lg_entry_eq]
  generalize (lg_sl ([.ref x0, .int p0, .int p1]) ++ List.replicate (3 - (lg_sl ([.ref x0, .int p0, .int p1])).length) Slot.unset).toArray = ls at hl ⊢
  have hl : lv_has ls 3 [(0, .ref x0), (1, .int p0), (2, .int p1)] := hl
  obtain ⟨H, hHe⟩ : ∃ H, H = s.heap := ⟨_, rfl⟩
  have hP : va_P D vwCl ([]) H := by rw [hHe]; exact hP
  have hS : va_S A s.heap H [] := by rw [hHe]; exact hS
  rw [← hHe]
  refine absQ (fun Q hQ => ?_)
  refine lv_iload_n hx hb dX4_join_0 rfl (lv_at hl 1 rfl) ?_
  have hPc : va_P D vwCl ([]) H := hP.sub [] rfl
  have hDc : va_D A ([]) := hD.sub [] (by decide +kernel) rfl
  refine cl_i0 (va_runS (As := [.int p0]) (rest := []) ⟨hx, hb, hml, hown, hts⟩ (c_X4_isPiece l D k p0 H.size) (va_cwS 1 hts gX4_join_X4_isPiece rfl rfl rfl (by decide +kernel) ⟨Nat.le_of_ble_eq_true rfl, Nat.le_of_ble_eq_true rfl⟩) ⟨pr_blind, pr_at hN hPc hK hDc⟩ rfl rfl hl.1 rfl (lv_room (Nat.le_of_ble_eq_true rfl)) dX4_join_1 ⟨Nat.le_of_ble_eq_true rfl, Nat.le_of_ble_eq_true rfl⟩) hP hD hS hA [] rfl (fun H locs hP hD hS => ?_)
  clear hPc hDc
  refine lv_if_eq (tgt := 14) hx hb dX4_join_4 (by decide) (fun c_1 => ?_) (fun c_1 => ?_)
  · have c_1 := bI_eq.mp c_1
    obtain ⟨sa, hstr⟩ := hX.2.2.2 _ (List.mem_of_getElem? (i := 11) rfl)
    subst hQ
    exact vx_throwS (ik := 59) (is := 61) (ic := 63) (text := "no such piece") hx hb hfl hown (by decide +kernel) (by decide +kernel) (hts _ (List.mem_of_getElem? (i := 1) rfl)) (hts _ (List.mem_of_getElem? (i := 2) rfl)) hstr (xat_IO (fun w hw => hts w (List.mem_cons_of_mem _ (List.mem_append_left _ (List.mem_append_right _ hw)))) hX) xgd_IO hZ.1 hZ.2 hS (by rw [hml]; exact hl.1) dX4_join_14 dX4_join_17 dX4_join_18 dX4_join_20 dX4_join_23 (fun x hx => (hno x hx).elim) (Nat.le_of_ble_eq_true rfl) (Nat.le_of_ble_eq_true rfl) (Nat.le_of_ble_eq_true rfl) (Nat.le_of_ble_eq_true rfl) hlocks (tx_x hP hS) hS.2.2 (Nat.le_of_ble_eq_true rfl) (Nat.le_of_ble_eq_true rfl)
  · have c_1 := bI_ne.mp c_1
    exact absurd c_1 (by rw [h1]; decide)

set_option maxHeartbeats 1000000 in
set_option maxRecDepth 100000 in
theorem t_join_1b (l : Launch) (hfl : l.stackTraces = false) (D : va_G) (k : Nat → ClassId) (x0 : Nat) (p0 p1 : Int32) (h1 : pcB p0 = true) (h2 : pcB p1 = false) : MX l yX4_join wsX4_join ({ frames := 6, cells := 1, slots := 6, locals := 90 }) D k [.ref x0, .int p0, .int p1] ([]) "java/lang/IndexOutOfBoundsException" ([]) := by
  intro sz
  refine vx_ofW (cc := cX4_join) (maxL := 3) (ret := (some .int)) (by decide) rfl ?_
  intro p e s m args below meth c s₁ B hml hno hv
  obtain ⟨rfl, hX, hZ, hN, hsz, hP, hK, hD0⟩ := hv
  have hx := B.exec
  have hb := B.bytes
  have hr := B.returns
  have hts := atoms_spec (ws := wsX4_join) B.pre
  have hown : s.vm.findClass RX4 = some m.cls := findClass_of_methodNamed B.named
  have hlocks := B.notSynchronized
  subst hsz
  have hD := hD0.self (sz := s.heap.size)
  generalize hAe : va_A ([]) s.heap.size = A at hD hZ ⊢
  have hA : ∀ q : Nat, s.heap.size ≤ q → A q := fun q h => by rw [← hAe]; exact Or.inr h
  have hS : va_S A s.heap s.heap [] := va_S.rf
  have hl := lv_entry ([.ref x0, .int p0, .int p1]) (n := 3) (Nat.le_of_ble_eq_true rfl)
  rw [lg_entry_eq]
  generalize (lg_sl ([.ref x0, .int p0, .int p1]) ++ List.replicate (3 - (lg_sl ([.ref x0, .int p0, .int p1])).length) Slot.unset).toArray = ls at hl ⊢
  have hl : lv_has ls 3 [(0, .ref x0), (1, .int p0), (2, .int p1)] := hl
  obtain ⟨H, hHe⟩ : ∃ H, H = s.heap := ⟨_, rfl⟩
  have hP : va_P D vwCl ([]) H := by rw [hHe]; exact hP
  have hS : va_S A s.heap H [] := by rw [hHe]; exact hS
  rw [← hHe]
  refine absQ (fun Q hQ => ?_)
  refine lv_iload_n hx hb dX4_join_0 rfl (lv_at hl 1 rfl) ?_
  have hPc : va_P D vwCl ([]) H := hP.sub [] rfl
  have hDc : va_D A ([]) := hD.sub [] (by decide +kernel) rfl
  refine cl_i0 (va_runS (As := [.int p0]) (rest := []) ⟨hx, hb, hml, hown, hts⟩ (c_X4_isPiece l D k p0 H.size) (va_cwS 1 hts gX4_join_X4_isPiece rfl rfl rfl (by decide +kernel) ⟨Nat.le_of_ble_eq_true rfl, Nat.le_of_ble_eq_true rfl⟩) ⟨pr_blind, pr_at hN hPc hK hDc⟩ rfl rfl hl.1 rfl (lv_room (Nat.le_of_ble_eq_true rfl)) dX4_join_1 ⟨Nat.le_of_ble_eq_true rfl, Nat.le_of_ble_eq_true rfl⟩) hP hD hS hA [] rfl (fun H locs hP hD hS => ?_)
  clear hPc hDc
  refine lv_if_eq (tgt := 14) hx hb dX4_join_4 (by decide) (fun c_1 => ?_) (fun c_1 => ?_)
  · have c_1 := bI_eq.mp c_1
    exact absurd c_1 (by rw [h1]; decide)
  · have c_1 := bI_ne.mp c_1
    refine lv_iload_n hx hb dX4_join_7 rfl (lv_at hl 2 rfl) ?_
    have hPc : va_P D vwCl ([]) H := hP.sub [] rfl
    have hDc : va_D A ([]) := hD.sub [] (by decide +kernel) rfl
    refine cl_i0 (va_runS (As := [.int p1]) (rest := []) ⟨hx, hb, hml, hown, hts⟩ (c_X4_isPiece l D k p1 H.size) (va_cwS 1 hts gX4_join_X4_isPiece rfl rfl rfl (by decide +kernel) ⟨Nat.le_of_ble_eq_true rfl, Nat.le_of_ble_eq_true rfl⟩) ⟨pr_blind, pr_at hN hPc hK hDc⟩ rfl rfl hl.1 rfl (lv_room (Nat.le_of_ble_eq_true rfl)) dX4_join_8 ⟨Nat.le_of_ble_eq_true rfl, Nat.le_of_ble_eq_true rfl⟩) hP hD hS hA [] rfl (fun H locs hP hD hS => ?_)
    clear hPc hDc
    refine lv_if_ne (tgt := 24) hx hb dX4_join_11 (by decide) (fun c_2 => ?_) (fun c_2 => ?_)
    · have c_2 := bI_ne.mp c_2
      exact absurd c_2 (by rw [h2]; decide)
    · have c_2 := bI_eq.mp c_2
      obtain ⟨sa, hstr⟩ := hX.2.2.2 _ (List.mem_of_getElem? (i := 11) rfl)
      subst hQ
      exact vx_throwS (ik := 59) (is := 61) (ic := 63) (text := "no such piece") hx hb hfl hown (by decide +kernel) (by decide +kernel) (hts _ (List.mem_of_getElem? (i := 1) rfl)) (hts _ (List.mem_of_getElem? (i := 2) rfl)) hstr (xat_IO (fun w hw => hts w (List.mem_cons_of_mem _ (List.mem_append_left _ (List.mem_append_right _ hw)))) hX) xgd_IO hZ.1 hZ.2 hS (by rw [hml]; exact hl.1) dX4_join_14 dX4_join_17 dX4_join_18 dX4_join_20 dX4_join_23 (fun x hx => (hno x hx).elim) (Nat.le_of_ble_eq_true rfl) (Nat.le_of_ble_eq_true rfl) (Nat.le_of_ble_eq_true rfl) (Nat.le_of_ble_eq_true rfl) hlocks (tx_x hP hS) hS.2.2 (Nat.le_of_ble_eq_true rfl) (Nat.le_of_ble_eq_true rfl)

set_option maxHeartbeats 1000000 in
set_option maxRecDepth 100000 in
theorem t_join_2 (l : Launch) (hfl : l.stackTraces = false) (D : va_G) (k : Nat → ClassId) (x0 : Nat) (p0 p1 : Int32) (h1 : pcB p0 = true) (h2 : pcB p1 = true) (h3 : ¬ p0 < p1) : MX l yX4_join wsX4_join ({ frames := 6, cells := 1, slots := 6, locals := 90 }) D k [.ref x0, .int p0, .int p1] ([]) "java/lang/IllegalArgumentException" ([]) := by
  intro sz
  refine vx_ofW (cc := cX4_join) (maxL := 3) (ret := (some .int)) (by decide) rfl ?_
  intro p e s m args below meth c s₁ B hml hno hv
  obtain ⟨rfl, hX, hZ, hN, hsz, hP, hK, hD0⟩ := hv
  have hx := B.exec
  have hb := B.bytes
  have hr := B.returns
  have hts := atoms_spec (ws := wsX4_join) B.pre
  have hown : s.vm.findClass RX4 = some m.cls := findClass_of_methodNamed B.named
  have hlocks := B.notSynchronized
  subst hsz
  have hD := hD0.self (sz := s.heap.size)
  generalize hAe : va_A ([]) s.heap.size = A at hD hZ ⊢
  have hA : ∀ q : Nat, s.heap.size ≤ q → A q := fun q h => by rw [← hAe]; exact Or.inr h
  have hS : va_S A s.heap s.heap [] := va_S.rf
  have hl := lv_entry ([.ref x0, .int p0, .int p1]) (n := 3) (Nat.le_of_ble_eq_true rfl)
  rw [lg_entry_eq]
  generalize (lg_sl ([.ref x0, .int p0, .int p1]) ++ List.replicate (3 - (lg_sl ([.ref x0, .int p0, .int p1])).length) Slot.unset).toArray = ls at hl ⊢
  have hl : lv_has ls 3 [(0, .ref x0), (1, .int p0), (2, .int p1)] := hl
  obtain ⟨H, hHe⟩ : ∃ H, H = s.heap := ⟨_, rfl⟩
  have hP : va_P D vwCl ([]) H := by rw [hHe]; exact hP
  have hS : va_S A s.heap H [] := by rw [hHe]; exact hS
  rw [← hHe]
  refine absQ (fun Q hQ => ?_)
  refine lv_iload_n hx hb dX4_join_0 rfl (lv_at hl 1 rfl) ?_
  have hPc : va_P D vwCl ([]) H := hP.sub [] rfl
  have hDc : va_D A ([]) := hD.sub [] (by decide +kernel) rfl
  refine cl_i0 (va_runS (As := [.int p0]) (rest := []) ⟨hx, hb, hml, hown, hts⟩ (c_X4_isPiece l D k p0 H.size) (va_cwS 1 hts gX4_join_X4_isPiece rfl rfl rfl (by decide +kernel) ⟨Nat.le_of_ble_eq_true rfl, Nat.le_of_ble_eq_true rfl⟩) ⟨pr_blind, pr_at hN hPc hK hDc⟩ rfl rfl hl.1 rfl (lv_room (Nat.le_of_ble_eq_true rfl)) dX4_join_1 ⟨Nat.le_of_ble_eq_true rfl, Nat.le_of_ble_eq_true rfl⟩) hP hD hS hA [] rfl (fun H locs hP hD hS => ?_)
  clear hPc hDc
  refine lv_if_eq (tgt := 14) hx hb dX4_join_4 (by decide) (fun c_1 => ?_) (fun c_1 => ?_)
  · have c_1 := bI_eq.mp c_1
    exact absurd c_1 (by rw [h1]; decide)
  · have c_1 := bI_ne.mp c_1
    refine lv_iload_n hx hb dX4_join_7 rfl (lv_at hl 2 rfl) ?_
    have hPc : va_P D vwCl ([]) H := hP.sub [] rfl
    have hDc : va_D A ([]) := hD.sub [] (by decide +kernel) rfl
    refine cl_i0 (va_runS (As := [.int p1]) (rest := []) ⟨hx, hb, hml, hown, hts⟩ (c_X4_isPiece l D k p1 H.size) (va_cwS 1 hts gX4_join_X4_isPiece rfl rfl rfl (by decide +kernel) ⟨Nat.le_of_ble_eq_true rfl, Nat.le_of_ble_eq_true rfl⟩) ⟨pr_blind, pr_at hN hPc hK hDc⟩ rfl rfl hl.1 rfl (lv_room (Nat.le_of_ble_eq_true rfl)) dX4_join_8 ⟨Nat.le_of_ble_eq_true rfl, Nat.le_of_ble_eq_true rfl⟩) hP hD hS hA [] rfl (fun H locs hP hD hS => ?_)
    clear hPc hDc
    refine lv_if_ne (tgt := 24) hx hb dX4_join_11 (by decide) (fun c_2 => ?_) (fun c_2 => ?_)
    · have c_2 := bI_ne.mp c_2
      refine lv_iload_n hx hb dX4_join_24 rfl (lv_at hl 2 rfl) ?_
      refine lv_iload_n hx hb dX4_join_25 rfl (lv_at hl 1 rfl) ?_
      refine lv_icmp_gt (tgt := 39) hx hb dX4_join_26 (by decide) (fun c_3 => ?_) (fun c_3 => ?_)
      · exact absurd c_3 h3
      · obtain ⟨sa, hstr⟩ := hX.2.2.2 _ (List.mem_of_getElem? (i := 13) rfl)
        subst hQ
        exact vx_throwS (ik := 66) (is := 80) (ic := 70) (text := "a join is to a greater piece") hx hb hfl hown (by decide +kernel) (by decide +kernel) (hts _ (List.mem_of_getElem? (i := 3) rfl)) (hts _ (List.mem_of_getElem? (i := 4) rfl)) hstr (xat_IA (fun w hw => hts w (List.mem_cons_of_mem _ (List.mem_append_right _ hw))) hX) xgd_IA hZ.1 hZ.2 hS (by rw [hml]; exact hl.1) dX4_join_29 dX4_join_32 dX4_join_33 dX4_join_35 dX4_join_38 (fun x hx => (hno x hx).elim) (Nat.le_of_ble_eq_true rfl) (Nat.le_of_ble_eq_true rfl) (Nat.le_of_ble_eq_true rfl) (Nat.le_of_ble_eq_true rfl) hlocks (tx_x hP hS) hS.2.2 (Nat.le_of_ble_eq_true rfl) (Nat.le_of_ble_eq_true rfl)
    · have c_2 := bI_eq.mp c_2
      exact absurd c_2 (by rw [h2]; decide)

set_option maxHeartbeats 1000000 in
set_option maxRecDepth 100000 in
theorem t_mark_1 (l : Launch) (hfl : l.stackTraces = false) (D : va_G) (k : Nat → ClassId) (x0 : Nat) (p0 p1 : Int32) (h1 : pcB p0 = false) : MX l yX4_mark wsX4_mark ({ frames := 6, cells := 1, slots := 6, locals := 90 }) D k [.ref x0, .int p0, .int p1] ([]) "java/lang/IndexOutOfBoundsException" ([]) := by
  intro sz
  refine vx_ofW (cc := cX4_mark) (maxL := 4) (ret := (some .int)) (by decide) rfl ?_
  intro p e s m args below meth c s₁ B hml hno hv
  obtain ⟨rfl, hX, hZ, hN, hsz, hP, hK, hD0⟩ := hv
  have hx := B.exec
  have hb := B.bytes
  have hr := B.returns
  have hts := atoms_spec (ws := wsX4_mark) B.pre
  have hown : s.vm.findClass RX4 = some m.cls := findClass_of_methodNamed B.named
  have hlocks := B.notSynchronized
  subst hsz
  have hD := hD0.self (sz := s.heap.size)
  generalize hAe : va_A ([]) s.heap.size = A at hD hZ ⊢
  have hA : ∀ q : Nat, s.heap.size ≤ q → A q := fun q h => by rw [← hAe]; exact Or.inr h
  have hS : va_S A s.heap s.heap [] := va_S.rf
  have hl := lv_entry ([.ref x0, .int p0, .int p1]) (n := 4) (Nat.le_of_ble_eq_true rfl)
  rw [lg_entry_eq]
  generalize (lg_sl ([.ref x0, .int p0, .int p1]) ++ List.replicate (4 - (lg_sl ([.ref x0, .int p0, .int p1])).length) Slot.unset).toArray = ls at hl ⊢
  have hl : lv_has ls 4 [(0, .ref x0), (1, .int p0), (2, .int p1)] := hl
  obtain ⟨H, hHe⟩ : ∃ H, H = s.heap := ⟨_, rfl⟩
  have hP : va_P D vwCl ([]) H := by rw [hHe]; exact hP
  have hS : va_S A s.heap H [] := by rw [hHe]; exact hS
  rw [← hHe]
  refine absQ (fun Q hQ => ?_)
  refine lv_iload_n hx hb dX4_mark_0 rfl (lv_at hl 1 rfl) ?_
  have hPc : va_P D vwCl ([]) H := hP.sub [] rfl
  have hDc : va_D A ([]) := hD.sub [] (by decide +kernel) rfl
  refine cl_i0 (va_runS (As := [.int p0]) (rest := []) ⟨hx, hb, hml, hown, hts⟩ (c_X4_isPiece l D k p0 H.size) (va_cwS 1 hts gX4_mark_X4_isPiece rfl rfl rfl (by decide +kernel) ⟨Nat.le_of_ble_eq_true rfl, Nat.le_of_ble_eq_true rfl⟩) ⟨pr_blind, pr_at hN hPc hK hDc⟩ rfl rfl hl.1 rfl (lv_room (Nat.le_of_ble_eq_true rfl)) dX4_mark_1 ⟨Nat.le_of_ble_eq_true rfl, Nat.le_of_ble_eq_true rfl⟩) hP hD hS hA [] rfl (fun H locs hP hD hS => ?_)
  clear hPc hDc
  refine lv_if_ne (tgt := 17) hx hb dX4_mark_4 (by decide) (fun c_1 => ?_) (fun c_1 => ?_)
  · have c_1 := bI_ne.mp c_1
    exact absurd c_1 (by rw [h1]; decide)
  · have c_1 := bI_eq.mp c_1
    obtain ⟨sa, hstr⟩ := hX.2.2.2 _ (List.mem_of_getElem? (i := 11) rfl)
    subst hQ
    exact vx_throwS (ik := 59) (is := 61) (ic := 63) (text := "no such piece") hx hb hfl hown (by decide +kernel) (by decide +kernel) (hts _ (List.mem_of_getElem? (i := 1) rfl)) (hts _ (List.mem_of_getElem? (i := 2) rfl)) hstr (xat_IO (fun w hw => hts w (List.mem_cons_of_mem _ (List.mem_append_left _ (List.mem_append_right _ hw)))) hX) xgd_IO hZ.1 hZ.2 hS (by rw [hml]; exact hl.1) dX4_mark_7 dX4_mark_10 dX4_mark_11 dX4_mark_13 dX4_mark_16 (fun x hx => (hno x hx).elim) (Nat.le_of_ble_eq_true rfl) (Nat.le_of_ble_eq_true rfl) (Nat.le_of_ble_eq_true rfl) (Nat.le_of_ble_eq_true rfl) hlocks (tx_x hP hS) hS.2.2 (Nat.le_of_ble_eq_true rfl) (Nat.le_of_ble_eq_true rfl)

set_option maxHeartbeats 1000000 in
set_option maxRecDepth 100000 in
theorem t_mark_2 (l : Launch) (hfl : l.stackTraces = false) (D : va_G) (k : Nat → ClassId) (x0 : Nat) (p0 p1 : Int32) (h1 : pcB p0 = true) (h2 : inB p1 0 3 = false) : MX l yX4_mark wsX4_mark ({ frames := 6, cells := 1, slots := 6, locals := 90 }) D k [.ref x0, .int p0, .int p1] ([]) "java/lang/IllegalArgumentException" ([]) := by
  intro sz
  refine vx_ofW (cc := cX4_mark) (maxL := 4) (ret := (some .int)) (by decide) rfl ?_
  intro p e s m args below meth c s₁ B hml hno hv
  obtain ⟨rfl, hX, hZ, hN, hsz, hP, hK, hD0⟩ := hv
  have hx := B.exec
  have hb := B.bytes
  have hr := B.returns
  have hts := atoms_spec (ws := wsX4_mark) B.pre
  have hown : s.vm.findClass RX4 = some m.cls := findClass_of_methodNamed B.named
  have hlocks := B.notSynchronized
  subst hsz
  have hD := hD0.self (sz := s.heap.size)
  generalize hAe : va_A ([]) s.heap.size = A at hD hZ ⊢
  have hA : ∀ q : Nat, s.heap.size ≤ q → A q := fun q h => by rw [← hAe]; exact Or.inr h
  have hS : va_S A s.heap s.heap [] := va_S.rf
  have hl := lv_entry ([.ref x0, .int p0, .int p1]) (n := 4) (Nat.le_of_ble_eq_true rfl)
  rw [lg_entry_eq]
  generalize (lg_sl ([.ref x0, .int p0, .int p1]) ++ List.replicate (4 - (lg_sl ([.ref x0, .int p0, .int p1])).length) Slot.unset).toArray = ls at hl ⊢
  have hl : lv_has ls 4 [(0, .ref x0), (1, .int p0), (2, .int p1)] := hl
  obtain ⟨H, hHe⟩ : ∃ H, H = s.heap := ⟨_, rfl⟩
  have hP : va_P D vwCl ([]) H := by rw [hHe]; exact hP
  have hS : va_S A s.heap H [] := by rw [hHe]; exact hS
  rw [← hHe]
  refine absQ (fun Q hQ => ?_)
  refine lv_iload_n hx hb dX4_mark_0 rfl (lv_at hl 1 rfl) ?_
  have hPc : va_P D vwCl ([]) H := hP.sub [] rfl
  have hDc : va_D A ([]) := hD.sub [] (by decide +kernel) rfl
  refine cl_i0 (va_runS (As := [.int p0]) (rest := []) ⟨hx, hb, hml, hown, hts⟩ (c_X4_isPiece l D k p0 H.size) (va_cwS 1 hts gX4_mark_X4_isPiece rfl rfl rfl (by decide +kernel) ⟨Nat.le_of_ble_eq_true rfl, Nat.le_of_ble_eq_true rfl⟩) ⟨pr_blind, pr_at hN hPc hK hDc⟩ rfl rfl hl.1 rfl (lv_room (Nat.le_of_ble_eq_true rfl)) dX4_mark_1 ⟨Nat.le_of_ble_eq_true rfl, Nat.le_of_ble_eq_true rfl⟩) hP hD hS hA [] rfl (fun H locs hP hD hS => ?_)
  clear hPc hDc
  refine lv_if_ne (tgt := 17) hx hb dX4_mark_4 (by decide) (fun c_1 => ?_) (fun c_1 => ?_)
  · have c_1 := bI_ne.mp c_1
    refine lv_iload_n hx hb dX4_mark_17 rfl (lv_at hl 2 rfl) ?_
    refine lv_if_lt (tgt := 26) hx hb dX4_mark_18 (by decide) (fun c_2 => ?_) (fun c_2 => ?_)
    · obtain ⟨sa, hstr⟩ := hX.2.2.2 _ (List.mem_of_getElem? (i := 14) rfl)
      subst hQ
      exact vx_throwS (ik := 66) (is := 89) (ic := 70) (text := "a mark is 0 to 3") hx hb hfl hown (by decide +kernel) (by decide +kernel) (hts _ (List.mem_of_getElem? (i := 3) rfl)) (hts _ (List.mem_of_getElem? (i := 4) rfl)) hstr (xat_IA (fun w hw => hts w (List.mem_cons_of_mem _ (List.mem_append_right _ hw))) hX) xgd_IA hZ.1 hZ.2 hS (by rw [hml]; exact hl.1) dX4_mark_26 dX4_mark_29 dX4_mark_30 dX4_mark_32 dX4_mark_35 (fun x hx => (hno x hx).elim) (Nat.le_of_ble_eq_true rfl) (Nat.le_of_ble_eq_true rfl) (Nat.le_of_ble_eq_true rfl) (Nat.le_of_ble_eq_true rfl) hlocks (tx_x hP hS) hS.2.2 (Nat.le_of_ble_eq_true rfl) (Nat.le_of_ble_eq_true rfl)
    · refine lv_iload_n hx hb dX4_mark_21 rfl (lv_at hl 2 rfl) ?_
      refine lv_iconst (v := 3) hx hb dX4_mark_22 (by decide) ?_
      refine lv_icmp_le (tgt := 36) hx hb dX4_mark_23 (by decide) (fun c_3 => ?_) (fun c_3 => ?_)
      · exact (inB_no h2 c_2 c_3).elim
      · obtain ⟨sa, hstr⟩ := hX.2.2.2 _ (List.mem_of_getElem? (i := 14) rfl)
        subst hQ
        exact vx_throwS (ik := 66) (is := 89) (ic := 70) (text := "a mark is 0 to 3") hx hb hfl hown (by decide +kernel) (by decide +kernel) (hts _ (List.mem_of_getElem? (i := 3) rfl)) (hts _ (List.mem_of_getElem? (i := 4) rfl)) hstr (xat_IA (fun w hw => hts w (List.mem_cons_of_mem _ (List.mem_append_right _ hw))) hX) xgd_IA hZ.1 hZ.2 hS (by rw [hml]; exact hl.1) dX4_mark_26 dX4_mark_29 dX4_mark_30 dX4_mark_32 dX4_mark_35 (fun x hx => (hno x hx).elim) (Nat.le_of_ble_eq_true rfl) (Nat.le_of_ble_eq_true rfl) (Nat.le_of_ble_eq_true rfl) (Nat.le_of_ble_eq_true rfl) hlocks (tx_x hP hS) hS.2.2 (Nat.le_of_ble_eq_true rfl) (Nat.le_of_ble_eq_true rfl)
  · have c_1 := bI_eq.mp c_1
    exact absurd c_1 (by rw [h1]; decide)

set_option maxHeartbeats 1000000 in
set_option maxRecDepth 100000 in
theorem t_bar_1a (l : Launch) (hfl : l.stackTraces = false) (D : va_G) (k : Nat → ClassId) (x0 : Nat) (p0 p1 : Int32) (h1 : pcB p0 = false) : MX l yX4_bar wsX4_bar ({ frames := 6, cells := 1, slots := 6, locals := 90 }) D k [.ref x0, .int p0, .int p1] ([]) "java/lang/IndexOutOfBoundsException" ([]) := by
  intro sz
  refine vx_ofW (cc := cX4_bar) (maxL := 3) (ret := (some .int)) (by decide) rfl ?_
  intro p e s m args below meth c s₁ B hml hno hv
  obtain ⟨rfl, hX, hZ, hN, hsz, hP, hK, hD0⟩ := hv
  have hx := B.exec
  have hb := B.bytes
  have hr := B.returns
  have hts := atoms_spec (ws := wsX4_bar) B.pre
  have hown : s.vm.findClass RX4 = some m.cls := findClass_of_methodNamed B.named
  have hlocks := B.notSynchronized
  subst hsz
  have hD := hD0.self (sz := s.heap.size)
  generalize hAe : va_A ([]) s.heap.size = A at hD hZ ⊢
  have hA : ∀ q : Nat, s.heap.size ≤ q → A q := fun q h => by rw [← hAe]; exact Or.inr h
  have hS : va_S A s.heap s.heap [] := va_S.rf
  have hl := lv_entry ([.ref x0, .int p0, .int p1]) (n := 3) (Nat.le_of_ble_eq_true rfl)
  rw [lg_entry_eq]
  generalize (lg_sl ([.ref x0, .int p0, .int p1]) ++ List.replicate (3 - (lg_sl ([.ref x0, .int p0, .int p1])).length) Slot.unset).toArray = ls at hl ⊢
  have hl : lv_has ls 3 [(0, .ref x0), (1, .int p0), (2, .int p1)] := hl
  obtain ⟨H, hHe⟩ : ∃ H, H = s.heap := ⟨_, rfl⟩
  have hP : va_P D vwCl ([]) H := by rw [hHe]; exact hP
  have hS : va_S A s.heap H [] := by rw [hHe]; exact hS
  rw [← hHe]
  refine absQ (fun Q hQ => ?_)
  refine lv_iload_n hx hb dX4_bar_0 rfl (lv_at hl 1 rfl) ?_
  have hPc : va_P D vwCl ([]) H := hP.sub [] rfl
  have hDc : va_D A ([]) := hD.sub [] (by decide +kernel) rfl
  refine cl_i0 (va_runS (As := [.int p0]) (rest := []) ⟨hx, hb, hml, hown, hts⟩ (c_X4_isPiece l D k p0 H.size) (va_cwS 1 hts gX4_bar_X4_isPiece rfl rfl rfl (by decide +kernel) ⟨Nat.le_of_ble_eq_true rfl, Nat.le_of_ble_eq_true rfl⟩) ⟨pr_blind, pr_at hN hPc hK hDc⟩ rfl rfl hl.1 rfl (lv_room (Nat.le_of_ble_eq_true rfl)) dX4_bar_1 ⟨Nat.le_of_ble_eq_true rfl, Nat.le_of_ble_eq_true rfl⟩) hP hD hS hA [] rfl (fun H locs hP hD hS => ?_)
  clear hPc hDc
  refine lv_if_eq (tgt := 14) hx hb dX4_bar_4 (by decide) (fun c_1 => ?_) (fun c_1 => ?_)
  · have c_1 := bI_eq.mp c_1
    obtain ⟨sa, hstr⟩ := hX.2.2.2 _ (List.mem_of_getElem? (i := 11) rfl)
    subst hQ
    exact vx_throwS (ik := 59) (is := 61) (ic := 63) (text := "no such piece") hx hb hfl hown (by decide +kernel) (by decide +kernel) (hts _ (List.mem_of_getElem? (i := 1) rfl)) (hts _ (List.mem_of_getElem? (i := 2) rfl)) hstr (xat_IO (fun w hw => hts w (List.mem_cons_of_mem _ (List.mem_append_left _ (List.mem_append_right _ hw)))) hX) xgd_IO hZ.1 hZ.2 hS (by rw [hml]; exact hl.1) dX4_bar_14 dX4_bar_17 dX4_bar_18 dX4_bar_20 dX4_bar_23 (fun x hx => (hno x hx).elim) (Nat.le_of_ble_eq_true rfl) (Nat.le_of_ble_eq_true rfl) (Nat.le_of_ble_eq_true rfl) (Nat.le_of_ble_eq_true rfl) hlocks (tx_x hP hS) hS.2.2 (Nat.le_of_ble_eq_true rfl) (Nat.le_of_ble_eq_true rfl)
  · have c_1 := bI_ne.mp c_1
    exact absurd c_1 (by rw [h1]; decide)

set_option maxHeartbeats 1000000 in
set_option maxRecDepth 100000 in
theorem t_bar_1b (l : Launch) (hfl : l.stackTraces = false) (D : va_G) (k : Nat → ClassId) (x0 : Nat) (p0 p1 : Int32) (h1 : pcB p0 = true) (h2 : pcB p1 = false) : MX l yX4_bar wsX4_bar ({ frames := 6, cells := 1, slots := 6, locals := 90 }) D k [.ref x0, .int p0, .int p1] ([]) "java/lang/IndexOutOfBoundsException" ([]) := by
  intro sz
  refine vx_ofW (cc := cX4_bar) (maxL := 3) (ret := (some .int)) (by decide) rfl ?_
  intro p e s m args below meth c s₁ B hml hno hv
  obtain ⟨rfl, hX, hZ, hN, hsz, hP, hK, hD0⟩ := hv
  have hx := B.exec
  have hb := B.bytes
  have hr := B.returns
  have hts := atoms_spec (ws := wsX4_bar) B.pre
  have hown : s.vm.findClass RX4 = some m.cls := findClass_of_methodNamed B.named
  have hlocks := B.notSynchronized
  subst hsz
  have hD := hD0.self (sz := s.heap.size)
  generalize hAe : va_A ([]) s.heap.size = A at hD hZ ⊢
  have hA : ∀ q : Nat, s.heap.size ≤ q → A q := fun q h => by rw [← hAe]; exact Or.inr h
  have hS : va_S A s.heap s.heap [] := va_S.rf
  have hl := lv_entry ([.ref x0, .int p0, .int p1]) (n := 3) (Nat.le_of_ble_eq_true rfl)
  rw [lg_entry_eq]
  generalize (lg_sl ([.ref x0, .int p0, .int p1]) ++ List.replicate (3 - (lg_sl ([.ref x0, .int p0, .int p1])).length) Slot.unset).toArray = ls at hl ⊢
  have hl : lv_has ls 3 [(0, .ref x0), (1, .int p0), (2, .int p1)] := hl
  obtain ⟨H, hHe⟩ : ∃ H, H = s.heap := ⟨_, rfl⟩
  have hP : va_P D vwCl ([]) H := by rw [hHe]; exact hP
  have hS : va_S A s.heap H [] := by rw [hHe]; exact hS
  rw [← hHe]
  refine absQ (fun Q hQ => ?_)
  refine lv_iload_n hx hb dX4_bar_0 rfl (lv_at hl 1 rfl) ?_
  have hPc : va_P D vwCl ([]) H := hP.sub [] rfl
  have hDc : va_D A ([]) := hD.sub [] (by decide +kernel) rfl
  refine cl_i0 (va_runS (As := [.int p0]) (rest := []) ⟨hx, hb, hml, hown, hts⟩ (c_X4_isPiece l D k p0 H.size) (va_cwS 1 hts gX4_bar_X4_isPiece rfl rfl rfl (by decide +kernel) ⟨Nat.le_of_ble_eq_true rfl, Nat.le_of_ble_eq_true rfl⟩) ⟨pr_blind, pr_at hN hPc hK hDc⟩ rfl rfl hl.1 rfl (lv_room (Nat.le_of_ble_eq_true rfl)) dX4_bar_1 ⟨Nat.le_of_ble_eq_true rfl, Nat.le_of_ble_eq_true rfl⟩) hP hD hS hA [] rfl (fun H locs hP hD hS => ?_)
  clear hPc hDc
  refine lv_if_eq (tgt := 14) hx hb dX4_bar_4 (by decide) (fun c_1 => ?_) (fun c_1 => ?_)
  · have c_1 := bI_eq.mp c_1
    exact absurd c_1 (by rw [h1]; decide)
  · have c_1 := bI_ne.mp c_1
    refine lv_iload_n hx hb dX4_bar_7 rfl (lv_at hl 2 rfl) ?_
    have hPc : va_P D vwCl ([]) H := hP.sub [] rfl
    have hDc : va_D A ([]) := hD.sub [] (by decide +kernel) rfl
    refine cl_i0 (va_runS (As := [.int p1]) (rest := []) ⟨hx, hb, hml, hown, hts⟩ (c_X4_isPiece l D k p1 H.size) (va_cwS 1 hts gX4_bar_X4_isPiece rfl rfl rfl (by decide +kernel) ⟨Nat.le_of_ble_eq_true rfl, Nat.le_of_ble_eq_true rfl⟩) ⟨pr_blind, pr_at hN hPc hK hDc⟩ rfl rfl hl.1 rfl (lv_room (Nat.le_of_ble_eq_true rfl)) dX4_bar_8 ⟨Nat.le_of_ble_eq_true rfl, Nat.le_of_ble_eq_true rfl⟩) hP hD hS hA [] rfl (fun H locs hP hD hS => ?_)
    clear hPc hDc
    refine lv_if_ne (tgt := 24) hx hb dX4_bar_11 (by decide) (fun c_2 => ?_) (fun c_2 => ?_)
    · have c_2 := bI_ne.mp c_2
      exact absurd c_2 (by rw [h2]; decide)
    · have c_2 := bI_eq.mp c_2
      obtain ⟨sa, hstr⟩ := hX.2.2.2 _ (List.mem_of_getElem? (i := 11) rfl)
      subst hQ
      exact vx_throwS (ik := 59) (is := 61) (ic := 63) (text := "no such piece") hx hb hfl hown (by decide +kernel) (by decide +kernel) (hts _ (List.mem_of_getElem? (i := 1) rfl)) (hts _ (List.mem_of_getElem? (i := 2) rfl)) hstr (xat_IO (fun w hw => hts w (List.mem_cons_of_mem _ (List.mem_append_left _ (List.mem_append_right _ hw)))) hX) xgd_IO hZ.1 hZ.2 hS (by rw [hml]; exact hl.1) dX4_bar_14 dX4_bar_17 dX4_bar_18 dX4_bar_20 dX4_bar_23 (fun x hx => (hno x hx).elim) (Nat.le_of_ble_eq_true rfl) (Nat.le_of_ble_eq_true rfl) (Nat.le_of_ble_eq_true rfl) (Nat.le_of_ble_eq_true rfl) hlocks (tx_x hP hS) hS.2.2 (Nat.le_of_ble_eq_true rfl) (Nat.le_of_ble_eq_true rfl)

set_option maxHeartbeats 1000000 in
set_option maxRecDepth 100000 in
theorem t_bar_2 (l : Launch) (hfl : l.stackTraces = false) (D : va_G) (k : Nat → ClassId) (x0 : Nat) (p0 p1 : Int32) (h1 : pcB p0 = true) (h2 : pcB p1 = true) (h3 : p0 = p1) : MX l yX4_bar wsX4_bar ({ frames := 6, cells := 1, slots := 6, locals := 90 }) D k [.ref x0, .int p0, .int p1] ([]) "java/lang/IllegalArgumentException" ([]) := by
  intro sz
  refine vx_ofW (cc := cX4_bar) (maxL := 3) (ret := (some .int)) (by decide) rfl ?_
  intro p e s m args below meth c s₁ B hml hno hv
  obtain ⟨rfl, hX, hZ, hN, hsz, hP, hK, hD0⟩ := hv
  have hx := B.exec
  have hb := B.bytes
  have hr := B.returns
  have hts := atoms_spec (ws := wsX4_bar) B.pre
  have hown : s.vm.findClass RX4 = some m.cls := findClass_of_methodNamed B.named
  have hlocks := B.notSynchronized
  subst hsz
  have hD := hD0.self (sz := s.heap.size)
  generalize hAe : va_A ([]) s.heap.size = A at hD hZ ⊢
  have hA : ∀ q : Nat, s.heap.size ≤ q → A q := fun q h => by rw [← hAe]; exact Or.inr h
  have hS : va_S A s.heap s.heap [] := va_S.rf
  have hl := lv_entry ([.ref x0, .int p0, .int p1]) (n := 3) (Nat.le_of_ble_eq_true rfl)
  rw [lg_entry_eq]
  generalize (lg_sl ([.ref x0, .int p0, .int p1]) ++ List.replicate (3 - (lg_sl ([.ref x0, .int p0, .int p1])).length) Slot.unset).toArray = ls at hl ⊢
  have hl : lv_has ls 3 [(0, .ref x0), (1, .int p0), (2, .int p1)] := hl
  obtain ⟨H, hHe⟩ : ∃ H, H = s.heap := ⟨_, rfl⟩
  have hP : va_P D vwCl ([]) H := by rw [hHe]; exact hP
  have hS : va_S A s.heap H [] := by rw [hHe]; exact hS
  rw [← hHe]
  refine absQ (fun Q hQ => ?_)
  refine lv_iload_n hx hb dX4_bar_0 rfl (lv_at hl 1 rfl) ?_
  have hPc : va_P D vwCl ([]) H := hP.sub [] rfl
  have hDc : va_D A ([]) := hD.sub [] (by decide +kernel) rfl
  refine cl_i0 (va_runS (As := [.int p0]) (rest := []) ⟨hx, hb, hml, hown, hts⟩ (c_X4_isPiece l D k p0 H.size) (va_cwS 1 hts gX4_bar_X4_isPiece rfl rfl rfl (by decide +kernel) ⟨Nat.le_of_ble_eq_true rfl, Nat.le_of_ble_eq_true rfl⟩) ⟨pr_blind, pr_at hN hPc hK hDc⟩ rfl rfl hl.1 rfl (lv_room (Nat.le_of_ble_eq_true rfl)) dX4_bar_1 ⟨Nat.le_of_ble_eq_true rfl, Nat.le_of_ble_eq_true rfl⟩) hP hD hS hA [] rfl (fun H locs hP hD hS => ?_)
  clear hPc hDc
  refine lv_if_eq (tgt := 14) hx hb dX4_bar_4 (by decide) (fun c_1 => ?_) (fun c_1 => ?_)
  · have c_1 := bI_eq.mp c_1
    exact absurd c_1 (by rw [h1]; decide)
  · have c_1 := bI_ne.mp c_1
    refine lv_iload_n hx hb dX4_bar_7 rfl (lv_at hl 2 rfl) ?_
    have hPc : va_P D vwCl ([]) H := hP.sub [] rfl
    have hDc : va_D A ([]) := hD.sub [] (by decide +kernel) rfl
    refine cl_i0 (va_runS (As := [.int p1]) (rest := []) ⟨hx, hb, hml, hown, hts⟩ (c_X4_isPiece l D k p1 H.size) (va_cwS 1 hts gX4_bar_X4_isPiece rfl rfl rfl (by decide +kernel) ⟨Nat.le_of_ble_eq_true rfl, Nat.le_of_ble_eq_true rfl⟩) ⟨pr_blind, pr_at hN hPc hK hDc⟩ rfl rfl hl.1 rfl (lv_room (Nat.le_of_ble_eq_true rfl)) dX4_bar_8 ⟨Nat.le_of_ble_eq_true rfl, Nat.le_of_ble_eq_true rfl⟩) hP hD hS hA [] rfl (fun H locs hP hD hS => ?_)
    clear hPc hDc
    refine lv_if_ne (tgt := 24) hx hb dX4_bar_11 (by decide) (fun c_2 => ?_) (fun c_2 => ?_)
    · have c_2 := bI_ne.mp c_2
      refine lv_iload_n hx hb dX4_bar_24 rfl (lv_at hl 1 rfl) ?_
      refine lv_iload_n hx hb dX4_bar_25 rfl (lv_at hl 2 rfl) ?_
      refine lv_icmp_ne (tgt := 39) hx hb dX4_bar_26 (by decide) (fun c_3 => ?_) (fun c_3 => ?_)
      · exact absurd h3 c_3
      · obtain ⟨sa, hstr⟩ := hX.2.2.2 _ (List.mem_of_getElem? (i := 15) rfl)
        subst hQ
        exact vx_throwS (ik := 66) (is := 91) (ic := 70) (text := "a piece does not bar itself") hx hb hfl hown (by decide +kernel) (by decide +kernel) (hts _ (List.mem_of_getElem? (i := 3) rfl)) (hts _ (List.mem_of_getElem? (i := 4) rfl)) hstr (xat_IA (fun w hw => hts w (List.mem_cons_of_mem _ (List.mem_append_right _ hw))) hX) xgd_IA hZ.1 hZ.2 hS (by rw [hml]; exact hl.1) dX4_bar_29 dX4_bar_32 dX4_bar_33 dX4_bar_35 dX4_bar_38 (fun x hx => (hno x hx).elim) (Nat.le_of_ble_eq_true rfl) (Nat.le_of_ble_eq_true rfl) (Nat.le_of_ble_eq_true rfl) (Nat.le_of_ble_eq_true rfl) hlocks (tx_x hP hS) hS.2.2 (Nat.le_of_ble_eq_true rfl) (Nat.le_of_ble_eq_true rfl)
    · have c_2 := bI_eq.mp c_2
      exact absurd c_2 (by rw [h2]; decide)

set_option maxHeartbeats 1000000 in
set_option maxRecDepth 100000 in
theorem t_isJoined_1a (l : Launch) (hfl : l.stackTraces = false) (D : va_G) (k : Nat → ClassId) (x0 : Nat) (p0 p1 : Int32) (h1 : pcB p0 = false) : MX l yX4_isJoined wsX4_isJoined ({ frames := 6, cells := 1, slots := 6, locals := 90 }) D k [.ref x0, .int p0, .int p1] ([]) "java/lang/IndexOutOfBoundsException" ([]) := by
  intro sz
  refine vx_ofW (cc := cX4_isJoined) (maxL := 3) (ret := (some .int)) (by decide) rfl ?_
  intro p e s m args below meth c s₁ B hml hno hv
  obtain ⟨rfl, hX, hZ, hN, hsz, hP, hK, hD0⟩ := hv
  have hx := B.exec
  have hb := B.bytes
  have hr := B.returns
  have hts := atoms_spec (ws := wsX4_isJoined) B.pre
  have hown : s.vm.findClass RX4 = some m.cls := findClass_of_methodNamed B.named
  have hlocks := B.notSynchronized
  subst hsz
  have hD := hD0.self (sz := s.heap.size)
  generalize hAe : va_A ([]) s.heap.size = A at hD hZ ⊢
  have hA : ∀ q : Nat, s.heap.size ≤ q → A q := fun q h => by rw [← hAe]; exact Or.inr h
  have hS : va_S A s.heap s.heap [] := va_S.rf
  have hl := lv_entry ([.ref x0, .int p0, .int p1]) (n := 3) (Nat.le_of_ble_eq_true rfl)
  rw [lg_entry_eq]
  generalize (lg_sl ([.ref x0, .int p0, .int p1]) ++ List.replicate (3 - (lg_sl ([.ref x0, .int p0, .int p1])).length) Slot.unset).toArray = ls at hl ⊢
  have hl : lv_has ls 3 [(0, .ref x0), (1, .int p0), (2, .int p1)] := hl
  obtain ⟨H, hHe⟩ : ∃ H, H = s.heap := ⟨_, rfl⟩
  have hP : va_P D vwCl ([]) H := by rw [hHe]; exact hP
  have hS : va_S A s.heap H [] := by rw [hHe]; exact hS
  rw [← hHe]
  refine absQ (fun Q hQ => ?_)
  refine lv_iload_n hx hb dX4_isJoined_0 rfl (lv_at hl 1 rfl) ?_
  have hPc : va_P D vwCl ([]) H := hP.sub [] rfl
  have hDc : va_D A ([]) := hD.sub [] (by decide +kernel) rfl
  refine cl_i0 (va_runS (As := [.int p0]) (rest := []) ⟨hx, hb, hml, hown, hts⟩ (c_X4_isPiece l D k p0 H.size) (va_cwS 1 hts gX4_isJoined_X4_isPiece rfl rfl rfl (by decide +kernel) ⟨Nat.le_of_ble_eq_true rfl, Nat.le_of_ble_eq_true rfl⟩) ⟨pr_blind, pr_at hN hPc hK hDc⟩ rfl rfl hl.1 rfl (lv_room (Nat.le_of_ble_eq_true rfl)) dX4_isJoined_1 ⟨Nat.le_of_ble_eq_true rfl, Nat.le_of_ble_eq_true rfl⟩) hP hD hS hA [] rfl (fun H locs hP hD hS => ?_)
  clear hPc hDc
  refine lv_if_eq (tgt := 14) hx hb dX4_isJoined_4 (by decide) (fun c_1 => ?_) (fun c_1 => ?_)
  · have c_1 := bI_eq.mp c_1
    obtain ⟨sa, hstr⟩ := hX.2.2.2 _ (List.mem_of_getElem? (i := 11) rfl)
    subst hQ
    exact vx_throwS (ik := 59) (is := 61) (ic := 63) (text := "no such piece") hx hb hfl hown (by decide +kernel) (by decide +kernel) (hts _ (List.mem_of_getElem? (i := 1) rfl)) (hts _ (List.mem_of_getElem? (i := 2) rfl)) hstr (xat_IO (fun w hw => hts w (List.mem_cons_of_mem _ (List.mem_append_right _ hw))) hX) xgd_IO hZ.1 hZ.2 hS (by rw [hml]; exact hl.1) dX4_isJoined_14 dX4_isJoined_17 dX4_isJoined_18 dX4_isJoined_20 dX4_isJoined_23 (fun x hx => (hno x hx).elim) (Nat.le_of_ble_eq_true rfl) (Nat.le_of_ble_eq_true rfl) (Nat.le_of_ble_eq_true rfl) (Nat.le_of_ble_eq_true rfl) hlocks (tx_x hP hS) hS.2.2 (Nat.le_of_ble_eq_true rfl) (Nat.le_of_ble_eq_true rfl)
  · have c_1 := bI_ne.mp c_1
    exact absurd c_1 (by rw [h1]; decide)

set_option maxHeartbeats 1000000 in
set_option maxRecDepth 100000 in
theorem t_isJoined_1b (l : Launch) (hfl : l.stackTraces = false) (D : va_G) (k : Nat → ClassId) (x0 : Nat) (p0 p1 : Int32) (h1 : pcB p0 = true) (h2 : pcB p1 = false) : MX l yX4_isJoined wsX4_isJoined ({ frames := 6, cells := 1, slots := 6, locals := 90 }) D k [.ref x0, .int p0, .int p1] ([]) "java/lang/IndexOutOfBoundsException" ([]) := by
  intro sz
  refine vx_ofW (cc := cX4_isJoined) (maxL := 3) (ret := (some .int)) (by decide) rfl ?_
  intro p e s m args below meth c s₁ B hml hno hv
  obtain ⟨rfl, hX, hZ, hN, hsz, hP, hK, hD0⟩ := hv
  have hx := B.exec
  have hb := B.bytes
  have hr := B.returns
  have hts := atoms_spec (ws := wsX4_isJoined) B.pre
  have hown : s.vm.findClass RX4 = some m.cls := findClass_of_methodNamed B.named
  have hlocks := B.notSynchronized
  subst hsz
  have hD := hD0.self (sz := s.heap.size)
  generalize hAe : va_A ([]) s.heap.size = A at hD hZ ⊢
  have hA : ∀ q : Nat, s.heap.size ≤ q → A q := fun q h => by rw [← hAe]; exact Or.inr h
  have hS : va_S A s.heap s.heap [] := va_S.rf
  have hl := lv_entry ([.ref x0, .int p0, .int p1]) (n := 3) (Nat.le_of_ble_eq_true rfl)
  rw [lg_entry_eq]
  generalize (lg_sl ([.ref x0, .int p0, .int p1]) ++ List.replicate (3 - (lg_sl ([.ref x0, .int p0, .int p1])).length) Slot.unset).toArray = ls at hl ⊢
  have hl : lv_has ls 3 [(0, .ref x0), (1, .int p0), (2, .int p1)] := hl
  obtain ⟨H, hHe⟩ : ∃ H, H = s.heap := ⟨_, rfl⟩
  have hP : va_P D vwCl ([]) H := by rw [hHe]; exact hP
  have hS : va_S A s.heap H [] := by rw [hHe]; exact hS
  rw [← hHe]
  refine absQ (fun Q hQ => ?_)
  refine lv_iload_n hx hb dX4_isJoined_0 rfl (lv_at hl 1 rfl) ?_
  have hPc : va_P D vwCl ([]) H := hP.sub [] rfl
  have hDc : va_D A ([]) := hD.sub [] (by decide +kernel) rfl
  refine cl_i0 (va_runS (As := [.int p0]) (rest := []) ⟨hx, hb, hml, hown, hts⟩ (c_X4_isPiece l D k p0 H.size) (va_cwS 1 hts gX4_isJoined_X4_isPiece rfl rfl rfl (by decide +kernel) ⟨Nat.le_of_ble_eq_true rfl, Nat.le_of_ble_eq_true rfl⟩) ⟨pr_blind, pr_at hN hPc hK hDc⟩ rfl rfl hl.1 rfl (lv_room (Nat.le_of_ble_eq_true rfl)) dX4_isJoined_1 ⟨Nat.le_of_ble_eq_true rfl, Nat.le_of_ble_eq_true rfl⟩) hP hD hS hA [] rfl (fun H locs hP hD hS => ?_)
  clear hPc hDc
  refine lv_if_eq (tgt := 14) hx hb dX4_isJoined_4 (by decide) (fun c_1 => ?_) (fun c_1 => ?_)
  · have c_1 := bI_eq.mp c_1
    exact absurd c_1 (by rw [h1]; decide)
  · have c_1 := bI_ne.mp c_1
    refine lv_iload_n hx hb dX4_isJoined_7 rfl (lv_at hl 2 rfl) ?_
    have hPc : va_P D vwCl ([]) H := hP.sub [] rfl
    have hDc : va_D A ([]) := hD.sub [] (by decide +kernel) rfl
    refine cl_i0 (va_runS (As := [.int p1]) (rest := []) ⟨hx, hb, hml, hown, hts⟩ (c_X4_isPiece l D k p1 H.size) (va_cwS 1 hts gX4_isJoined_X4_isPiece rfl rfl rfl (by decide +kernel) ⟨Nat.le_of_ble_eq_true rfl, Nat.le_of_ble_eq_true rfl⟩) ⟨pr_blind, pr_at hN hPc hK hDc⟩ rfl rfl hl.1 rfl (lv_room (Nat.le_of_ble_eq_true rfl)) dX4_isJoined_8 ⟨Nat.le_of_ble_eq_true rfl, Nat.le_of_ble_eq_true rfl⟩) hP hD hS hA [] rfl (fun H locs hP hD hS => ?_)
    clear hPc hDc
    refine lv_if_ne (tgt := 24) hx hb dX4_isJoined_11 (by decide) (fun c_2 => ?_) (fun c_2 => ?_)
    · have c_2 := bI_ne.mp c_2
      exact absurd c_2 (by rw [h2]; decide)
    · have c_2 := bI_eq.mp c_2
      obtain ⟨sa, hstr⟩ := hX.2.2.2 _ (List.mem_of_getElem? (i := 11) rfl)
      subst hQ
      exact vx_throwS (ik := 59) (is := 61) (ic := 63) (text := "no such piece") hx hb hfl hown (by decide +kernel) (by decide +kernel) (hts _ (List.mem_of_getElem? (i := 1) rfl)) (hts _ (List.mem_of_getElem? (i := 2) rfl)) hstr (xat_IO (fun w hw => hts w (List.mem_cons_of_mem _ (List.mem_append_right _ hw))) hX) xgd_IO hZ.1 hZ.2 hS (by rw [hml]; exact hl.1) dX4_isJoined_14 dX4_isJoined_17 dX4_isJoined_18 dX4_isJoined_20 dX4_isJoined_23 (fun x hx => (hno x hx).elim) (Nat.le_of_ble_eq_true rfl) (Nat.le_of_ble_eq_true rfl) (Nat.le_of_ble_eq_true rfl) (Nat.le_of_ble_eq_true rfl) hlocks (tx_x hP hS) hS.2.2 (Nat.le_of_ble_eq_true rfl) (Nat.le_of_ble_eq_true rfl)

set_option maxHeartbeats 1000000 in
set_option maxRecDepth 100000 in
theorem t_pieceOf_1 (l : Launch) (hfl : l.stackTraces = false) (D : va_G) (k : Nat → ClassId) (x0 : Nat) (p0 p1 : Int32) (h1 : pcB p0 = false) : MX l yX4_pieceOf wsX4_pieceOf ({ frames := 6, cells := 1, slots := 6, locals := 90 }) D k [.ref x0, .int p0, .int p1] ([]) "java/lang/IndexOutOfBoundsException" ([]) := by
  intro sz
  refine vx_ofW (cc := cX4_pieceOf) (maxL := 3) (ret := (some .int)) (by decide) rfl ?_
  intro p e s m args below meth c s₁ B hml hno hv
  obtain ⟨rfl, hX, hZ, hN, hsz, hP, hK, hD0⟩ := hv
  have hx := B.exec
  have hb := B.bytes
  have hr := B.returns
  have hts := atoms_spec (ws := wsX4_pieceOf) B.pre
  have hown : s.vm.findClass RX4 = some m.cls := findClass_of_methodNamed B.named
  have hlocks := B.notSynchronized
  subst hsz
  have hD := hD0.self (sz := s.heap.size)
  generalize hAe : va_A ([]) s.heap.size = A at hD hZ ⊢
  have hA : ∀ q : Nat, s.heap.size ≤ q → A q := fun q h => by rw [← hAe]; exact Or.inr h
  have hS : va_S A s.heap s.heap [] := va_S.rf
  have hl := lv_entry ([.ref x0, .int p0, .int p1]) (n := 3) (Nat.le_of_ble_eq_true rfl)
  rw [lg_entry_eq]
  generalize (lg_sl ([.ref x0, .int p0, .int p1]) ++ List.replicate (3 - (lg_sl ([.ref x0, .int p0, .int p1])).length) Slot.unset).toArray = ls at hl ⊢
  have hl : lv_has ls 3 [(0, .ref x0), (1, .int p0), (2, .int p1)] := hl
  obtain ⟨H, hHe⟩ : ∃ H, H = s.heap := ⟨_, rfl⟩
  have hP : va_P D vwCl ([]) H := by rw [hHe]; exact hP
  have hS : va_S A s.heap H [] := by rw [hHe]; exact hS
  rw [← hHe]
  refine absQ (fun Q hQ => ?_)
  refine lv_iload_n hx hb dX4_pieceOf_0 rfl (lv_at hl 1 rfl) ?_
  have hPc : va_P D vwCl ([]) H := hP.sub [] rfl
  have hDc : va_D A ([]) := hD.sub [] (by decide +kernel) rfl
  refine cl_i0 (va_runS (As := [.int p0]) (rest := []) ⟨hx, hb, hml, hown, hts⟩ (c_X4_isPiece l D k p0 H.size) (va_cwS 1 hts gX4_pieceOf_X4_isPiece rfl rfl rfl (by decide +kernel) ⟨Nat.le_of_ble_eq_true rfl, Nat.le_of_ble_eq_true rfl⟩) ⟨pr_blind, pr_at hN hPc hK hDc⟩ rfl rfl hl.1 rfl (lv_room (Nat.le_of_ble_eq_true rfl)) dX4_pieceOf_1 ⟨Nat.le_of_ble_eq_true rfl, Nat.le_of_ble_eq_true rfl⟩) hP hD hS hA [] rfl (fun H locs hP hD hS => ?_)
  clear hPc hDc
  refine lv_if_ne (tgt := 17) hx hb dX4_pieceOf_4 (by decide) (fun c_1 => ?_) (fun c_1 => ?_)
  · have c_1 := bI_ne.mp c_1
    exact absurd c_1 (by rw [h1]; decide)
  · have c_1 := bI_eq.mp c_1
    obtain ⟨sa, hstr⟩ := hX.2.2.2 _ (List.mem_of_getElem? (i := 11) rfl)
    subst hQ
    exact vx_throwS (ik := 59) (is := 61) (ic := 63) (text := "no such piece") hx hb hfl hown (by decide +kernel) (by decide +kernel) (hts _ (List.mem_of_getElem? (i := 1) rfl)) (hts _ (List.mem_of_getElem? (i := 2) rfl)) hstr (xat_IO (fun w hw => hts w (List.mem_cons_of_mem _ (List.mem_append_left _ (List.mem_append_right _ hw)))) hX) xgd_IO hZ.1 hZ.2 hS (by rw [hml]; exact hl.1) dX4_pieceOf_7 dX4_pieceOf_10 dX4_pieceOf_11 dX4_pieceOf_13 dX4_pieceOf_16 (fun x hx => (hno x hx).elim) (Nat.le_of_ble_eq_true rfl) (Nat.le_of_ble_eq_true rfl) (Nat.le_of_ble_eq_true rfl) (Nat.le_of_ble_eq_true rfl) hlocks (tx_x hP hS) hS.2.2 (Nat.le_of_ble_eq_true rfl) (Nat.le_of_ble_eq_true rfl)

set_option maxHeartbeats 1000000 in
set_option maxRecDepth 100000 in
theorem t_pieceOf_2 (l : Launch) (hfl : l.stackTraces = false) (D : va_G) (k : Nat → ClassId) (x0 : Nat) (p0 p1 : Int32) (h1 : pcB p0 = true) (h2 : inB p1 0 7 = false) : MX l yX4_pieceOf wsX4_pieceOf ({ frames := 6, cells := 1, slots := 6, locals := 90 }) D k [.ref x0, .int p0, .int p1] ([]) "java/lang/IllegalArgumentException" ([]) := by
  intro sz
  refine vx_ofW (cc := cX4_pieceOf) (maxL := 3) (ret := (some .int)) (by decide) rfl ?_
  intro p e s m args below meth c s₁ B hml hno hv
  obtain ⟨rfl, hX, hZ, hN, hsz, hP, hK, hD0⟩ := hv
  have hx := B.exec
  have hb := B.bytes
  have hr := B.returns
  have hts := atoms_spec (ws := wsX4_pieceOf) B.pre
  have hown : s.vm.findClass RX4 = some m.cls := findClass_of_methodNamed B.named
  have hlocks := B.notSynchronized
  subst hsz
  have hD := hD0.self (sz := s.heap.size)
  generalize hAe : va_A ([]) s.heap.size = A at hD hZ ⊢
  have hA : ∀ q : Nat, s.heap.size ≤ q → A q := fun q h => by rw [← hAe]; exact Or.inr h
  have hS : va_S A s.heap s.heap [] := va_S.rf
  have hl := lv_entry ([.ref x0, .int p0, .int p1]) (n := 3) (Nat.le_of_ble_eq_true rfl)
  rw [lg_entry_eq]
  generalize (lg_sl ([.ref x0, .int p0, .int p1]) ++ List.replicate (3 - (lg_sl ([.ref x0, .int p0, .int p1])).length) Slot.unset).toArray = ls at hl ⊢
  have hl : lv_has ls 3 [(0, .ref x0), (1, .int p0), (2, .int p1)] := hl
  obtain ⟨H, hHe⟩ : ∃ H, H = s.heap := ⟨_, rfl⟩
  have hP : va_P D vwCl ([]) H := by rw [hHe]; exact hP
  have hS : va_S A s.heap H [] := by rw [hHe]; exact hS
  rw [← hHe]
  refine absQ (fun Q hQ => ?_)
  refine lv_iload_n hx hb dX4_pieceOf_0 rfl (lv_at hl 1 rfl) ?_
  have hPc : va_P D vwCl ([]) H := hP.sub [] rfl
  have hDc : va_D A ([]) := hD.sub [] (by decide +kernel) rfl
  refine cl_i0 (va_runS (As := [.int p0]) (rest := []) ⟨hx, hb, hml, hown, hts⟩ (c_X4_isPiece l D k p0 H.size) (va_cwS 1 hts gX4_pieceOf_X4_isPiece rfl rfl rfl (by decide +kernel) ⟨Nat.le_of_ble_eq_true rfl, Nat.le_of_ble_eq_true rfl⟩) ⟨pr_blind, pr_at hN hPc hK hDc⟩ rfl rfl hl.1 rfl (lv_room (Nat.le_of_ble_eq_true rfl)) dX4_pieceOf_1 ⟨Nat.le_of_ble_eq_true rfl, Nat.le_of_ble_eq_true rfl⟩) hP hD hS hA [] rfl (fun H locs hP hD hS => ?_)
  clear hPc hDc
  refine lv_if_ne (tgt := 17) hx hb dX4_pieceOf_4 (by decide) (fun c_1 => ?_) (fun c_1 => ?_)
  · have c_1 := bI_ne.mp c_1
    refine lv_iload_n hx hb dX4_pieceOf_17 rfl (lv_at hl 2 rfl) ?_
    refine lv_tableOut (tgt := 180) hx hb dX4_pieceOf_18 (inB_o7 h2) (by decide) ?_
    obtain ⟨sa, hstr⟩ := hX.2.2.2 _ (List.mem_of_getElem? (i := 6) rfl)
    subst hQ
    exact vx_throwS (ik := 66) (is := 187) (ic := 70) (text := "a property is 0 to 7") hx hb hfl hown (by decide +kernel) (by decide +kernel) (hts _ (List.mem_of_getElem? (i := 3) rfl)) (hts _ (List.mem_of_getElem? (i := 4) rfl)) hstr (xat_IA (fun w hw => hts w (List.mem_cons_of_mem _ (List.mem_append_right _ hw))) hX) xgd_IA hZ.1 hZ.2 hS (by rw [hml]; exact hl.1) dX4_pieceOf_180 dX4_pieceOf_183 dX4_pieceOf_184 dX4_pieceOf_186 dX4_pieceOf_189 (fun x hx => (hno x hx).elim) (Nat.le_of_ble_eq_true rfl) (Nat.le_of_ble_eq_true rfl) (Nat.le_of_ble_eq_true rfl) (Nat.le_of_ble_eq_true rfl) hlocks (tx_x hP hS) hS.2.2 (Nat.le_of_ble_eq_true rfl) (Nat.le_of_ble_eq_true rfl)
  · have c_1 := bI_eq.mp c_1
    exact absurd c_1 (by rw [h1]; decide)

set_option maxHeartbeats 1000000 in
set_option maxRecDepth 100000 in
theorem t_noted_1a (l : Launch) (hfl : l.stackTraces = false) (D : va_G) (k : Nat → ClassId) (x0 : Nat) (p0 p1 : Int32) (h1 : p0 < 0) : MX l yX4_noted wsX4_noted ({ frames := 6, cells := 1, slots := 6, locals := 90 }) D k [.ref x0, .int p0, .int p1] ([]) "java/lang/IllegalArgumentException" ([]) := by
  intro sz
  refine vx_ofW (cc := cX4_noted) (maxL := 3) (ret := (some .int)) (by decide) rfl ?_
  intro p e s m args below meth c s₁ B hml hno hv
  obtain ⟨rfl, hX, hZ, hN, hsz, hP, hK, hD0⟩ := hv
  have hx := B.exec
  have hb := B.bytes
  have hr := B.returns
  have hts := atoms_spec (ws := wsX4_noted) B.pre
  have hown : s.vm.findClass RX4 = some m.cls := findClass_of_methodNamed B.named
  have hlocks := B.notSynchronized
  subst hsz
  have hD := hD0.self (sz := s.heap.size)
  generalize hAe : va_A ([]) s.heap.size = A at hD hZ ⊢
  have hA : ∀ q : Nat, s.heap.size ≤ q → A q := fun q h => by rw [← hAe]; exact Or.inr h
  have hS : va_S A s.heap s.heap [] := va_S.rf
  have hl := lv_entry ([.ref x0, .int p0, .int p1]) (n := 3) (Nat.le_of_ble_eq_true rfl)
  rw [lg_entry_eq]
  generalize (lg_sl ([.ref x0, .int p0, .int p1]) ++ List.replicate (3 - (lg_sl ([.ref x0, .int p0, .int p1])).length) Slot.unset).toArray = ls at hl ⊢
  have hl : lv_has ls 3 [(0, .ref x0), (1, .int p0), (2, .int p1)] := hl
  obtain ⟨H, hHe⟩ : ∃ H, H = s.heap := ⟨_, rfl⟩
  have hP : va_P D vwCl ([]) H := by rw [hHe]; exact hP
  have hS : va_S A s.heap H [] := by rw [hHe]; exact hS
  rw [← hHe]
  refine absQ (fun Q hQ => ?_)
  refine lv_iload_n hx hb dX4_noted_0 rfl (lv_at hl 1 rfl) ?_
  refine lv_if_lt (tgt := 13) hx hb dX4_noted_1 (by decide) (fun c_1 => ?_) (fun c_1 => ?_)
  · obtain ⟨sa, hstr⟩ := hX.2.2.2 _ (List.mem_of_getElem? (i := 7) rfl)
    subst hQ
    exact vx_throwS (ik := 66) (is := 189) (ic := 70) (text := "a rank is from 0, a number 0 to 2") hx hb hfl hown (by decide +kernel) (by decide +kernel) (hts _ (List.mem_of_getElem? (i := 1) rfl)) (hts _ (List.mem_of_getElem? (i := 2) rfl)) hstr (xat_IA (fun w hw => hts w (List.mem_cons_of_mem _ (List.mem_append_right _ hw))) hX) xgd_IA hZ.1 hZ.2 hS (by rw [hml]; exact hl.1) dX4_noted_13 dX4_noted_16 dX4_noted_17 dX4_noted_19 dX4_noted_22 (fun x hx => (hno x hx).elim) (Nat.le_of_ble_eq_true rfl) (Nat.le_of_ble_eq_true rfl) (Nat.le_of_ble_eq_true rfl) (Nat.le_of_ble_eq_true rfl) hlocks (tx_x hP hS) hS.2.2 (Nat.le_of_ble_eq_true rfl) (Nat.le_of_ble_eq_true rfl)
  · exact absurd h1 c_1

set_option maxHeartbeats 1000000 in
set_option maxRecDepth 100000 in
theorem t_noted_1b (l : Launch) (hfl : l.stackTraces = false) (D : va_G) (k : Nat → ClassId) (x0 : Nat) (p0 p1 : Int32) (h1 : ¬ p0 < 0) (h2 : inB p1 0 2 = false) : MX l yX4_noted wsX4_noted ({ frames := 6, cells := 1, slots := 6, locals := 90 }) D k [.ref x0, .int p0, .int p1] ([]) "java/lang/IllegalArgumentException" ([]) := by
  intro sz
  refine vx_ofW (cc := cX4_noted) (maxL := 3) (ret := (some .int)) (by decide) rfl ?_
  intro p e s m args below meth c s₁ B hml hno hv
  obtain ⟨rfl, hX, hZ, hN, hsz, hP, hK, hD0⟩ := hv
  have hx := B.exec
  have hb := B.bytes
  have hr := B.returns
  have hts := atoms_spec (ws := wsX4_noted) B.pre
  have hown : s.vm.findClass RX4 = some m.cls := findClass_of_methodNamed B.named
  have hlocks := B.notSynchronized
  subst hsz
  have hD := hD0.self (sz := s.heap.size)
  generalize hAe : va_A ([]) s.heap.size = A at hD hZ ⊢
  have hA : ∀ q : Nat, s.heap.size ≤ q → A q := fun q h => by rw [← hAe]; exact Or.inr h
  have hS : va_S A s.heap s.heap [] := va_S.rf
  have hl := lv_entry ([.ref x0, .int p0, .int p1]) (n := 3) (Nat.le_of_ble_eq_true rfl)
  rw [lg_entry_eq]
  generalize (lg_sl ([.ref x0, .int p0, .int p1]) ++ List.replicate (3 - (lg_sl ([.ref x0, .int p0, .int p1])).length) Slot.unset).toArray = ls at hl ⊢
  have hl : lv_has ls 3 [(0, .ref x0), (1, .int p0), (2, .int p1)] := hl
  obtain ⟨H, hHe⟩ : ∃ H, H = s.heap := ⟨_, rfl⟩
  have hP : va_P D vwCl ([]) H := by rw [hHe]; exact hP
  have hS : va_S A s.heap H [] := by rw [hHe]; exact hS
  rw [← hHe]
  refine absQ (fun Q hQ => ?_)
  refine lv_iload_n hx hb dX4_noted_0 rfl (lv_at hl 1 rfl) ?_
  refine lv_if_lt (tgt := 13) hx hb dX4_noted_1 (by decide) (fun c_1 => ?_) (fun c_1 => ?_)
  · exact absurd c_1 h1
  · refine lv_iload_n hx hb dX4_noted_4 rfl (lv_at hl 2 rfl) ?_
    refine lv_if_lt (tgt := 13) hx hb dX4_noted_5 (by decide) (fun c_2 => ?_) (fun c_2 => ?_)
    · obtain ⟨sa, hstr⟩ := hX.2.2.2 _ (List.mem_of_getElem? (i := 7) rfl)
      subst hQ
      exact vx_throwS (ik := 66) (is := 189) (ic := 70) (text := "a rank is from 0, a number 0 to 2") hx hb hfl hown (by decide +kernel) (by decide +kernel) (hts _ (List.mem_of_getElem? (i := 1) rfl)) (hts _ (List.mem_of_getElem? (i := 2) rfl)) hstr (xat_IA (fun w hw => hts w (List.mem_cons_of_mem _ (List.mem_append_right _ hw))) hX) xgd_IA hZ.1 hZ.2 hS (by rw [hml]; exact hl.1) dX4_noted_13 dX4_noted_16 dX4_noted_17 dX4_noted_19 dX4_noted_22 (fun x hx => (hno x hx).elim) (Nat.le_of_ble_eq_true rfl) (Nat.le_of_ble_eq_true rfl) (Nat.le_of_ble_eq_true rfl) (Nat.le_of_ble_eq_true rfl) hlocks (tx_x hP hS) hS.2.2 (Nat.le_of_ble_eq_true rfl) (Nat.le_of_ble_eq_true rfl)
    · refine lv_iload_n hx hb dX4_noted_8 rfl (lv_at hl 2 rfl) ?_
      refine lv_iconst (v := 3) hx hb dX4_noted_9 (by decide) ?_
      refine lv_icmp_lt (tgt := 23) hx hb dX4_noted_10 (by decide) (fun c_3 => ?_) (fun c_3 => ?_)
      · exact (inB_no h2 c_2 (lt3 c_3)).elim
      · obtain ⟨sa, hstr⟩ := hX.2.2.2 _ (List.mem_of_getElem? (i := 7) rfl)
        subst hQ
        exact vx_throwS (ik := 66) (is := 189) (ic := 70) (text := "a rank is from 0, a number 0 to 2") hx hb hfl hown (by decide +kernel) (by decide +kernel) (hts _ (List.mem_of_getElem? (i := 1) rfl)) (hts _ (List.mem_of_getElem? (i := 2) rfl)) hstr (xat_IA (fun w hw => hts w (List.mem_cons_of_mem _ (List.mem_append_right _ hw))) hX) xgd_IA hZ.1 hZ.2 hS (by rw [hml]; exact hl.1) dX4_noted_13 dX4_noted_16 dX4_noted_17 dX4_noted_19 dX4_noted_22 (fun x hx => (hno x hx).elim) (Nat.le_of_ble_eq_true rfl) (Nat.le_of_ble_eq_true rfl) (Nat.le_of_ble_eq_true rfl) (Nat.le_of_ble_eq_true rfl) hlocks (tx_x hP hS) hS.2.2 (Nat.le_of_ble_eq_true rfl) (Nat.le_of_ble_eq_true rfl)

set_option maxHeartbeats 1000000 in
set_option maxRecDepth 100000 in
theorem t_count_1 (l : Launch) (hfl : l.stackTraces = false) (D : va_G) (k : Nat → ClassId) (x0 : Nat) (p0 : Int32) (h1 : inB p0 0 11 = false) : MX l yX4_count wsX4_count ({ frames := 6, cells := 1, slots := 6, locals := 90 }) D k [.ref x0, .int p0] ([]) "java/lang/IllegalArgumentException" ([]) := by
  intro sz
  refine vx_ofW (cc := cX4_count) (maxL := 2) (ret := (some .int)) (by decide) rfl ?_
  intro p e s m args below meth c s₁ B hml hno hv
  obtain ⟨rfl, hX, hZ, hN, hsz, hP, hK, hD0⟩ := hv
  have hx := B.exec
  have hb := B.bytes
  have hr := B.returns
  have hts := atoms_spec (ws := wsX4_count) B.pre
  have hown : s.vm.findClass RX4 = some m.cls := findClass_of_methodNamed B.named
  have hlocks := B.notSynchronized
  subst hsz
  have hD := hD0.self (sz := s.heap.size)
  generalize hAe : va_A ([]) s.heap.size = A at hD hZ ⊢
  have hA : ∀ q : Nat, s.heap.size ≤ q → A q := fun q h => by rw [← hAe]; exact Or.inr h
  have hS : va_S A s.heap s.heap [] := va_S.rf
  have hl := lv_entry ([.ref x0, .int p0]) (n := 2) (Nat.le_of_ble_eq_true rfl)
  rw [lg_entry_eq]
  generalize (lg_sl ([.ref x0, .int p0]) ++ List.replicate (2 - (lg_sl ([.ref x0, .int p0])).length) Slot.unset).toArray = ls at hl ⊢
  have hl : lv_has ls 2 [(0, .ref x0), (1, .int p0)] := hl
  obtain ⟨H, hHe⟩ : ∃ H, H = s.heap := ⟨_, rfl⟩
  have hP : va_P D vwCl ([]) H := by rw [hHe]; exact hP
  have hS : va_S A s.heap H [] := by rw [hHe]; exact hS
  rw [← hHe]
  refine absQ (fun Q hQ => ?_)
  refine lv_iload_n hx hb dX4_count_0 rfl (lv_at hl 1 rfl) ?_
  refine lv_tableOut (tgt := 211) hx hb dX4_count_1 (inB_o11 h1) (by decide) ?_
  obtain ⟨sa, hstr⟩ := hX.2.2.2 _ (List.mem_of_getElem? (i := 8) rfl)
  subst hQ
  exact vx_throwS (ik := 66) (is := 219) (ic := 70) (text := "a number is 0 to 11") hx hb hfl hown (by decide +kernel) (by decide +kernel) (hts _ (List.mem_of_getElem? (i := 1) rfl)) (hts _ (List.mem_of_getElem? (i := 2) rfl)) hstr (xat_IA (fun w hw => hts w (List.mem_cons_of_mem _ (List.mem_append_right _ hw))) hX) xgd_IA hZ.1 hZ.2 hS (by rw [hml]; exact hl.1) dX4_count_211 dX4_count_214 dX4_count_215 dX4_count_217 dX4_count_220 (fun x hx => (hno x hx).elim) (Nat.le_of_ble_eq_true rfl) (Nat.le_of_ble_eq_true rfl) (Nat.le_of_ble_eq_true rfl) (Nat.le_of_ble_eq_true rfl) hlocks (tx_x hP hS) hS.2.2 (Nat.le_of_ble_eq_true rfl) (Nat.le_of_ble_eq_true rfl)

set_option maxHeartbeats 1000000 in
set_option maxRecDepth 100000 in
theorem t_heaviest_1 (l : Launch) (hfl : l.stackTraces = false) (D : va_G) (k : Nat → ClassId) (x0 : Nat) (p0 : Int32) (h1 : inB p0 0 1 = false) : MX l yX4_heaviest wsX4_heaviest ({ frames := 6, cells := 1, slots := 6, locals := 90 }) D k [.ref x0, .int p0] ([]) "java/lang/IllegalArgumentException" ([]) := by
  intro sz
  refine vx_ofW (cc := cX4_heaviest) (maxL := 3) (ret := (some .int)) (by decide) rfl ?_
  intro p e s m args below meth c s₁ B hml hno hv
  obtain ⟨rfl, hX, hZ, hN, hsz, hP, hK, hD0⟩ := hv
  have hx := B.exec
  have hb := B.bytes
  have hr := B.returns
  have hts := atoms_spec (ws := wsX4_heaviest) B.pre
  have hown : s.vm.findClass RX4 = some m.cls := findClass_of_methodNamed B.named
  have hlocks := B.notSynchronized
  subst hsz
  have hD := hD0.self (sz := s.heap.size)
  generalize hAe : va_A ([]) s.heap.size = A at hD hZ ⊢
  have hA : ∀ q : Nat, s.heap.size ≤ q → A q := fun q h => by rw [← hAe]; exact Or.inr h
  have hS : va_S A s.heap s.heap [] := va_S.rf
  have hl := lv_entry ([.ref x0, .int p0]) (n := 3) (Nat.le_of_ble_eq_true rfl)
  rw [lg_entry_eq]
  generalize (lg_sl ([.ref x0, .int p0]) ++ List.replicate (3 - (lg_sl ([.ref x0, .int p0])).length) Slot.unset).toArray = ls at hl ⊢
  have hl : lv_has ls 3 [(0, .ref x0), (1, .int p0)] := hl
  obtain ⟨H, hHe⟩ : ∃ H, H = s.heap := ⟨_, rfl⟩
  have hP : va_P D vwCl ([]) H := by rw [hHe]; exact hP
  have hS : va_S A s.heap H [] := by rw [hHe]; exact hS
  rw [← hHe]
  refine absQ (fun Q hQ => ?_)
  refine lv_iload_n hx hb dX4_heaviest_0 rfl (lv_at hl 1 rfl) ?_
  refine lv_if_eq (tgt := 19) hx hb dX4_heaviest_1 (by decide) (fun c_1 => ?_) (fun c_1 => ?_)
  · exact (by rw [c_1] at h1; cases h1)
  · refine lv_iload_n hx hb dX4_heaviest_4 rfl (lv_at hl 1 rfl) ?_
    refine lv_iconst (v := 1) hx hb dX4_heaviest_5 (by decide) ?_
    refine lv_icmp_eq (tgt := 19) hx hb dX4_heaviest_6 (by decide) (fun c_2 => ?_) (fun c_2 => ?_)
    · exact (by rw [c_2] at h1; cases h1)
    · obtain ⟨sa, hstr⟩ := hX.2.2.2 _ (List.mem_of_getElem? (i := 9) rfl)
      subst hQ
      exact vx_throwS (ik := 66) (is := 221) (ic := 70) (text := "a number is 0 or 1") hx hb hfl hown (by decide +kernel) (by decide +kernel) (hts _ (List.mem_of_getElem? (i := 1) rfl)) (hts _ (List.mem_of_getElem? (i := 2) rfl)) hstr (xat_IA (fun w hw => hts w (List.mem_cons_of_mem _ (List.mem_append_right _ hw))) hX) xgd_IA hZ.1 hZ.2 hS (by rw [hml]; exact hl.1) dX4_heaviest_9 dX4_heaviest_12 dX4_heaviest_13 dX4_heaviest_15 dX4_heaviest_18 (fun x hx => (hno x hx).elim) (Nat.le_of_ble_eq_true rfl) (Nat.le_of_ble_eq_true rfl) (Nat.le_of_ble_eq_true rfl) (Nat.le_of_ble_eq_true rfl) hlocks (tx_x hP hS) hS.2.2 (Nat.le_of_ble_eq_true rfl) (Nat.le_of_ble_eq_true rfl)

set_option maxHeartbeats 1000000 in
set_option maxRecDepth 100000 in
theorem t_openWay_1 (l : Launch) (hfl : l.stackTraces = false) (D : va_G) (k : Nat → ClassId) (x0 : Nat) (p0 : Int32) (h1 : p0 < 0) : MX l yX4_openWay wsX4_openWay ({ frames := 6, cells := 1, slots := 6, locals := 90 }) D k [.ref x0, .int p0] ([]) "java/lang/IllegalArgumentException" ([]) := by
  intro sz
  refine vx_ofW (cc := cX4_openWay) (maxL := 2) (ret := (some .int)) (by decide) rfl ?_
  intro p e s m args below meth c s₁ B hml hno hv
  obtain ⟨rfl, hX, hZ, hN, hsz, hP, hK, hD0⟩ := hv
  have hx := B.exec
  have hb := B.bytes
  have hr := B.returns
  have hts := atoms_spec (ws := wsX4_openWay) B.pre
  have hown : s.vm.findClass RX4 = some m.cls := findClass_of_methodNamed B.named
  have hlocks := B.notSynchronized
  subst hsz
  have hD := hD0.self (sz := s.heap.size)
  generalize hAe : va_A ([]) s.heap.size = A at hD hZ ⊢
  have hA : ∀ q : Nat, s.heap.size ≤ q → A q := fun q h => by rw [← hAe]; exact Or.inr h
  have hS : va_S A s.heap s.heap [] := va_S.rf
  have hl := lv_entry ([.ref x0, .int p0]) (n := 2) (Nat.le_of_ble_eq_true rfl)
  rw [lg_entry_eq]
  generalize (lg_sl ([.ref x0, .int p0]) ++ List.replicate (2 - (lg_sl ([.ref x0, .int p0])).length) Slot.unset).toArray = ls at hl ⊢
  have hl : lv_has ls 2 [(0, .ref x0), (1, .int p0)] := hl
  obtain ⟨H, hHe⟩ : ∃ H, H = s.heap := ⟨_, rfl⟩
  have hP : va_P D vwCl ([]) H := by rw [hHe]; exact hP
  have hS : va_S A s.heap H [] := by rw [hHe]; exact hS
  rw [← hHe]
  refine absQ (fun Q hQ => ?_)
  refine lv_iload_n hx hb dX4_openWay_0 rfl (lv_at hl 1 rfl) ?_
  refine lv_if_ge (tgt := 14) hx hb dX4_openWay_1 (by decide) (fun c_1 => ?_) (fun c_1 => ?_)
  · exact absurd h1 (Int32.not_lt.mpr c_1)
  · obtain ⟨sa, hstr⟩ := hX.2.2.2 _ (List.mem_of_getElem? (i := 10) rfl)
    subst hQ
    exact vx_throwS (ik := 66) (is := 229) (ic := 70) (text := "a rank is from 0") hx hb hfl hown (by decide +kernel) (by decide +kernel) (hts _ (List.mem_of_getElem? (i := 1) rfl)) (hts _ (List.mem_of_getElem? (i := 2) rfl)) hstr (xat_IA (fun w hw => hts w (List.mem_cons_of_mem _ (List.mem_append_right _ hw))) hX) xgd_IA hZ.1 hZ.2 hS (by rw [hml]; exact hl.1) dX4_openWay_4 dX4_openWay_7 dX4_openWay_8 dX4_openWay_10 dX4_openWay_13 (fun x hx => (hno x hx).elim) (Nat.le_of_ble_eq_true rfl) (Nat.le_of_ble_eq_true rfl) (Nat.le_of_ble_eq_true rfl) (Nat.le_of_ble_eq_true rfl) hlocks (tx_x hP hS) hS.2.2 (Nat.le_of_ble_eq_true rfl) (Nat.le_of_ble_eq_true rfl)

set_option maxHeartbeats 1000000 in
set_option maxRecDepth 100000 in
theorem t_keep_1 (l : Launch) (hfl : l.stackTraces = false) (D : va_G) (k : Nat → ClassId) (x0 : Nat) (p0 : Int32) (h1 : slB p0 = false) : MX l yX4_keep wsX4_keep ({ frames := 6, cells := 1, slots := 6, locals := 90 }) D k [.ref x0, .int p0] ([]) "java/lang/IllegalArgumentException" ([]) := by
  intro sz
  refine vx_ofW (cc := cX4_keep) (maxL := 2) (ret := (some .int)) (by decide) rfl ?_
  intro p e s m args below meth c s₁ B hml hno hv
  obtain ⟨rfl, hX, hZ, hN, hsz, hP, hK, hD0⟩ := hv
  have hx := B.exec
  have hb := B.bytes
  have hr := B.returns
  have hts := atoms_spec (ws := wsX4_keep) B.pre
  have hown : s.vm.findClass RX4 = some m.cls := findClass_of_methodNamed B.named
  have hlocks := B.notSynchronized
  subst hsz
  have hD := hD0.self (sz := s.heap.size)
  generalize hAe : va_A ([]) s.heap.size = A at hD hZ ⊢
  have hA : ∀ q : Nat, s.heap.size ≤ q → A q := fun q h => by rw [← hAe]; exact Or.inr h
  have hS : va_S A s.heap s.heap [] := va_S.rf
  have hl := lv_entry ([.ref x0, .int p0]) (n := 2) (Nat.le_of_ble_eq_true rfl)
  rw [lg_entry_eq]
  generalize (lg_sl ([.ref x0, .int p0]) ++ List.replicate (2 - (lg_sl ([.ref x0, .int p0])).length) Slot.unset).toArray = ls at hl ⊢
  have hl : lv_has ls 2 [(0, .ref x0), (1, .int p0)] := hl
  obtain ⟨H, hHe⟩ : ∃ H, H = s.heap := ⟨_, rfl⟩
  have hP : va_P D vwCl ([]) H := by rw [hHe]; exact hP
  have hS : va_S A s.heap H [] := by rw [hHe]; exact hS
  rw [← hHe]
  refine absQ (fun Q hQ => ?_)
  refine lv_iload_n hx hb dX4_keep_0 rfl (lv_at hl 1 rfl) ?_
  have hPc : va_P D vwCl ([]) H := hP.sub [] rfl
  have hDc : va_D A ([]) := hD.sub [] (by decide +kernel) rfl
  refine cl_i0 (va_runS (As := [.int p0]) (rest := []) ⟨hx, hb, hml, hown, hts⟩ (c_X4_isSlot l D k p0 H.size) (va_cwS 1 hts gX4_keep_X4_isSlot rfl rfl rfl (by decide +kernel) ⟨Nat.le_of_ble_eq_true rfl, Nat.le_of_ble_eq_true rfl⟩) ⟨pr_blind, pr_at hN hPc hK hDc⟩ rfl rfl hl.1 rfl (lv_room (Nat.le_of_ble_eq_true rfl)) dX4_keep_1 ⟨Nat.le_of_ble_eq_true rfl, Nat.le_of_ble_eq_true rfl⟩) hP hD hS hA [] rfl (fun H locs hP hD hS => ?_)
  clear hPc hDc
  refine lv_if_ne (tgt := 17) hx hb dX4_keep_4 (by decide) (fun c_1 => ?_) (fun c_1 => ?_)
  · have c_1 := bI_ne.mp c_1
    exact absurd c_1 (by rw [h1]; decide)
  · have c_1 := bI_eq.mp c_1
    obtain ⟨sa, hstr⟩ := hX.2.2.2 _ (List.mem_of_getElem? (i := 3) rfl)
    subst hQ
    exact vx_throwS (ik := 66) (is := 146) (ic := 70) (text := "a slot is 0 or 1") hx hb hfl hown (by decide +kernel) (by decide +kernel) (hts _ (List.mem_of_getElem? (i := 1) rfl)) (hts _ (List.mem_of_getElem? (i := 2) rfl)) hstr (xat_IA (fun w hw => hts w (List.mem_cons_of_mem _ (List.mem_append_right _ hw))) hX) xgd_IA hZ.1 hZ.2 hS (by rw [hml]; exact hl.1) dX4_keep_7 dX4_keep_10 dX4_keep_11 dX4_keep_13 dX4_keep_16 (fun x hx => (hno x hx).elim) (Nat.le_of_ble_eq_true rfl) (Nat.le_of_ble_eq_true rfl) (Nat.le_of_ble_eq_true rfl) (Nat.le_of_ble_eq_true rfl) hlocks (tx_x hP hS) hS.2.2 (Nat.le_of_ble_eq_true rfl) (Nat.le_of_ble_eq_true rfl)

set_option maxHeartbeats 1000000 in
set_option maxRecDepth 100000 in
theorem t_goBack_1 (l : Launch) (hfl : l.stackTraces = false) (D : va_G) (k : Nat → ClassId) (x0 : Nat) (p0 : Int32) (h1 : slB p0 = false) : MX l yX4_goBack wsX4_goBack ({ frames := 6, cells := 1, slots := 6, locals := 90 }) D k [.ref x0, .int p0] ([]) "java/lang/IllegalArgumentException" ([]) := by
  intro sz
  refine vx_ofW (cc := cX4_goBack) (maxL := 2) (ret := (some .int)) (by decide) rfl ?_
  intro p e s m args below meth c s₁ B hml hno hv
  obtain ⟨rfl, hX, hZ, hN, hsz, hP, hK, hD0⟩ := hv
  have hx := B.exec
  have hb := B.bytes
  have hr := B.returns
  have hts := atoms_spec (ws := wsX4_goBack) B.pre
  have hown : s.vm.findClass RX4 = some m.cls := findClass_of_methodNamed B.named
  have hlocks := B.notSynchronized
  subst hsz
  have hD := hD0.self (sz := s.heap.size)
  generalize hAe : va_A ([]) s.heap.size = A at hD hZ ⊢
  have hA : ∀ q : Nat, s.heap.size ≤ q → A q := fun q h => by rw [← hAe]; exact Or.inr h
  have hS : va_S A s.heap s.heap [] := va_S.rf
  have hl := lv_entry ([.ref x0, .int p0]) (n := 2) (Nat.le_of_ble_eq_true rfl)
  rw [lg_entry_eq]
  generalize (lg_sl ([.ref x0, .int p0]) ++ List.replicate (2 - (lg_sl ([.ref x0, .int p0])).length) Slot.unset).toArray = ls at hl ⊢
  have hl : lv_has ls 2 [(0, .ref x0), (1, .int p0)] := hl
  obtain ⟨H, hHe⟩ : ∃ H, H = s.heap := ⟨_, rfl⟩
  have hP : va_P D vwCl ([]) H := by rw [hHe]; exact hP
  have hS : va_S A s.heap H [] := by rw [hHe]; exact hS
  rw [← hHe]
  refine absQ (fun Q hQ => ?_)
  refine lv_iload_n hx hb dX4_goBack_0 rfl (lv_at hl 1 rfl) ?_
  have hPc : va_P D vwCl ([]) H := hP.sub [] rfl
  have hDc : va_D A ([]) := hD.sub [] (by decide +kernel) rfl
  refine cl_i0 (va_runS (As := [.int p0]) (rest := []) ⟨hx, hb, hml, hown, hts⟩ (c_X4_isSlot l D k p0 H.size) (va_cwS 1 hts gX4_goBack_X4_isSlot rfl rfl rfl (by decide +kernel) ⟨Nat.le_of_ble_eq_true rfl, Nat.le_of_ble_eq_true rfl⟩) ⟨pr_blind, pr_at hN hPc hK hDc⟩ rfl rfl hl.1 rfl (lv_room (Nat.le_of_ble_eq_true rfl)) dX4_goBack_1 ⟨Nat.le_of_ble_eq_true rfl, Nat.le_of_ble_eq_true rfl⟩) hP hD hS hA [] rfl (fun H locs hP hD hS => ?_)
  clear hPc hDc
  refine lv_if_ne (tgt := 17) hx hb dX4_goBack_4 (by decide) (fun c_1 => ?_) (fun c_1 => ?_)
  · have c_1 := bI_ne.mp c_1
    exact absurd c_1 (by rw [h1]; decide)
  · have c_1 := bI_eq.mp c_1
    obtain ⟨sa, hstr⟩ := hX.2.2.2 _ (List.mem_of_getElem? (i := 3) rfl)
    subst hQ
    exact vx_throwS (ik := 66) (is := 146) (ic := 70) (text := "a slot is 0 or 1") hx hb hfl hown (by decide +kernel) (by decide +kernel) (hts _ (List.mem_of_getElem? (i := 1) rfl)) (hts _ (List.mem_of_getElem? (i := 2) rfl)) hstr (xat_IA (fun w hw => hts w (List.mem_cons_of_mem _ (List.mem_append_left _ (List.mem_append_right _ hw)))) hX) xgd_IA hZ.1 hZ.2 hS (by rw [hml]; exact hl.1) dX4_goBack_7 dX4_goBack_10 dX4_goBack_11 dX4_goBack_13 dX4_goBack_16 (fun x hx => (hno x hx).elim) (Nat.le_of_ble_eq_true rfl) (Nat.le_of_ble_eq_true rfl) (Nat.le_of_ble_eq_true rfl) (Nat.le_of_ble_eq_true rfl) hlocks (tx_x hP hS) hS.2.2 (Nat.le_of_ble_eq_true rfl) (Nat.le_of_ble_eq_true rfl)
