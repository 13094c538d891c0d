def ntM (nw r : Nat) (v : Int32) : Int32 := if nw ≤ r then -1 else v

set_option maxHeartbeats 1000000 in
set_option maxRecDepth 100000 in
theorem c_X5_note_0 (l : Launch) (D : va_G) (k : Nat → ClassId) (h : Nat → Nat) (th : Int32) (f asd sl kp sv : Nat → Int32) (sm : Int32) (tx : Nat → Int32) (ln : Int32) (dg : Int64) (r nw : Nat) (hr31 : r < 2 ^ 31) (hnw : f 45 = nI nw) (hnw2 : nw ≤ 12) : MI l yX5_note wsX5_note ({ frames := 1, cells := 0, slots := 0, locals := 22 }) D k [.ref (h 0), .int (nI r), .int 0] (wMo k h th f asd sl kp sv sm tx ln dg) (ntM nw r (f (46 + 2 * r))) (wMo k h th f asd sl kp sv sm tx ln dg) := by
  intro sz
  refine Met.ofW (cc := cX5_note) (maxL := 3) (ret := (some .int)) (by decide) rfl ?_
  intro p e s m args below meth c s₁ B hml hv
  obtain ⟨rfl, hN, hsz, hP, hK, hD0⟩ := hv
  have hx := B.exec
  have hb := B.bytes
  have hr := B.returns
  have hts := atoms_spec (ws := wsX5_note) B.pre
  have hown : s.vm.findClass RX5 = some m.cls := findClass_of_methodNamed B.named
  have hlocks := B.notSynchronized
  subst hsz
  have hD := hD0.self (sz := s.heap.size)
  generalize hAe : va_A (wMo k h th f asd sl kp sv sm tx ln dg) s.heap.size = A at hD ⊢
  have hA : ∀ q : Nat, s.heap.size ≤ q → A q := fun q h => by rw [← hAe]; exact Or.inr h
  have hS : va_S A s.heap s.heap [] := va_S.rf
  have hl := lv_entry ([.ref (h 0), .int (nI r), .int 0]) (n := 3) (Nat.le_of_ble_eq_true rfl)
  rw [lg_entry_eq]
  generalize (lg_sl ([.ref (h 0), .int (nI r), .int 0]) ++ List.replicate (3 - (lg_sl ([.ref (h 0), .int (nI r), .int 0])).length) Slot.unset).toArray = ls at hl ⊢
  have hl : lv_has ls 3 [(0, .ref (h 0)), (1, .int (nI r)), (2, .int 0)] := hl
  obtain ⟨H, hHe⟩ : ∃ H, H = s.heap := ⟨_, rfl⟩
  have hP : va_P D vwCl (wMo k h th f asd sl kp sv sm tx ln dg) H := by rw [hHe]; exact hP
  have hS : va_S A s.heap H [] := by rw [hHe]; exact hS
  rw [← hHe]
  refine absQ (fun Q hQ => ?_)
  refine lv_iload_n hx hb dX5_note_0 rfl (lv_at hl 1 rfl) ?_
  refine lv_aload_n hx hb dX5_note_1 rfl (lv_at hl 0 rfl) ?_
  refine va_get (D := D) (ci := 5) (v := .ref (h 1)) (C := RX5) (T := TX5) (N := 10) hx hb hts (fun _ h9 => (List.mem_cons_of_mem _ (List.mem_append_right _ h9))) hown hK hP 0 rfl rfl 1 (by decide) (hts _ (List.mem_of_getElem? (i := 1) rfl)) (fun _ h9 => h9) rfl dX5_note_2 ?_
  refine lv_bipush (v := 45) hx hb dX5_note_5 (by decide) ?_
  refine ar_ld hx hb hK hP 1 rfl 45 rfl (show vp_in (nI 45) 72 from vp_in_nI (by decide) (by decide)) dX5_note_7 ?_
  refine tp_e (y := (nI nw)) hnw ?_
  refine lv_icmp_lt (tgt := 15) hx hb dX5_note_8 (by decide) (fun c_1 => ?_) (fun c_1 => ?_)
  · have c_1 : r < nw := (nI_ltI (a := r) (b := nw) (by omega) (by omega)).mp c_1
    refine lv_iload_n hx hb dX5_note_15 rfl (lv_at hl 2 rfl) ?_
    refine lv_iconst (v := 2) hx hb dX5_note_16 (by decide) ?_
    refine lv_icmp_ge (tgt := 36) hx hb dX5_note_17 (by decide) (fun c_2 => ?_) (fun c_2 => ?_)
    · exact absurd c_2 (by decide)
    · refine lv_aload_n hx hb dX5_note_20 rfl (lv_at hl 0 rfl) ?_
      refine va_get (D := D) (ci := 5) (v := .ref (h 1)) (C := RX5) (T := TX5) (N := 10) hx hb hts (fun _ h9 => (List.mem_cons_of_mem _ (List.mem_append_right _ h9))) hown hK hP 0 rfl rfl 1 (by decide) (hts _ (List.mem_of_getElem? (i := 1) rfl)) (fun _ h9 => h9) rfl dX5_note_21 ?_
      refine lv_bipush (v := 46) hx hb dX5_note_24 (by decide) ?_
      refine lv_iconst (v := 2) hx hb dX5_note_26 (by decide) ?_
      refine lv_iload_n hx hb dX5_note_27 rfl (lv_at hl 1 rfl) ?_
      refine lv_imul hx hb dX5_note_28 ?_
      refine tp_e (y := (nI (2 * r))) (pk_mul 2 r) ?_
      refine lv_iadd hx hb dX5_note_29 ?_
      refine tp_e (y := (nI (46 + 2 * r))) (nI_add 46 (2 * r)) ?_
      refine lv_iload_n hx hb dX5_note_30 rfl (lv_at hl 2 rfl) ?_
      refine lv_iadd hx hb dX5_note_31 ?_
      refine tp_e (y := (nI (46 + 2 * r + 0))) (nI_add (46 + 2 * r) 0) ?_
      refine ar_ld hx hb hK hP 1 rfl (46 + 2 * r + 0) (nI_clamp (by omega)) (vp_in_nI (by omega) (by omega)) dX5_note_32 ?_
      refine lv_goto (tgt := 52) hx hb dX5_note_33 (by decide) ?_
      subst hQ
      exact rt_i hx hb hr hlocks hS dX5_note_52 (hP) (by rw [ntM, if_neg (by omega)]; rfl)
  · have c_1 : ¬ (r < nw) := fun h9 => c_1 ((nI_ltI (a := r) (b := nw) (by omega) (by omega)).mpr h9)
    refine lv_iconst (v := (-1)) hx hb dX5_note_11 (by decide) ?_
    refine lv_goto (tgt := 52) hx hb dX5_note_12 (by decide) ?_
    subst hQ
    exact rt_i hx hb hr hlocks hS dX5_note_52 (hP) (by rw [ntM, if_pos (by omega)])

set_option maxHeartbeats 1000000 in
set_option maxRecDepth 100000 in
theorem c_X5_note_1 (l : Launch) (D : va_G) (k : Nat → ClassId) (h : Nat → Nat) (th : Int32) (f asd sl kp sv : Nat → Int32) (sm : Int32) (tx : Nat → Int32) (ln : Int32) (dg : Int64) (r nw : Nat) (hr31 : r < 2 ^ 31) (hnw : f 45 = nI nw) (hnw2 : nw ≤ 12) : MI l yX5_note wsX5_note ({ frames := 1, cells := 0, slots := 0, locals := 22 }) D k [.ref (h 0), .int (nI r), .int 1] (wMo k h th f asd sl kp sv sm tx ln dg) (ntM nw r (f (46 + 2 * r + 1))) (wMo k h th f asd sl kp sv sm tx ln dg) := by
  intro sz
  refine Met.ofW (cc := cX5_note) (maxL := 3) (ret := (some .int)) (by decide) rfl ?_
  intro p e s m args below meth c s₁ B hml hv
  obtain ⟨rfl, hN, hsz, hP, hK, hD0⟩ := hv
  have hx := B.exec
  have hb := B.bytes
  have hr := B.returns
  have hts := atoms_spec (ws := wsX5_note) B.pre
  have hown : s.vm.findClass RX5 = some m.cls := findClass_of_methodNamed B.named
  have hlocks := B.notSynchronized
  subst hsz
  have hD := hD0.self (sz := s.heap.size)
  generalize hAe : va_A (wMo k h th f asd sl kp sv sm tx ln dg) s.heap.size = A at hD ⊢
  have hA : ∀ q : Nat, s.heap.size ≤ q → A q := fun q h => by rw [← hAe]; exact Or.inr h
  have hS : va_S A s.heap s.heap [] := va_S.rf
  have hl := lv_entry ([.ref (h 0), .int (nI r), .int 1]) (n := 3) (Nat.le_of_ble_eq_true rfl)
  rw [lg_entry_eq]
  generalize (lg_sl ([.ref (h 0), .int (nI r), .int 1]) ++ List.replicate (3 - (lg_sl ([.ref (h 0), .int (nI r), .int 1])).length) Slot.unset).toArray = ls at hl ⊢
  have hl : lv_has ls 3 [(0, .ref (h 0)), (1, .int (nI r)), (2, .int 1)] := hl
  obtain ⟨H, hHe⟩ : ∃ H, H = s.heap := ⟨_, rfl⟩
  have hP : va_P D vwCl (wMo k h th f asd sl kp sv sm tx ln dg) H := by rw [hHe]; exact hP
  have hS : va_S A s.heap H [] := by rw [hHe]; exact hS
  rw [← hHe]
  refine absQ (fun Q hQ => ?_)
  refine lv_iload_n hx hb dX5_note_0 rfl (lv_at hl 1 rfl) ?_
  refine lv_aload_n hx hb dX5_note_1 rfl (lv_at hl 0 rfl) ?_
  refine va_get (D := D) (ci := 5) (v := .ref (h 1)) (C := RX5) (T := TX5) (N := 10) hx hb hts (fun _ h9 => (List.mem_cons_of_mem _ (List.mem_append_right _ h9))) hown hK hP 0 rfl rfl 1 (by decide) (hts _ (List.mem_of_getElem? (i := 1) rfl)) (fun _ h9 => h9) rfl dX5_note_2 ?_
  refine lv_bipush (v := 45) hx hb dX5_note_5 (by decide) ?_
  refine ar_ld hx hb hK hP 1 rfl 45 rfl (show vp_in (nI 45) 72 from vp_in_nI (by decide) (by decide)) dX5_note_7 ?_
  refine tp_e (y := (nI nw)) hnw ?_
  refine lv_icmp_lt (tgt := 15) hx hb dX5_note_8 (by decide) (fun c_1 => ?_) (fun c_1 => ?_)
  · have c_1 : r < nw := (nI_ltI (a := r) (b := nw) (by omega) (by omega)).mp c_1
    refine lv_iload_n hx hb dX5_note_15 rfl (lv_at hl 2 rfl) ?_
    refine lv_iconst (v := 2) hx hb dX5_note_16 (by decide) ?_
    refine lv_icmp_ge (tgt := 36) hx hb dX5_note_17 (by decide) (fun c_2 => ?_) (fun c_2 => ?_)
    · exact absurd c_2 (by decide)
    · refine lv_aload_n hx hb dX5_note_20 rfl (lv_at hl 0 rfl) ?_
      refine va_get (D := D) (ci := 5) (v := .ref (h 1)) (C := RX5) (T := TX5) (N := 10) hx hb hts (fun _ h9 => (List.mem_cons_of_mem _ (List.mem_append_right _ h9))) hown hK hP 0 rfl rfl 1 (by decide) (hts _ (List.mem_of_getElem? (i := 1) rfl)) (fun _ h9 => h9) rfl dX5_note_21 ?_
      refine lv_bipush (v := 46) hx hb dX5_note_24 (by decide) ?_
      refine lv_iconst (v := 2) hx hb dX5_note_26 (by decide) ?_
      refine lv_iload_n hx hb dX5_note_27 rfl (lv_at hl 1 rfl) ?_
      refine lv_imul hx hb dX5_note_28 ?_
      refine tp_e (y := (nI (2 * r))) (pk_mul 2 r) ?_
      refine lv_iadd hx hb dX5_note_29 ?_
      refine tp_e (y := (nI (46 + 2 * r))) (nI_add 46 (2 * r)) ?_
      refine lv_iload_n hx hb dX5_note_30 rfl (lv_at hl 2 rfl) ?_
      refine lv_iadd hx hb dX5_note_31 ?_
      refine tp_e (y := (nI (46 + 2 * r + 1))) (nI_add (46 + 2 * r) 1) ?_
      refine ar_ld hx hb hK hP 1 rfl (46 + 2 * r + 1) (nI_clamp (by omega)) (vp_in_nI (by omega) (by omega)) dX5_note_32 ?_
      refine lv_goto (tgt := 52) hx hb dX5_note_33 (by decide) ?_
      subst hQ
      exact rt_i hx hb hr hlocks hS dX5_note_52 (hP) (by rw [ntM, if_neg (by omega)])
  · have c_1 : ¬ (r < nw) := fun h9 => c_1 ((nI_ltI (a := r) (b := nw) (by omega) (by omega)).mpr h9)
    refine lv_iconst (v := (-1)) hx hb dX5_note_11 (by decide) ?_
    refine lv_goto (tgt := 52) hx hb dX5_note_12 (by decide) ?_
    subst hQ
    exact rt_i hx hb hr hlocks hS dX5_note_52 (hP) (by rw [ntM, if_pos (by omega)])

set_option maxHeartbeats 1000000 in
set_option maxRecDepth 100000 in
theorem c_X5_note_2 (l : Launch) (D : va_G) (k : Nat → ClassId) (h : Nat → Nat) (th : Int32) (f asd sl kp sv : Nat → Int32) (sm : Int32) (tx : Nat → Int32) (ln : Int32) (dg : Int64) (r nw : Nat) (hr31 : r < 2 ^ 31) (hnw : f 45 = nI nw) (hnw2 : nw ≤ 12) : MI l yX5_note wsX5_note ({ frames := 1, cells := 0, slots := 0, locals := 22 }) D k [.ref (h 0), .int (nI r), .int 2] (wMo k h th f asd sl kp sv sm tx ln dg) (ntM nw r (mnF (f (46 + 2 * r + 1)) 9)) (wMo k h th f asd sl kp sv sm tx ln dg) := by
  intro sz
  refine Met.ofW (cc := cX5_note) (maxL := 3) (ret := (some .int)) (by decide) rfl ?_
  intro p e s m args below meth c s₁ B hml hv
  obtain ⟨rfl, hN, hsz, hP, hK, hD0⟩ := hv
  have hx := B.exec
  have hb := B.bytes
  have hr := B.returns
  have hts := atoms_spec (ws := wsX5_note) B.pre
  have hown : s.vm.findClass RX5 = some m.cls := findClass_of_methodNamed B.named
  have hlocks := B.notSynchronized
  subst hsz
  have hD := hD0.self (sz := s.heap.size)
  generalize hAe : va_A (wMo k h th f asd sl kp sv sm tx ln dg) s.heap.size = A at hD ⊢
  have hA : ∀ q : Nat, s.heap.size ≤ q → A q := fun q h => by rw [← hAe]; exact Or.inr h
  have hS : va_S A s.heap s.heap [] := va_S.rf
  have hl := lv_entry ([.ref (h 0), .int (nI r), .int 2]) (n := 3) (Nat.le_of_ble_eq_true rfl)
  rw [lg_entry_eq]
  generalize (lg_sl ([.ref (h 0), .int (nI r), .int 2]) ++ List.replicate (3 - (lg_sl ([.ref (h 0), .int (nI r), .int 2])).length) Slot.unset).toArray = ls at hl ⊢
  have hl : lv_has ls 3 [(0, .ref (h 0)), (1, .int (nI r)), (2, .int 2)] := hl
  obtain ⟨H, hHe⟩ : ∃ H, H = s.heap := ⟨_, rfl⟩
  have hP : va_P D vwCl (wMo k h th f asd sl kp sv sm tx ln dg) H := by rw [hHe]; exact hP
  have hS : va_S A s.heap H [] := by rw [hHe]; exact hS
  rw [← hHe]
  refine absQ (fun Q hQ => ?_)
  refine lv_iload_n hx hb dX5_note_0 rfl (lv_at hl 1 rfl) ?_
  refine lv_aload_n hx hb dX5_note_1 rfl (lv_at hl 0 rfl) ?_
  refine va_get (D := D) (ci := 5) (v := .ref (h 1)) (C := RX5) (T := TX5) (N := 10) hx hb hts (fun _ h9 => (List.mem_cons_of_mem _ (List.mem_append_right _ h9))) hown hK hP 0 rfl rfl 1 (by decide) (hts _ (List.mem_of_getElem? (i := 1) rfl)) (fun _ h9 => h9) rfl dX5_note_2 ?_
  refine lv_bipush (v := 45) hx hb dX5_note_5 (by decide) ?_
  refine ar_ld hx hb hK hP 1 rfl 45 rfl (show vp_in (nI 45) 72 from vp_in_nI (by decide) (by decide)) dX5_note_7 ?_
  refine tp_e (y := (nI nw)) hnw ?_
  refine lv_icmp_lt (tgt := 15) hx hb dX5_note_8 (by decide) (fun c_1 => ?_) (fun c_1 => ?_)
  · have c_1 : r < nw := (nI_ltI (a := r) (b := nw) (by omega) (by omega)).mp c_1
    refine lv_iload_n hx hb dX5_note_15 rfl (lv_at hl 2 rfl) ?_
    refine lv_iconst (v := 2) hx hb dX5_note_16 (by decide) ?_
    refine lv_icmp_ge (tgt := 36) hx hb dX5_note_17 (by decide) (fun c_2 => ?_) (fun c_2 => ?_)
    · refine lv_aload_n hx hb dX5_note_36 rfl (lv_at hl 0 rfl) ?_
      refine va_get (D := D) (ci := 5) (v := .ref (h 1)) (C := RX5) (T := TX5) (N := 10) hx hb hts (fun _ h9 => (List.mem_cons_of_mem _ (List.mem_append_right _ h9))) hown hK hP 0 rfl rfl 1 (by decide) (hts _ (List.mem_of_getElem? (i := 1) rfl)) (fun _ h9 => h9) rfl dX5_note_37 ?_
      refine lv_bipush (v := 46) hx hb dX5_note_40 (by decide) ?_
      refine lv_iconst (v := 2) hx hb dX5_note_42 (by decide) ?_
      refine lv_iload_n hx hb dX5_note_43 rfl (lv_at hl 1 rfl) ?_
      refine lv_imul hx hb dX5_note_44 ?_
      refine tp_e (y := (nI (2 * r))) (pk_mul 2 r) ?_
      refine lv_iadd hx hb dX5_note_45 ?_
      refine tp_e (y := (nI (46 + 2 * r))) (nI_add 46 (2 * r)) ?_
      refine lv_iconst (v := 1) hx hb dX5_note_46 (by decide) ?_
      refine lv_iadd hx hb dX5_note_47 ?_
      refine tp_e (y := (nI (46 + 2 * r + 1))) (nI_add (46 + 2 * r) 1) ?_
      refine ar_ld hx hb hK hP 1 rfl (46 + 2 * r + 1) (nI_clamp (by omega)) (vp_in_nI (by omega) (by omega)) dX5_note_48 ?_
      have hPc : va_P D vwCl ([]) H := hP.sub [] rfl
      have hDc : va_D A ([]) := hD.sub [] (by decide +kernel) rfl
      refine cl_i0 (va_runS (As := [.int (f (46 + 2 * r + 1))]) (rest := []) ⟨hx, hb, hml, hown, hts⟩ (c_X5_many l D k (f (46 + 2 * r + 1)) H.size) (va_cwS 1 hts gX5_note_X5_many rfl rfl rfl (by decide +kernel) ⟨Nat.le_of_ble_eq_true rfl, Nat.le_of_ble_eq_true rfl⟩) ⟨pr_blind, pr_at hN hPc hK hDc⟩ rfl rfl hl.1 rfl (lv_room (Nat.le_of_ble_eq_true rfl)) dX5_note_49 ⟨Nat.le_of_ble_eq_true rfl, Nat.le_of_ble_eq_true rfl⟩) hP hD hS hA [] rfl (fun H locs hP hD hS => ?_)
      clear hPc hDc
      subst hQ
      exact rt_i hx hb hr hlocks hS dX5_note_52 (hP) (by rw [ntM, if_neg (by omega)])
    · exact absurd c_2 (by decide)
  · have c_1 : ¬ (r < nw) := fun h9 => c_1 ((nI_ltI (a := r) (b := nw) (by omega) (by omega)).mpr h9)
    refine lv_iconst (v := (-1)) hx hb dX5_note_11 (by decide) ?_
    refine lv_goto (tgt := 52) hx hb dX5_note_12 (by decide) ?_
    subst hQ
    exact rt_i hx hb hr hlocks hS dX5_note_52 (hP) (by rw [ntM, if_pos (by omega)])

set_option maxHeartbeats 1000000 in
set_option maxRecDepth 100000 in
theorem c_X5_noted_0 (l : Launch) (D : va_G) (k : Nat → ClassId) (h : Nat → Nat) (th : Int32) (f asd sl kp sv : Nat → Int32) (sm : Int32) (tx : Nat → Int32) (ln : Int32) (dg : Int64) (r nw : Nat) (hr31 : r < 2 ^ 31) (hnw : f 45 = nI nw) (hnw2 : nw ≤ 12) : MI l yX5_noted wsX5_noted ({ frames := 2, cells := 0, slots := 0, locals := 44 }) D k [.ref (h 0), .int (nI r), .int 0] (wMo k h th f asd sl kp sv sm tx ln dg) (ntM nw r (f (46 + 2 * r))) (wMo k h 0 f asd sl kp sv sm tx ln dg) := by
  intro sz
  refine Met.ofW (cc := cX5_noted) (maxL := 3) (ret := (some .int)) (by decide) rfl ?_
  intro p e s m args below meth c s₁ B hml hv
  obtain ⟨rfl, hN, hsz, hP, hK, hD0⟩ := hv
  have hx := B.exec
  have hb := B.bytes
  have hr := B.returns
  have hts := atoms_spec (ws := wsX5_noted) B.pre
  have hown : s.vm.findClass RX5 = some m.cls := findClass_of_methodNamed B.named
  have hlocks := B.notSynchronized
  subst hsz
  have hD := hD0.self (sz := s.heap.size)
  generalize hAe : va_A (wMo k h th f asd sl kp sv sm tx ln dg) s.heap.size = A at hD ⊢
  have hA : ∀ q : Nat, s.heap.size ≤ q → A q := fun q h => by rw [← hAe]; exact Or.inr h
  have hS : va_S A s.heap s.heap [] := va_S.rf
  have hl := lv_entry ([.ref (h 0), .int (nI r), .int 0]) (n := 3) (Nat.le_of_ble_eq_true rfl)
  rw [lg_entry_eq]
  generalize (lg_sl ([.ref (h 0), .int (nI r), .int 0]) ++ List.replicate (3 - (lg_sl ([.ref (h 0), .int (nI r), .int 0])).length) Slot.unset).toArray = ls at hl ⊢
  have hl : lv_has ls 3 [(0, .ref (h 0)), (1, .int (nI r)), (2, .int 0)] := hl
  obtain ⟨H, hHe⟩ : ∃ H, H = s.heap := ⟨_, rfl⟩
  have hP : va_P D vwCl (wMo k h th f asd sl kp sv sm tx ln dg) H := by rw [hHe]; exact hP
  have hS : va_S A s.heap H [] := by rw [hHe]; exact hS
  rw [← hHe]
  refine absQ (fun Q hQ => ?_)
  refine lv_aload_n hx hb dX5_noted_0 rfl (lv_at hl 0 rfl) ?_
  refine lv_iload_n hx hb dX5_noted_1 rfl (lv_at hl 1 rfl) ?_
  refine lv_if_lt (tgt := 18) hx hb dX5_noted_2 (by decide) (fun c_1 => ?_) (fun c_1 => ?_)
  · have c_1 : r < 0 := (nI_ltI (a := r) (b := 0) (by omega) (by omega)).mp c_1
    exact absurd c_1 (by omega)
  · have c_1 : ¬ (r < 0) := fun h9 => c_1 ((nI_ltI (a := r) (b := 0) (by omega) (by omega)).mpr h9)
    refine lv_iload_n hx hb dX5_noted_5 rfl (lv_at hl 2 rfl) ?_
    refine lv_iconst (v := 0) hx hb dX5_noted_6 (by decide) ?_
    refine lv_iconst (v := 2) hx hb dX5_noted_7 (by decide) ?_
    have hPc : va_P D vwCl ([]) H := hP.sub [] rfl
    have hDc : va_D A ([]) := hD.sub [] (by decide +kernel) rfl
    refine cl_i0 (va_runS (As := [.int 0, .int 0, .int 2]) (rest := [.ref (h 0)]) ⟨hx, hb, hml, hown, hts⟩ (c_X5_in l D k 0 0 2 H.size) (va_cwS 3 hts gX5_noted_X5_in rfl rfl rfl (by decide +kernel) ⟨Nat.le_of_ble_eq_true rfl, Nat.le_of_ble_eq_true rfl⟩) ⟨pr_blind, pr_at hN hPc hK hDc⟩ rfl rfl hl.1 rfl (lv_room (Nat.le_of_ble_eq_true rfl)) dX5_noted_8 ⟨Nat.le_of_ble_eq_true rfl, Nat.le_of_ble_eq_true rfl⟩) hP hD hS hA [] rfl (fun H locs hP hD hS => ?_)
    clear hPc hDc
    refine lv_if_eq (tgt := 18) hx hb dX5_noted_11 (by decide) (fun c_2 => ?_) (fun c_2 => ?_)
    · have c_2 := bI_eq.mp c_2
      exact absurd c_2 (by rw [(show inB 0 0 2 = true by decide)]; decide)
    · have c_2 := bI_ne.mp c_2
      refine lv_iconst (v := 0) hx hb dX5_noted_14 (by decide) ?_
      refine lv_goto (tgt := 19) hx hb dX5_noted_15 (by decide) ?_
      have hPc : va_P D vwCl (wMo k h th f asd sl kp sv sm tx ln dg) H := hP.sub [0, 1, 2, 3, 4, 5, 6] rfl
      have hDc : va_D A (wMo k h th f asd sl kp sv sm tx ln dg) := hD.sub [0, 1, 2, 3, 4, 5, 6] (by decide +kernel) rfl
      refine cl_i (va_runV (As := [.int 0]) (rest := []) ⟨hx, hb, hml, hown, hts⟩ (c_X5_holds l D k h th f asd sl kp sv sm tx ln dg 0 H.size) (cwV 1 hts gX5_noted_X5_holds rfl rfl rfl (by decide +kernel) ⟨Nat.le_of_ble_eq_true rfl, Nat.le_of_ble_eq_true rfl⟩) ⟨pr_blind, va_recv hK hP (ci := 5) (q0 := 0) rfl rfl, pr_at hN hPc hK hDc⟩ rfl rfl hl.1 rfl (lv_room (Nat.le_of_ble_eq_true rfl)) dX5_noted_19 ⟨Nat.le_of_ble_eq_true rfl, Nat.le_of_ble_eq_true rfl⟩) hP hD hS hA [0, 1, 2, 3, 4, 5, 6] [] ([]) [h 0, h 1, h 2, h 3, h 4, h 5, h 6] 7 rfl (wn := wMo k h 0 f asd sl kp sv sm tx ln dg) rfl rfl rfl rfl (by decide +kernel) rfl rfl (fun H locs hP hD hS => ?_)
      clear hPc hDc
      refine tp_e (y := 1) (by decide) ?_
      refine lv_if_eq (tgt := 34) hx hb dX5_noted_22 (by decide) (fun c_3 => ?_) (fun c_3 => ?_)
      · exact absurd c_3 (by decide)
      · refine lv_aload_n hx hb dX5_noted_25 rfl (lv_at hl 0 rfl) ?_
        refine lv_iload_n hx hb dX5_noted_26 rfl (lv_at hl 1 rfl) ?_
        refine lv_iload_n hx hb dX5_noted_27 rfl (lv_at hl 2 rfl) ?_
        have hPc : va_P D vwCl (wMo k h 0 f asd sl kp sv sm tx ln dg) H := hP.sub [0, 1, 2, 3, 4, 5, 6] rfl
        have hDc : va_D A (wMo k h 0 f asd sl kp sv sm tx ln dg) := hD.sub [0, 1, 2, 3, 4, 5, 6] (by decide +kernel) rfl
        refine cl_i0 (va_runV (As := [.int (nI r), .int 0]) (rest := []) ⟨hx, hb, hml, hown, hts⟩ (c_X5_note_0 l D k h 0 f asd sl kp sv sm tx ln dg r nw hr31 hnw hnw2 H.size) (cwV 2 hts gX5_noted_X5_note rfl rfl rfl (by decide +kernel) ⟨Nat.le_of_ble_eq_true rfl, Nat.le_of_ble_eq_true rfl⟩) ⟨pr_blind, va_recv hK hP (ci := 5) (q0 := 0) rfl rfl, pr_at hN hPc hK hDc⟩ rfl rfl hl.1 rfl (lv_room (Nat.le_of_ble_eq_true rfl)) dX5_noted_28 ⟨Nat.le_of_ble_eq_true rfl, Nat.le_of_ble_eq_true rfl⟩) hP hD hS hA [0, 1, 2, 3, 4, 5, 6] rfl (fun H locs hP hD hS => ?_)
        clear hPc hDc
        refine lv_goto (tgt := 35) hx hb dX5_noted_31 (by decide) ?_
        subst hQ
        exact rt_i hx hb hr hlocks hS dX5_noted_35 (hP) (rfl)

set_option maxHeartbeats 1000000 in
set_option maxRecDepth 100000 in
theorem c_X5_noted_1 (l : Launch) (D : va_G) (k : Nat → ClassId) (h : Nat → Nat) (th : Int32) (f asd sl kp sv : Nat → Int32) (sm : Int32) (tx : Nat → Int32) (ln : Int32) (dg : Int64) (r nw : Nat) (hr31 : r < 2 ^ 31) (hnw : f 45 = nI nw) (hnw2 : nw ≤ 12) : MI l yX5_noted wsX5_noted ({ frames := 2, cells := 0, slots := 0, locals := 44 }) D k [.ref (h 0), .int (nI r), .int 1] (wMo k h th f asd sl kp sv sm tx ln dg) (ntM nw r (f (46 + 2 * r + 1))) (wMo k h 0 f asd sl kp sv sm tx ln dg) := by
  intro sz
  refine Met.ofW (cc := cX5_noted) (maxL := 3) (ret := (some .int)) (by decide) rfl ?_
  intro p e s m args below meth c s₁ B hml hv
  obtain ⟨rfl, hN, hsz, hP, hK, hD0⟩ := hv
  have hx := B.exec
  have hb := B.bytes
  have hr := B.returns
  have hts := atoms_spec (ws := wsX5_noted) B.pre
  have hown : s.vm.findClass RX5 = some m.cls := findClass_of_methodNamed B.named
  have hlocks := B.notSynchronized
  subst hsz
  have hD := hD0.self (sz := s.heap.size)
  generalize hAe : va_A (wMo k h th f asd sl kp sv sm tx ln dg) s.heap.size = A at hD ⊢
  have hA : ∀ q : Nat, s.heap.size ≤ q → A q := fun q h => by rw [← hAe]; exact Or.inr h
  have hS : va_S A s.heap s.heap [] := va_S.rf
  have hl := lv_entry ([.ref (h 0), .int (nI r), .int 1]) (n := 3) (Nat.le_of_ble_eq_true rfl)
  rw [lg_entry_eq]
  generalize (lg_sl ([.ref (h 0), .int (nI r), .int 1]) ++ List.replicate (3 - (lg_sl ([.ref (h 0), .int (nI r), .int 1])).length) Slot.unset).toArray = ls at hl ⊢
  have hl : lv_has ls 3 [(0, .ref (h 0)), (1, .int (nI r)), (2, .int 1)] := hl
  obtain ⟨H, hHe⟩ : ∃ H, H = s.heap := ⟨_, rfl⟩
  have hP : va_P D vwCl (wMo k h th f asd sl kp sv sm tx ln dg) H := by rw [hHe]; exact hP
  have hS : va_S A s.heap H [] := by rw [hHe]; exact hS
  rw [← hHe]
  refine absQ (fun Q hQ => ?_)
  refine lv_aload_n hx hb dX5_noted_0 rfl (lv_at hl 0 rfl) ?_
  refine lv_iload_n hx hb dX5_noted_1 rfl (lv_at hl 1 rfl) ?_
  refine lv_if_lt (tgt := 18) hx hb dX5_noted_2 (by decide) (fun c_1 => ?_) (fun c_1 => ?_)
  · have c_1 : r < 0 := (nI_ltI (a := r) (b := 0) (by omega) (by omega)).mp c_1
    exact absurd c_1 (by omega)
  · have c_1 : ¬ (r < 0) := fun h9 => c_1 ((nI_ltI (a := r) (b := 0) (by omega) (by omega)).mpr h9)
    refine lv_iload_n hx hb dX5_noted_5 rfl (lv_at hl 2 rfl) ?_
    refine lv_iconst (v := 0) hx hb dX5_noted_6 (by decide) ?_
    refine lv_iconst (v := 2) hx hb dX5_noted_7 (by decide) ?_
    have hPc : va_P D vwCl ([]) H := hP.sub [] rfl
    have hDc : va_D A ([]) := hD.sub [] (by decide +kernel) rfl
    refine cl_i0 (va_runS (As := [.int 1, .int 0, .int 2]) (rest := [.ref (h 0)]) ⟨hx, hb, hml, hown, hts⟩ (c_X5_in l D k 1 0 2 H.size) (va_cwS 3 hts gX5_noted_X5_in rfl rfl rfl (by decide +kernel) ⟨Nat.le_of_ble_eq_true rfl, Nat.le_of_ble_eq_true rfl⟩) ⟨pr_blind, pr_at hN hPc hK hDc⟩ rfl rfl hl.1 rfl (lv_room (Nat.le_of_ble_eq_true rfl)) dX5_noted_8 ⟨Nat.le_of_ble_eq_true rfl, Nat.le_of_ble_eq_true rfl⟩) hP hD hS hA [] rfl (fun H locs hP hD hS => ?_)
    clear hPc hDc
    refine lv_if_eq (tgt := 18) hx hb dX5_noted_11 (by decide) (fun c_2 => ?_) (fun c_2 => ?_)
    · have c_2 := bI_eq.mp c_2
      exact absurd c_2 (by rw [(show inB 1 0 2 = true by decide)]; decide)
    · have c_2 := bI_ne.mp c_2
      refine lv_iconst (v := 0) hx hb dX5_noted_14 (by decide) ?_
      refine lv_goto (tgt := 19) hx hb dX5_noted_15 (by decide) ?_
      have hPc : va_P D vwCl (wMo k h th f asd sl kp sv sm tx ln dg) H := hP.sub [0, 1, 2, 3, 4, 5, 6] rfl
      have hDc : va_D A (wMo k h th f asd sl kp sv sm tx ln dg) := hD.sub [0, 1, 2, 3, 4, 5, 6] (by decide +kernel) rfl
      refine cl_i (va_runV (As := [.int 0]) (rest := []) ⟨hx, hb, hml, hown, hts⟩ (c_X5_holds l D k h th f asd sl kp sv sm tx ln dg 0 H.size) (cwV 1 hts gX5_noted_X5_holds rfl rfl rfl (by decide +kernel) ⟨Nat.le_of_ble_eq_true rfl, Nat.le_of_ble_eq_true rfl⟩) ⟨pr_blind, va_recv hK hP (ci := 5) (q0 := 0) rfl rfl, pr_at hN hPc hK hDc⟩ rfl rfl hl.1 rfl (lv_room (Nat.le_of_ble_eq_true rfl)) dX5_noted_19 ⟨Nat.le_of_ble_eq_true rfl, Nat.le_of_ble_eq_true rfl⟩) hP hD hS hA [0, 1, 2, 3, 4, 5, 6] [] ([]) [h 0, h 1, h 2, h 3, h 4, h 5, h 6] 7 rfl (wn := wMo k h 0 f asd sl kp sv sm tx ln dg) rfl rfl rfl rfl (by decide +kernel) rfl rfl (fun H locs hP hD hS => ?_)
      clear hPc hDc
      refine tp_e (y := 1) (by decide) ?_
      refine lv_if_eq (tgt := 34) hx hb dX5_noted_22 (by decide) (fun c_3 => ?_) (fun c_3 => ?_)
      · exact absurd c_3 (by decide)
      · refine lv_aload_n hx hb dX5_noted_25 rfl (lv_at hl 0 rfl) ?_
        refine lv_iload_n hx hb dX5_noted_26 rfl (lv_at hl 1 rfl) ?_
        refine lv_iload_n hx hb dX5_noted_27 rfl (lv_at hl 2 rfl) ?_
        have hPc : va_P D vwCl (wMo k h 0 f asd sl kp sv sm tx ln dg) H := hP.sub [0, 1, 2, 3, 4, 5, 6] rfl
        have hDc : va_D A (wMo k h 0 f asd sl kp sv sm tx ln dg) := hD.sub [0, 1, 2, 3, 4, 5, 6] (by decide +kernel) rfl
        refine cl_i0 (va_runV (As := [.int (nI r), .int 1]) (rest := []) ⟨hx, hb, hml, hown, hts⟩ (c_X5_note_1 l D k h 0 f asd sl kp sv sm tx ln dg r nw hr31 hnw hnw2 H.size) (cwV 2 hts gX5_noted_X5_note rfl rfl rfl (by decide +kernel) ⟨Nat.le_of_ble_eq_true rfl, Nat.le_of_ble_eq_true rfl⟩) ⟨pr_blind, va_recv hK hP (ci := 5) (q0 := 0) rfl rfl, pr_at hN hPc hK hDc⟩ rfl rfl hl.1 rfl (lv_room (Nat.le_of_ble_eq_true rfl)) dX5_noted_28 ⟨Nat.le_of_ble_eq_true rfl, Nat.le_of_ble_eq_true rfl⟩) hP hD hS hA [0, 1, 2, 3, 4, 5, 6] rfl (fun H locs hP hD hS => ?_)
        clear hPc hDc
        refine lv_goto (tgt := 35) hx hb dX5_noted_31 (by decide) ?_
        subst hQ
        exact rt_i hx hb hr hlocks hS dX5_noted_35 (hP) (rfl)

set_option maxHeartbeats 1000000 in
set_option maxRecDepth 100000 in
theorem c_X5_noted_2 (l : Launch) (D : va_G) (k : Nat → ClassId) (h : Nat → Nat) (th : Int32) (f asd sl kp sv : Nat → Int32) (sm : Int32) (tx : Nat → Int32) (ln : Int32) (dg : Int64) (r nw : Nat) (hr31 : r < 2 ^ 31) (hnw : f 45 = nI nw) (hnw2 : nw ≤ 12) : MI l yX5_noted wsX5_noted ({ frames := 2, cells := 0, slots := 0, locals := 44 }) D k [.ref (h 0), .int (nI r), .int 2] (wMo k h th f asd sl kp sv sm tx ln dg) (ntM nw r (mnF (f (46 + 2 * r + 1)) 9)) (wMo k h 0 f asd sl kp sv sm tx ln dg) := by
  intro sz
  refine Met.ofW (cc := cX5_noted) (maxL := 3) (ret := (some .int)) (by decide) rfl ?_
  intro p e s m args below meth c s₁ B hml hv
  obtain ⟨rfl, hN, hsz, hP, hK, hD0⟩ := hv
  have hx := B.exec
  have hb := B.bytes
  have hr := B.returns
  have hts := atoms_spec (ws := wsX5_noted) B.pre
  have hown : s.vm.findClass RX5 = some m.cls := findClass_of_methodNamed B.named
  have hlocks := B.notSynchronized
  subst hsz
  have hD := hD0.self (sz := s.heap.size)
  generalize hAe : va_A (wMo k h th f asd sl kp sv sm tx ln dg) s.heap.size = A at hD ⊢
  have hA : ∀ q : Nat, s.heap.size ≤ q → A q := fun q h => by rw [← hAe]; exact Or.inr h
  have hS : va_S A s.heap s.heap [] := va_S.rf
  have hl := lv_entry ([.ref (h 0), .int (nI r), .int 2]) (n := 3) (Nat.le_of_ble_eq_true rfl)
  rw [lg_entry_eq]
  generalize (lg_sl ([.ref (h 0), .int (nI r), .int 2]) ++ List.replicate (3 - (lg_sl ([.ref (h 0), .int (nI r), .int 2])).length) Slot.unset).toArray = ls at hl ⊢
  have hl : lv_has ls 3 [(0, .ref (h 0)), (1, .int (nI r)), (2, .int 2)] := hl
  obtain ⟨H, hHe⟩ : ∃ H, H = s.heap := ⟨_, rfl⟩
  have hP : va_P D vwCl (wMo k h th f asd sl kp sv sm tx ln dg) H := by rw [hHe]; exact hP
  have hS : va_S A s.heap H [] := by rw [hHe]; exact hS
  rw [← hHe]
  refine absQ (fun Q hQ => ?_)
  refine lv_aload_n hx hb dX5_noted_0 rfl (lv_at hl 0 rfl) ?_
  refine lv_iload_n hx hb dX5_noted_1 rfl (lv_at hl 1 rfl) ?_
  refine lv_if_lt (tgt := 18) hx hb dX5_noted_2 (by decide) (fun c_1 => ?_) (fun c_1 => ?_)
  · have c_1 : r < 0 := (nI_ltI (a := r) (b := 0) (by omega) (by omega)).mp c_1
    exact absurd c_1 (by omega)
  · have c_1 : ¬ (r < 0) := fun h9 => c_1 ((nI_ltI (a := r) (b := 0) (by omega) (by omega)).mpr h9)
    refine lv_iload_n hx hb dX5_noted_5 rfl (lv_at hl 2 rfl) ?_
    refine lv_iconst (v := 0) hx hb dX5_noted_6 (by decide) ?_
    refine lv_iconst (v := 2) hx hb dX5_noted_7 (by decide) ?_
    have hPc : va_P D vwCl ([]) H := hP.sub [] rfl
    have hDc : va_D A ([]) := hD.sub [] (by decide +kernel) rfl
    refine cl_i0 (va_runS (As := [.int 2, .int 0, .int 2]) (rest := [.ref (h 0)]) ⟨hx, hb, hml, hown, hts⟩ (c_X5_in l D k 2 0 2 H.size) (va_cwS 3 hts gX5_noted_X5_in rfl rfl rfl (by decide +kernel) ⟨Nat.le_of_ble_eq_true rfl, Nat.le_of_ble_eq_true rfl⟩) ⟨pr_blind, pr_at hN hPc hK hDc⟩ rfl rfl hl.1 rfl (lv_room (Nat.le_of_ble_eq_true rfl)) dX5_noted_8 ⟨Nat.le_of_ble_eq_true rfl, Nat.le_of_ble_eq_true rfl⟩) hP hD hS hA [] rfl (fun H locs hP hD hS => ?_)
    clear hPc hDc
    refine lv_if_eq (tgt := 18) hx hb dX5_noted_11 (by decide) (fun c_2 => ?_) (fun c_2 => ?_)
    · have c_2 := bI_eq.mp c_2
      exact absurd c_2 (by rw [(show inB 2 0 2 = true by decide)]; decide)
    · have c_2 := bI_ne.mp c_2
      refine lv_iconst (v := 0) hx hb dX5_noted_14 (by decide) ?_
      refine lv_goto (tgt := 19) hx hb dX5_noted_15 (by decide) ?_
      have hPc : va_P D vwCl (wMo k h th f asd sl kp sv sm tx ln dg) H := hP.sub [0, 1, 2, 3, 4, 5, 6] rfl
      have hDc : va_D A (wMo k h th f asd sl kp sv sm tx ln dg) := hD.sub [0, 1, 2, 3, 4, 5, 6] (by decide +kernel) rfl
      refine cl_i (va_runV (As := [.int 0]) (rest := []) ⟨hx, hb, hml, hown, hts⟩ (c_X5_holds l D k h th f asd sl kp sv sm tx ln dg 0 H.size) (cwV 1 hts gX5_noted_X5_holds rfl rfl rfl (by decide +kernel) ⟨Nat.le_of_ble_eq_true rfl, Nat.le_of_ble_eq_true rfl⟩) ⟨pr_blind, va_recv hK hP (ci := 5) (q0 := 0) rfl rfl, pr_at hN hPc hK hDc⟩ rfl rfl hl.1 rfl (lv_room (Nat.le_of_ble_eq_true rfl)) dX5_noted_19 ⟨Nat.le_of_ble_eq_true rfl, Nat.le_of_ble_eq_true rfl⟩) hP hD hS hA [0, 1, 2, 3, 4, 5, 6] [] ([]) [h 0, h 1, h 2, h 3, h 4, h 5, h 6] 7 rfl (wn := wMo k h 0 f asd sl kp sv sm tx ln dg) rfl rfl rfl rfl (by decide +kernel) rfl rfl (fun H locs hP hD hS => ?_)
      clear hPc hDc
      refine tp_e (y := 1) (by decide) ?_
      refine lv_if_eq (tgt := 34) hx hb dX5_noted_22 (by decide) (fun c_3 => ?_) (fun c_3 => ?_)
      · exact absurd c_3 (by decide)
      · refine lv_aload_n hx hb dX5_noted_25 rfl (lv_at hl 0 rfl) ?_
        refine lv_iload_n hx hb dX5_noted_26 rfl (lv_at hl 1 rfl) ?_
        refine lv_iload_n hx hb dX5_noted_27 rfl (lv_at hl 2 rfl) ?_
        have hPc : va_P D vwCl (wMo k h 0 f asd sl kp sv sm tx ln dg) H := hP.sub [0, 1, 2, 3, 4, 5, 6] rfl
        have hDc : va_D A (wMo k h 0 f asd sl kp sv sm tx ln dg) := hD.sub [0, 1, 2, 3, 4, 5, 6] (by decide +kernel) rfl
        refine cl_i0 (va_runV (As := [.int (nI r), .int 2]) (rest := []) ⟨hx, hb, hml, hown, hts⟩ (c_X5_note_2 l D k h 0 f asd sl kp sv sm tx ln dg r nw hr31 hnw hnw2 H.size) (cwV 2 hts gX5_noted_X5_note rfl rfl rfl (by decide +kernel) ⟨Nat.le_of_ble_eq_true rfl, Nat.le_of_ble_eq_true rfl⟩) ⟨pr_blind, va_recv hK hP (ci := 5) (q0 := 0) rfl rfl, pr_at hN hPc hK hDc⟩ rfl rfl hl.1 rfl (lv_room (Nat.le_of_ble_eq_true rfl)) dX5_noted_28 ⟨Nat.le_of_ble_eq_true rfl, Nat.le_of_ble_eq_true rfl⟩) hP hD hS hA [0, 1, 2, 3, 4, 5, 6] rfl (fun H locs hP hD hS => ?_)
        clear hPc hDc
        refine lv_goto (tgt := 35) hx hb dX5_noted_31 (by decide) ?_
        subst hQ
        exact rt_i hx hb hr hlocks hS dX5_noted_35 (hP) (rfl)

set_option maxHeartbeats 1000000 in
set_option maxRecDepth 100000 in
theorem c_X5_noted_x1a (l : Launch) (D : va_G) (k : Nat → ClassId) (h : Nat → Nat) (th : Int32) (f asd sl kp sv : Nat → Int32) (sm : Int32) (tx : Nat → Int32) (ln : Int32) (dg : Int64) (p0 p1 : Int32) (h1 : p0 < 0) : MI l yX5_noted wsX5_noted ({ frames := 1, cells := 0, slots := 0, locals := 21 }) D k [.ref (h 0), .int p0, .int p1] (wMo k h th f asd sl kp sv sm tx ln dg) 0 (wMo k h 1 f asd sl kp sv sm tx ln dg) := by
  intro sz
  refine Met.ofW (cc := cX5_noted) (maxL := 3) (ret := (some .int)) (by decide) rfl ?_
  intro p e s m args below meth c s₁ B hml hv
  obtain ⟨rfl, hN, hsz, hP, hK, hD0⟩ := hv
  have hx := B.exec
  have hb := B.bytes
  have hr := B.returns
  have hts := atoms_spec (ws := wsX5_noted) B.pre
  have hown : s.vm.findClass RX5 = some m.cls := findClass_of_methodNamed B.named
  have hlocks := B.notSynchronized
  subst hsz
  have hD := hD0.self (sz := s.heap.size)
  generalize hAe : va_A (wMo k h th f asd sl kp sv sm tx ln dg) s.heap.size = A at hD ⊢
  have hA : ∀ q : Nat, s.heap.size ≤ q → A q := fun q h => by rw [← hAe]; exact Or.inr h
  have hS : va_S A s.heap s.heap [] := va_S.rf
  have hl := lv_entry ([.ref (h 0), .int p0, .int p1]) (n := 3) (Nat.le_of_ble_eq_true rfl)
  rw [lg_entry_eq]
  generalize (lg_sl ([.ref (h 0), .int p0, .int p1]) ++ List.replicate (3 - (lg_sl ([.ref (h 0), .int p0, .int p1])).length) Slot.unset).toArray = ls at hl ⊢
  have hl : lv_has ls 3 [(0, .ref (h 0)), (1, .int p0), (2, .int p1)] := hl
  obtain ⟨H, hHe⟩ : ∃ H, H = s.heap := ⟨_, rfl⟩
  have hP : va_P D vwCl (wMo k h th f asd sl kp sv sm tx ln dg) H := by rw [hHe]; exact hP
  have hS : va_S A s.heap H [] := by rw [hHe]; exact hS
  rw [← hHe]
  refine absQ (fun Q hQ => ?_)
  refine lv_aload_n hx hb dX5_noted_0 rfl (lv_at hl 0 rfl) ?_
  refine lv_iload_n hx hb dX5_noted_1 rfl (lv_at hl 1 rfl) ?_
  refine lv_if_lt (tgt := 18) hx hb dX5_noted_2 (by decide) (fun c_1 => ?_) (fun c_1 => ?_)
  · refine lv_iconst (v := 1) hx hb dX5_noted_18 (by decide) ?_
    have hPc : va_P D vwCl (wMo k h th f asd sl kp sv sm tx ln dg) H := hP.sub [0, 1, 2, 3, 4, 5, 6] rfl
    have hDc : va_D A (wMo k h th f asd sl kp sv sm tx ln dg) := hD.sub [0, 1, 2, 3, 4, 5, 6] (by decide +kernel) rfl
    refine cl_i (va_runV (As := [.int 1]) (rest := []) ⟨hx, hb, hml, hown, hts⟩ (c_X5_holds l D k h th f asd sl kp sv sm tx ln dg 1 H.size) (cwV 1 hts gX5_noted_X5_holds rfl rfl rfl (by decide +kernel) ⟨Nat.le_of_ble_eq_true rfl, Nat.le_of_ble_eq_true rfl⟩) ⟨pr_blind, va_recv hK hP (ci := 5) (q0 := 0) rfl rfl, pr_at hN hPc hK hDc⟩ rfl rfl hl.1 rfl (lv_room (Nat.le_of_ble_eq_true rfl)) dX5_noted_19 ⟨Nat.le_of_ble_eq_true rfl, Nat.le_of_ble_eq_true rfl⟩) hP hD hS hA [0, 1, 2, 3, 4, 5, 6] [] ([]) [h 0, h 1, h 2, h 3, h 4, h 5, h 6] 7 rfl (wn := wMo k h 1 f asd sl kp sv sm tx ln dg) rfl rfl rfl rfl (by decide +kernel) rfl rfl (fun H locs hP hD hS => ?_)
    clear hPc hDc
    refine tp_e (y := 0) (by decide) ?_
    refine lv_if_eq (tgt := 34) hx hb dX5_noted_22 (by decide) (fun c_2 => ?_) (fun c_2 => ?_)
    · refine lv_iconst (v := 0) hx hb dX5_noted_34 (by decide) ?_
      subst hQ
      exact rt_i hx hb hr hlocks hS dX5_noted_35 (hP) (rfl)
    · exact absurd c_2 (by decide)
  · exact absurd h1 c_1

set_option maxHeartbeats 1000000 in
set_option maxRecDepth 100000 in
theorem c_X5_noted_x1b (l : Launch) (D : va_G) (k : Nat → ClassId) (h : Nat → Nat) (th : Int32) (f asd sl kp sv : Nat → Int32) (sm : Int32) (tx : Nat → Int32) (ln : Int32) (dg : Int64) (p0 p1 : Int32) (h1 : ¬ p0 < 0) (h2 : inB p1 0 2 = false) : MI l yX5_noted wsX5_noted ({ frames := 1, cells := 0, slots := 0, locals := 22 }) D k [.ref (h 0), .int p0, .int p1] (wMo k h th f asd sl kp sv sm tx ln dg) 0 (wMo k h 1 f asd sl kp sv sm tx ln dg) := by
  intro sz
  refine Met.ofW (cc := cX5_noted) (maxL := 3) (ret := (some .int)) (by decide) rfl ?_
  intro p e s m args below meth c s₁ B hml hv
  obtain ⟨rfl, hN, hsz, hP, hK, hD0⟩ := hv
  have hx := B.exec
  have hb := B.bytes
  have hr := B.returns
  have hts := atoms_spec (ws := wsX5_noted) B.pre
  have hown : s.vm.findClass RX5 = some m.cls := findClass_of_methodNamed B.named
  have hlocks := B.notSynchronized
  subst hsz
  have hD := hD0.self (sz := s.heap.size)
  generalize hAe : va_A (wMo k h th f asd sl kp sv sm tx ln dg) s.heap.size = A at hD ⊢
  have hA : ∀ q : Nat, s.heap.size ≤ q → A q := fun q h => by rw [← hAe]; exact Or.inr h
  have hS : va_S A s.heap s.heap [] := va_S.rf
  have hl := lv_entry ([.ref (h 0), .int p0, .int p1]) (n := 3) (Nat.le_of_ble_eq_true rfl)
  rw [lg_entry_eq]
  generalize (lg_sl ([.ref (h 0), .int p0, .int p1]) ++ List.replicate (3 - (lg_sl ([.ref (h 0), .int p0, .int p1])).length) Slot.unset).toArray = ls at hl ⊢
  have hl : lv_has ls 3 [(0, .ref (h 0)), (1, .int p0), (2, .int p1)] := hl
  obtain ⟨H, hHe⟩ : ∃ H, H = s.heap := ⟨_, rfl⟩
  have hP : va_P D vwCl (wMo k h th f asd sl kp sv sm tx ln dg) H := by rw [hHe]; exact hP
  have hS : va_S A s.heap H [] := by rw [hHe]; exact hS
  rw [← hHe]
  refine absQ (fun Q hQ => ?_)
  refine lv_aload_n hx hb dX5_noted_0 rfl (lv_at hl 0 rfl) ?_
  refine lv_iload_n hx hb dX5_noted_1 rfl (lv_at hl 1 rfl) ?_
  refine lv_if_lt (tgt := 18) hx hb dX5_noted_2 (by decide) (fun c_1 => ?_) (fun c_1 => ?_)
  · exact absurd c_1 h1
  · refine lv_iload_n hx hb dX5_noted_5 rfl (lv_at hl 2 rfl) ?_
    refine lv_iconst (v := 0) hx hb dX5_noted_6 (by decide) ?_
    refine lv_iconst (v := 2) hx hb dX5_noted_7 (by decide) ?_
    have hPc : va_P D vwCl ([]) H := hP.sub [] rfl
    have hDc : va_D A ([]) := hD.sub [] (by decide +kernel) rfl
    refine cl_i0 (va_runS (As := [.int p1, .int 0, .int 2]) (rest := [.ref (h 0)]) ⟨hx, hb, hml, hown, hts⟩ (c_X5_in l D k p1 0 2 H.size) (va_cwS 3 hts gX5_noted_X5_in rfl rfl rfl (by decide +kernel) ⟨Nat.le_of_ble_eq_true rfl, Nat.le_of_ble_eq_true rfl⟩) ⟨pr_blind, pr_at hN hPc hK hDc⟩ rfl rfl hl.1 rfl (lv_room (Nat.le_of_ble_eq_true rfl)) dX5_noted_8 ⟨Nat.le_of_ble_eq_true rfl, Nat.le_of_ble_eq_true rfl⟩) hP hD hS hA [] rfl (fun H locs hP hD hS => ?_)
    clear hPc hDc
    refine lv_if_eq (tgt := 18) hx hb dX5_noted_11 (by decide) (fun c_2 => ?_) (fun c_2 => ?_)
    · have c_2 := bI_eq.mp c_2
      refine lv_iconst (v := 1) hx hb dX5_noted_18 (by decide) ?_
      have hPc : va_P D vwCl (wMo k h th f asd sl kp sv sm tx ln dg) H := hP.sub [0, 1, 2, 3, 4, 5, 6] rfl
      have hDc : va_D A (wMo k h th f asd sl kp sv sm tx ln dg) := hD.sub [0, 1, 2, 3, 4, 5, 6] (by decide +kernel) rfl
      refine cl_i (va_runV (As := [.int 1]) (rest := []) ⟨hx, hb, hml, hown, hts⟩ (c_X5_holds l D k h th f asd sl kp sv sm tx ln dg 1 H.size) (cwV 1 hts gX5_noted_X5_holds rfl rfl rfl (by decide +kernel) ⟨Nat.le_of_ble_eq_true rfl, Nat.le_of_ble_eq_true rfl⟩) ⟨pr_blind, va_recv hK hP (ci := 5) (q0 := 0) rfl rfl, pr_at hN hPc hK hDc⟩ rfl rfl hl.1 rfl (lv_room (Nat.le_of_ble_eq_true rfl)) dX5_noted_19 ⟨Nat.le_of_ble_eq_true rfl, Nat.le_of_ble_eq_true rfl⟩) hP hD hS hA [0, 1, 2, 3, 4, 5, 6] [] ([]) [h 0, h 1, h 2, h 3, h 4, h 5, h 6] 7 rfl (wn := wMo k h 1 f asd sl kp sv sm tx ln dg) rfl rfl rfl rfl (by decide +kernel) rfl rfl (fun H locs hP hD hS => ?_)
      clear hPc hDc
      refine tp_e (y := 0) (by decide) ?_
      refine lv_if_eq (tgt := 34) hx hb dX5_noted_22 (by decide) (fun c_3 => ?_) (fun c_3 => ?_)
      · refine lv_iconst (v := 0) hx hb dX5_noted_34 (by decide) ?_
        subst hQ
        exact rt_i hx hb hr hlocks hS dX5_noted_35 (hP) (rfl)
      · exact absurd c_3 (by decide)
    · have c_2 := bI_ne.mp c_2
      exact absurd c_2 (by rw [h2]; decide)
