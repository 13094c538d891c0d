set_option maxHeartbeats 1000000 in
set_option maxRecDepth 100000 in
theorem c_X5_property_0 (l : Launch) (D : va_G) (k : Nat → ClassId) (h : Nat → Nat) (th : Int32) (f asd sl kp sv : Nat → Int32) (sm : Int32) (tx : Nat → Int32) (ln : Int32) (dg : Int64) (q : Nat) (hq : q < 9) : MI l yX5_property wsX5_property ({ frames := 0, cells := 0, slots := 0, locals := 0 }) D k [.ref (h 0), .int (nI q), .int 0] (wMo k h th f asd sl kp sv sm tx ln dg) (f (0 + q)) (wMo k h th f asd sl kp sv sm tx ln dg) := by
  intro sz
  refine Met.ofW (cc := cX5_property) (maxL := 3) (ret := (some .int)) (by decide) rfl ?_
  intro p e s m args below meth c s₁ B hml hv
  obtain ⟨rfl, hN, hsz, hP, hK, hD0⟩ := hv
  have hx := B.exec
  have hb := B.bytes
  have hr := B.returns
  have hts := atoms_spec (ws := wsX5_property) B.pre
  have hown : s.vm.findClass RX5 = some m.cls := findClass_of_methodNamed B.named
  have hlocks := B.notSynchronized
  subst hsz
  have hD := hD0.self (sz := s.heap.size)
  generalize hAe : va_A (wMo k h th f asd sl kp sv sm tx ln dg) s.heap.size = A at hD ⊢
  have hA : ∀ q : Nat, s.heap.size ≤ q → A q := fun q h => by rw [← hAe]; exact Or.inr h
  have hS : va_S A s.heap s.heap [] := va_S.rf
  have hl := lv_entry ([.ref (h 0), .int (nI q), .int 0]) (n := 3) (Nat.le_of_ble_eq_true rfl)
  rw [lg_entry_eq]
  generalize (lg_sl ([.ref (h 0), .int (nI q), .int 0]) ++ List.replicate (3 - (lg_sl ([.ref (h 0), .int (nI q), .int 0])).length) Slot.unset).toArray = ls at hl ⊢
  have hl : lv_has ls 3 [(0, .ref (h 0)), (1, .int (nI q)), (2, .int 0)] := hl
  obtain ⟨H, hHe⟩ : ∃ H, H = s.heap := ⟨_, rfl⟩
  have hP : va_P D vwCl (wMo k h th f asd sl kp sv sm tx ln dg) H := by rw [hHe]; exact hP
  have hS : va_S A s.heap H [] := by rw [hHe]; exact hS
  rw [← hHe]
  refine absQ (fun Q hQ => ?_)
  refine lv_iload_n hx hb dX5_property_0 rfl (lv_at hl 2 rfl) ?_
  refine lv_tableIn (off := 43) (tgt := 44) hx hb dX5_property_1 (by decide) (by decide) rfl (by decide) ?_
  refine lv_aload_n hx hb dX5_property_44 rfl (lv_at hl 0 rfl) ?_
  refine va_get (D := D) (ci := 5) (v := .ref (h 1)) (C := RX5) (T := TX5) (N := 10) hx hb hts (fun _ h9 => (List.mem_cons_of_mem _ (List.mem_append_right _ h9))) hown hK hP 0 rfl rfl 1 (by decide) (hts _ (List.mem_of_getElem? (i := 1) rfl)) (fun _ h9 => h9) rfl dX5_property_45 ?_
  refine lv_bipush (v := 9) hx hb dX5_property_48 (by decide) ?_
  refine lv_iload_n hx hb dX5_property_50 rfl (lv_at hl 2 rfl) ?_
  refine lv_imul hx hb dX5_property_51 ?_
  refine tp_e (y := 0) (by decide) ?_
  refine lv_iload_n hx hb dX5_property_52 rfl (lv_at hl 1 rfl) ?_
  refine lv_iadd hx hb dX5_property_53 ?_
  refine tp_e (y := (nI (0 + q))) (nI_add 0 q) ?_
  refine ar_ld hx hb hK hP 1 rfl (0 + q) (nI_clamp (by omega)) (vp_in_nI (by omega) (by omega)) dX5_property_54 ?_
  subst hQ
  exact rt_i hx hb hr hlocks hS dX5_property_55 (hP) (rfl)

set_option maxHeartbeats 1000000 in
set_option maxRecDepth 100000 in
theorem c_X5_property_1 (l : Launch) (D : va_G) (k : Nat → ClassId) (h : Nat → Nat) (th : Int32) (f asd sl kp sv : Nat → Int32) (sm : Int32) (tx : Nat → Int32) (ln : Int32) (dg : Int64) (q : Nat) (hq : q < 9) : MI l yX5_property wsX5_property ({ frames := 0, cells := 0, slots := 0, locals := 0 }) D k [.ref (h 0), .int (nI q), .int 1] (wMo k h th f asd sl kp sv sm tx ln dg) (f (9 + q)) (wMo k h th f asd sl kp sv sm tx ln dg) := by
  intro sz
  refine Met.ofW (cc := cX5_property) (maxL := 3) (ret := (some .int)) (by decide) rfl ?_
  intro p e s m args below meth c s₁ B hml hv
  obtain ⟨rfl, hN, hsz, hP, hK, hD0⟩ := hv
  have hx := B.exec
  have hb := B.bytes
  have hr := B.returns
  have hts := atoms_spec (ws := wsX5_property) B.pre
  have hown : s.vm.findClass RX5 = some m.cls := findClass_of_methodNamed B.named
  have hlocks := B.notSynchronized
  subst hsz
  have hD := hD0.self (sz := s.heap.size)
  generalize hAe : va_A (wMo k h th f asd sl kp sv sm tx ln dg) s.heap.size = A at hD ⊢
  have hA : ∀ q : Nat, s.heap.size ≤ q → A q := fun q h => by rw [← hAe]; exact Or.inr h
  have hS : va_S A s.heap s.heap [] := va_S.rf
  have hl := lv_entry ([.ref (h 0), .int (nI q), .int 1]) (n := 3) (Nat.le_of_ble_eq_true rfl)
  rw [lg_entry_eq]
  generalize (lg_sl ([.ref (h 0), .int (nI q), .int 1]) ++ List.replicate (3 - (lg_sl ([.ref (h 0), .int (nI q), .int 1])).length) Slot.unset).toArray = ls at hl ⊢
  have hl : lv_has ls 3 [(0, .ref (h 0)), (1, .int (nI q)), (2, .int 1)] := hl
  obtain ⟨H, hHe⟩ : ∃ H, H = s.heap := ⟨_, rfl⟩
  have hP : va_P D vwCl (wMo k h th f asd sl kp sv sm tx ln dg) H := by rw [hHe]; exact hP
  have hS : va_S A s.heap H [] := by rw [hHe]; exact hS
  rw [← hHe]
  refine absQ (fun Q hQ => ?_)
  refine lv_iload_n hx hb dX5_property_0 rfl (lv_at hl 2 rfl) ?_
  refine lv_tableIn (off := 43) (tgt := 44) hx hb dX5_property_1 (by decide) (by decide) rfl (by decide) ?_
  refine lv_aload_n hx hb dX5_property_44 rfl (lv_at hl 0 rfl) ?_
  refine va_get (D := D) (ci := 5) (v := .ref (h 1)) (C := RX5) (T := TX5) (N := 10) hx hb hts (fun _ h9 => (List.mem_cons_of_mem _ (List.mem_append_right _ h9))) hown hK hP 0 rfl rfl 1 (by decide) (hts _ (List.mem_of_getElem? (i := 1) rfl)) (fun _ h9 => h9) rfl dX5_property_45 ?_
  refine lv_bipush (v := 9) hx hb dX5_property_48 (by decide) ?_
  refine lv_iload_n hx hb dX5_property_50 rfl (lv_at hl 2 rfl) ?_
  refine lv_imul hx hb dX5_property_51 ?_
  refine tp_e (y := 9) (by decide) ?_
  refine lv_iload_n hx hb dX5_property_52 rfl (lv_at hl 1 rfl) ?_
  refine lv_iadd hx hb dX5_property_53 ?_
  refine tp_e (y := (nI (9 + q))) (nI_add 9 q) ?_
  refine ar_ld hx hb hK hP 1 rfl (9 + q) (nI_clamp (by omega)) (vp_in_nI (by omega) (by omega)) dX5_property_54 ?_
  subst hQ
  exact rt_i hx hb hr hlocks hS dX5_property_55 (hP) (rfl)

set_option maxHeartbeats 1000000 in
set_option maxRecDepth 100000 in
theorem c_X5_property_2 (l : Launch) (D : va_G) (k : Nat → ClassId) (h : Nat → Nat) (th : Int32) (f asd sl kp sv : Nat → Int32) (sm : Int32) (tx : Nat → Int32) (ln : Int32) (dg : Int64) (q : Nat) (hq : q < 9) : MI l yX5_property wsX5_property ({ frames := 0, cells := 0, slots := 0, locals := 0 }) D k [.ref (h 0), .int (nI q), .int 2] (wMo k h th f asd sl kp sv sm tx ln dg) (f (18 + q)) (wMo k h th f asd sl kp sv sm tx ln dg) := by
  intro sz
  refine Met.ofW (cc := cX5_property) (maxL := 3) (ret := (some .int)) (by decide) rfl ?_
  intro p e s m args below meth c s₁ B hml hv
  obtain ⟨rfl, hN, hsz, hP, hK, hD0⟩ := hv
  have hx := B.exec
  have hb := B.bytes
  have hr := B.returns
  have hts := atoms_spec (ws := wsX5_property) B.pre
  have hown : s.vm.findClass RX5 = some m.cls := findClass_of_methodNamed B.named
  have hlocks := B.notSynchronized
  subst hsz
  have hD := hD0.self (sz := s.heap.size)
  generalize hAe : va_A (wMo k h th f asd sl kp sv sm tx ln dg) s.heap.size = A at hD ⊢
  have hA : ∀ q : Nat, s.heap.size ≤ q → A q := fun q h => by rw [← hAe]; exact Or.inr h
  have hS : va_S A s.heap s.heap [] := va_S.rf
  have hl := lv_entry ([.ref (h 0), .int (nI q), .int 2]) (n := 3) (Nat.le_of_ble_eq_true rfl)
  rw [lg_entry_eq]
  generalize (lg_sl ([.ref (h 0), .int (nI q), .int 2]) ++ List.replicate (3 - (lg_sl ([.ref (h 0), .int (nI q), .int 2])).length) Slot.unset).toArray = ls at hl ⊢
  have hl : lv_has ls 3 [(0, .ref (h 0)), (1, .int (nI q)), (2, .int 2)] := hl
  obtain ⟨H, hHe⟩ : ∃ H, H = s.heap := ⟨_, rfl⟩
  have hP : va_P D vwCl (wMo k h th f asd sl kp sv sm tx ln dg) H := by rw [hHe]; exact hP
  have hS : va_S A s.heap H [] := by rw [hHe]; exact hS
  rw [← hHe]
  refine absQ (fun Q hQ => ?_)
  refine lv_iload_n hx hb dX5_property_0 rfl (lv_at hl 2 rfl) ?_
  refine lv_tableIn (off := 43) (tgt := 44) hx hb dX5_property_1 (by decide) (by decide) rfl (by decide) ?_
  refine lv_aload_n hx hb dX5_property_44 rfl (lv_at hl 0 rfl) ?_
  refine va_get (D := D) (ci := 5) (v := .ref (h 1)) (C := RX5) (T := TX5) (N := 10) hx hb hts (fun _ h9 => (List.mem_cons_of_mem _ (List.mem_append_right _ h9))) hown hK hP 0 rfl rfl 1 (by decide) (hts _ (List.mem_of_getElem? (i := 1) rfl)) (fun _ h9 => h9) rfl dX5_property_45 ?_
  refine lv_bipush (v := 9) hx hb dX5_property_48 (by decide) ?_
  refine lv_iload_n hx hb dX5_property_50 rfl (lv_at hl 2 rfl) ?_
  refine lv_imul hx hb dX5_property_51 ?_
  refine tp_e (y := 18) (by decide) ?_
  refine lv_iload_n hx hb dX5_property_52 rfl (lv_at hl 1 rfl) ?_
  refine lv_iadd hx hb dX5_property_53 ?_
  refine tp_e (y := (nI (18 + q))) (nI_add 18 q) ?_
  refine ar_ld hx hb hK hP 1 rfl (18 + q) (nI_clamp (by omega)) (vp_in_nI (by omega) (by omega)) dX5_property_54 ?_
  subst hQ
  exact rt_i hx hb hr hlocks hS dX5_property_55 (hP) (rfl)

set_option maxHeartbeats 1000000 in
set_option maxRecDepth 100000 in
theorem c_X5_property_3 (l : Launch) (D : va_G) (k : Nat → ClassId) (h : Nat → Nat) (th : Int32) (f asd sl kp sv : Nat → Int32) (sm : Int32) (tx : Nat → Int32) (ln : Int32) (dg : Int64) (q : Nat) (hq : q < 9) : MI l yX5_property wsX5_property ({ frames := 1, cells := 0, slots := 0, locals := 23 }) D k [.ref (h 0), .int (nI q), .int 3] (wMo k h th f asd sl kp sv sm tx ln dg) (jtM f (nI q) 9) (wMo k h th f asd sl kp sv sm tx ln dg) := by
  intro sz
  refine Met.ofW (cc := cX5_property) (maxL := 3) (ret := (some .int)) (by decide) rfl ?_
  intro p e s m args below meth c s₁ B hml hv
  obtain ⟨rfl, hN, hsz, hP, hK, hD0⟩ := hv
  have hx := B.exec
  have hb := B.bytes
  have hr := B.returns
  have hts := atoms_spec (ws := wsX5_property) B.pre
  have hown : s.vm.findClass RX5 = some m.cls := findClass_of_methodNamed B.named
  have hlocks := B.notSynchronized
  subst hsz
  have hD := hD0.self (sz := s.heap.size)
  generalize hAe : va_A (wMo k h th f asd sl kp sv sm tx ln dg) s.heap.size = A at hD ⊢
  have hA : ∀ q : Nat, s.heap.size ≤ q → A q := fun q h => by rw [← hAe]; exact Or.inr h
  have hS : va_S A s.heap s.heap [] := va_S.rf
  have hl := lv_entry ([.ref (h 0), .int (nI q), .int 3]) (n := 3) (Nat.le_of_ble_eq_true rfl)
  rw [lg_entry_eq]
  generalize (lg_sl ([.ref (h 0), .int (nI q), .int 3]) ++ List.replicate (3 - (lg_sl ([.ref (h 0), .int (nI q), .int 3])).length) Slot.unset).toArray = ls at hl ⊢
  have hl : lv_has ls 3 [(0, .ref (h 0)), (1, .int (nI q)), (2, .int 3)] := hl
  obtain ⟨H, hHe⟩ : ∃ H, H = s.heap := ⟨_, rfl⟩
  have hP : va_P D vwCl (wMo k h th f asd sl kp sv sm tx ln dg) H := by rw [hHe]; exact hP
  have hS : va_S A s.heap H [] := by rw [hHe]; exact hS
  rw [← hHe]
  refine absQ (fun Q hQ => ?_)
  refine lv_iload_n hx hb dX5_property_0 rfl (lv_at hl 2 rfl) ?_
  refine lv_tableIn (off := 55) (tgt := 56) hx hb dX5_property_1 (by decide) (by decide) rfl (by decide) ?_
  refine lv_aload_n hx hb dX5_property_56 rfl (lv_at hl 0 rfl) ?_
  refine lv_iload_n hx hb dX5_property_57 rfl (lv_at hl 1 rfl) ?_
  have hPc : va_P D vwCl (wMo k h th f asd sl kp sv sm tx ln dg) H := hP.sub [0, 1, 2, 3, 4, 5, 6] rfl
  have hDc : va_D A (wMo k h th f asd sl kp sv sm tx ln dg) := hD.sub [0, 1, 2, 3, 4, 5, 6] (by decide +kernel) rfl
  refine cl_i0 (va_runV (As := [.int (nI q)]) (rest := []) ⟨hx, hb, hml, hown, hts⟩ (c_X5_joinsTo l D k h th f asd sl kp sv sm tx ln dg (nI q) H.size) (cwV 1 hts gX5_property_X5_joinsTo rfl rfl rfl (by decide +kernel) ⟨Nat.le_of_ble_eq_true rfl, Nat.le_of_ble_eq_true rfl⟩) ⟨pr_blind, va_recv hK hP (ci := 5) (q0 := 0) rfl rfl, pr_at hN hPc hK hDc⟩ rfl rfl hl.1 rfl (lv_room (Nat.le_of_ble_eq_true rfl)) dX5_property_58 ⟨Nat.le_of_ble_eq_true rfl, Nat.le_of_ble_eq_true rfl⟩) hP hD hS hA [0, 1, 2, 3, 4, 5, 6] rfl (fun H locs hP hD hS => ?_)
  clear hPc hDc
  subst hQ
  exact rt_i hx hb hr hlocks hS dX5_property_61 (hP) (rfl)

set_option maxHeartbeats 1000000 in
set_option maxRecDepth 100000 in
theorem c_X5_property_4 (l : Launch) (D : va_G) (k : Nat → ClassId) (h : Nat → Nat) (th : Int32) (f asd sl kp sv : Nat → Int32) (sm : Int32) (tx : Nat → Int32) (ln : Int32) (dg : Int64) (q : Nat) (hq : q < 9) : MI l yX5_property wsX5_property ({ frames := 1, cells := 0, slots := 0, locals := 22 }) D k [.ref (h 0), .int (nI q), .int 4] (wMo k h th f asd sl kp sv sm tx ln dg) (mnF (f (27 + q)) 9) (wMo k h th f asd sl kp sv sm tx ln dg) := by
  intro sz
  refine Met.ofW (cc := cX5_property) (maxL := 3) (ret := (some .int)) (by decide) rfl ?_
  intro p e s m args below meth c s₁ B hml hv
  obtain ⟨rfl, hN, hsz, hP, hK, hD0⟩ := hv
  have hx := B.exec
  have hb := B.bytes
  have hr := B.returns
  have hts := atoms_spec (ws := wsX5_property) B.pre
  have hown : s.vm.findClass RX5 = some m.cls := findClass_of_methodNamed B.named
  have hlocks := B.notSynchronized
  subst hsz
  have hD := hD0.self (sz := s.heap.size)
  generalize hAe : va_A (wMo k h th f asd sl kp sv sm tx ln dg) s.heap.size = A at hD ⊢
  have hA : ∀ q : Nat, s.heap.size ≤ q → A q := fun q h => by rw [← hAe]; exact Or.inr h
  have hS : va_S A s.heap s.heap [] := va_S.rf
  have hl := lv_entry ([.ref (h 0), .int (nI q), .int 4]) (n := 3) (Nat.le_of_ble_eq_true rfl)
  rw [lg_entry_eq]
  generalize (lg_sl ([.ref (h 0), .int (nI q), .int 4]) ++ List.replicate (3 - (lg_sl ([.ref (h 0), .int (nI q), .int 4])).length) Slot.unset).toArray = ls at hl ⊢
  have hl : lv_has ls 3 [(0, .ref (h 0)), (1, .int (nI q)), (2, .int 4)] := hl
  obtain ⟨H, hHe⟩ : ∃ H, H = s.heap := ⟨_, rfl⟩
  have hP : va_P D vwCl (wMo k h th f asd sl kp sv sm tx ln dg) H := by rw [hHe]; exact hP
  have hS : va_S A s.heap H [] := by rw [hHe]; exact hS
  rw [← hHe]
  refine absQ (fun Q hQ => ?_)
  refine lv_iload_n hx hb dX5_property_0 rfl (lv_at hl 2 rfl) ?_
  refine lv_tableIn (off := 61) (tgt := 62) hx hb dX5_property_1 (by decide) (by decide) rfl (by decide) ?_
  refine lv_aload_n hx hb dX5_property_62 rfl (lv_at hl 0 rfl) ?_
  refine va_get (D := D) (ci := 5) (v := .ref (h 1)) (C := RX5) (T := TX5) (N := 10) hx hb hts (fun _ h9 => (List.mem_cons_of_mem _ (List.mem_append_right _ h9))) hown hK hP 0 rfl rfl 1 (by decide) (hts _ (List.mem_of_getElem? (i := 1) rfl)) (fun _ h9 => h9) rfl dX5_property_63 ?_
  refine lv_bipush (v := 27) hx hb dX5_property_66 (by decide) ?_
  refine lv_iload_n hx hb dX5_property_68 rfl (lv_at hl 1 rfl) ?_
  refine lv_iadd hx hb dX5_property_69 ?_
  refine tp_e (y := (nI (27 + q))) (nI_add 27 q) ?_
  refine ar_ld hx hb hK hP 1 rfl (27 + q) (nI_clamp (by omega)) (vp_in_nI (by omega) (by omega)) dX5_property_70 ?_
  have hPc : va_P D vwCl ([]) H := hP.sub [] rfl
  have hDc : va_D A ([]) := hD.sub [] (by decide +kernel) rfl
  refine cl_i0 (va_runS (As := [.int (f (27 + q))]) (rest := []) ⟨hx, hb, hml, hown, hts⟩ (c_X5_many l D k (f (27 + q)) H.size) (va_cwS 1 hts gX5_property_X5_many rfl rfl rfl (by decide +kernel) ⟨Nat.le_of_ble_eq_true rfl, Nat.le_of_ble_eq_true rfl⟩) ⟨pr_blind, pr_at hN hPc hK hDc⟩ rfl rfl hl.1 rfl (lv_room (Nat.le_of_ble_eq_true rfl)) dX5_property_71 ⟨Nat.le_of_ble_eq_true rfl, Nat.le_of_ble_eq_true rfl⟩) hP hD hS hA [] rfl (fun H locs hP hD hS => ?_)
  clear hPc hDc
  subst hQ
  exact rt_i hx hb hr hlocks hS dX5_property_74 (hP) (rfl)

set_option maxHeartbeats 1000000 in
set_option maxRecDepth 100000 in
theorem c_X5_property_5 (l : Launch) (D : va_G) (k : Nat → ClassId) (h : Nat → Nat) (th : Int32) (f asd sl kp sv : Nat → Int32) (sm : Int32) (tx : Nat → Int32) (ln : Int32) (dg : Int64) (q : Nat) (hq : q < 9) : MI l yX5_property wsX5_property ({ frames := 1, cells := 0, slots := 0, locals := 23 }) D k [.ref (h 0), .int (nI q), .int 5] (wMo k h th f asd sl kp sv sm tx ln dg) (mnF (bmF f q (9 - (q + 1))) 9) (wMo k h th f asd sl kp sv sm tx ln dg) := by
  intro sz
  refine Met.ofW (cc := cX5_property) (maxL := 3) (ret := (some .int)) (by decide) rfl ?_
  intro p e s m args below meth c s₁ B hml hv
  obtain ⟨rfl, hN, hsz, hP, hK, hD0⟩ := hv
  have hx := B.exec
  have hb := B.bytes
  have hr := B.returns
  have hts := atoms_spec (ws := wsX5_property) B.pre
  have hown : s.vm.findClass RX5 = some m.cls := findClass_of_methodNamed B.named
  have hlocks := B.notSynchronized
  subst hsz
  have hD := hD0.self (sz := s.heap.size)
  generalize hAe : va_A (wMo k h th f asd sl kp sv sm tx ln dg) s.heap.size = A at hD ⊢
  have hA : ∀ q : Nat, s.heap.size ≤ q → A q := fun q h => by rw [← hAe]; exact Or.inr h
  have hS : va_S A s.heap s.heap [] := va_S.rf
  have hl := lv_entry ([.ref (h 0), .int (nI q), .int 5]) (n := 3) (Nat.le_of_ble_eq_true rfl)
  rw [lg_entry_eq]
  generalize (lg_sl ([.ref (h 0), .int (nI q), .int 5]) ++ List.replicate (3 - (lg_sl ([.ref (h 0), .int (nI q), .int 5])).length) Slot.unset).toArray = ls at hl ⊢
  have hl : lv_has ls 3 [(0, .ref (h 0)), (1, .int (nI q)), (2, .int 5)] := hl
  obtain ⟨H, hHe⟩ : ∃ H, H = s.heap := ⟨_, rfl⟩
  have hP : va_P D vwCl (wMo k h th f asd sl kp sv sm tx ln dg) H := by rw [hHe]; exact hP
  have hS : va_S A s.heap H [] := by rw [hHe]; exact hS
  rw [← hHe]
  refine absQ (fun Q hQ => ?_)
  refine lv_iload_n hx hb dX5_property_0 rfl (lv_at hl 2 rfl) ?_
  refine lv_tableIn (off := 74) (tgt := 75) hx hb dX5_property_1 (by decide) (by decide) rfl (by decide) ?_
  refine lv_aload_n hx hb dX5_property_75 rfl (lv_at hl 0 rfl) ?_
  refine lv_iload_n hx hb dX5_property_76 rfl (lv_at hl 1 rfl) ?_
  have hPc : va_P D vwCl (wMo k h th f asd sl kp sv sm tx ln dg) H := hP.sub [0, 1, 2, 3, 4, 5, 6] rfl
  have hDc : va_D A (wMo k h th f asd sl kp sv sm tx ln dg) := hD.sub [0, 1, 2, 3, 4, 5, 6] (by decide +kernel) rfl
  refine cl_i0 (va_runV (As := [.int (nI q)]) (rest := []) ⟨hx, hb, hml, hown, hts⟩ (c_X5_behind l D k h th f asd sl kp sv sm tx ln dg q (by omega) H.size) (cwV 1 hts gX5_property_X5_behind rfl rfl rfl (by decide +kernel) ⟨Nat.le_of_ble_eq_true rfl, Nat.le_of_ble_eq_true rfl⟩) ⟨pr_blind, va_recv hK hP (ci := 5) (q0 := 0) rfl rfl, pr_at hN hPc hK hDc⟩ rfl rfl hl.1 rfl (lv_room (Nat.le_of_ble_eq_true rfl)) dX5_property_77 ⟨Nat.le_of_ble_eq_true rfl, Nat.le_of_ble_eq_true rfl⟩) hP hD hS hA [0, 1, 2, 3, 4, 5, 6] rfl (fun H locs hP hD hS => ?_)
  clear hPc hDc
  have hPc : va_P D vwCl ([]) H := hP.sub [] rfl
  have hDc : va_D A ([]) := hD.sub [] (by decide +kernel) rfl
  refine cl_i0 (va_runS (As := [.int (bmF f q (9 - (q + 1)))]) (rest := []) ⟨hx, hb, hml, hown, hts⟩ (c_X5_many l D k (bmF f q (9 - (q + 1))) H.size) (va_cwS 1 hts gX5_property_X5_many rfl rfl rfl (by decide +kernel) ⟨Nat.le_of_ble_eq_true rfl, Nat.le_of_ble_eq_true rfl⟩) ⟨pr_blind, pr_at hN hPc hK hDc⟩ rfl rfl hl.1 rfl (lv_room (Nat.le_of_ble_eq_true rfl)) dX5_property_80 ⟨Nat.le_of_ble_eq_true rfl, Nat.le_of_ble_eq_true rfl⟩) hP hD hS hA [] rfl (fun H locs hP hD hS => ?_)
  clear hPc hDc
  subst hQ
  exact rt_i hx hb hr hlocks hS dX5_property_83 (hP) (rfl)

set_option maxHeartbeats 1000000 in
set_option maxRecDepth 100000 in
theorem c_X5_property_6 (l : Launch) (D : va_G) (k : Nat → ClassId) (h : Nat → Nat) (th : Int32) (f asd sl kp sv : Nat → Int32) (sm : Int32) (tx : Nat → Int32) (ln : Int32) (dg : Int64) (q : Nat) (hq : q < 9) : MI l yX5_property wsX5_property ({ frames := 3, cells := 0, slots := 0, locals := 71 }) D k [.ref (h 0), .int (nI q), .int 6] (wMo k h th f asd sl kp sv sm tx ln dg) (wyF f (1 <<< (nI q &&& 31)) false 511) (wMo k h th f asd sl kp sv sm tx ln dg) := by
  intro sz
  refine Met.ofW (cc := cX5_property) (maxL := 3) (ret := (some .int)) (by decide) rfl ?_
  intro p e s m args below meth c s₁ B hml hv
  obtain ⟨rfl, hN, hsz, hP, hK, hD0⟩ := hv
  have hx := B.exec
  have hb := B.bytes
  have hr := B.returns
  have hts := atoms_spec (ws := wsX5_property) B.pre
  have hown : s.vm.findClass RX5 = some m.cls := findClass_of_methodNamed B.named
  have hlocks := B.notSynchronized
  subst hsz
  have hD := hD0.self (sz := s.heap.size)
  generalize hAe : va_A (wMo k h th f asd sl kp sv sm tx ln dg) s.heap.size = A at hD ⊢
  have hA : ∀ q : Nat, s.heap.size ≤ q → A q := fun q h => by rw [← hAe]; exact Or.inr h
  have hS : va_S A s.heap s.heap [] := va_S.rf
  have hl := lv_entry ([.ref (h 0), .int (nI q), .int 6]) (n := 3) (Nat.le_of_ble_eq_true rfl)
  rw [lg_entry_eq]
  generalize (lg_sl ([.ref (h 0), .int (nI q), .int 6]) ++ List.replicate (3 - (lg_sl ([.ref (h 0), .int (nI q), .int 6])).length) Slot.unset).toArray = ls at hl ⊢
  have hl : lv_has ls 3 [(0, .ref (h 0)), (1, .int (nI q)), (2, .int 6)] := hl
  obtain ⟨H, hHe⟩ : ∃ H, H = s.heap := ⟨_, rfl⟩
  have hP : va_P D vwCl (wMo k h th f asd sl kp sv sm tx ln dg) H := by rw [hHe]; exact hP
  have hS : va_S A s.heap H [] := by rw [hHe]; exact hS
  rw [← hHe]
  refine absQ (fun Q hQ => ?_)
  refine lv_iload_n hx hb dX5_property_0 rfl (lv_at hl 2 rfl) ?_
  refine lv_tableIn (off := 83) (tgt := 84) hx hb dX5_property_1 (by decide) (by decide) rfl (by decide) ?_
  refine lv_aload_n hx hb dX5_property_84 rfl (lv_at hl 0 rfl) ?_
  refine lv_iconst (v := 1) hx hb dX5_property_85 (by decide) ?_
  refine lv_iload_n hx hb dX5_property_86 rfl (lv_at hl 1 rfl) ?_
  refine lv_ishl hx hb dX5_property_87 ?_
  refine lv_iconst (v := 0) hx hb dX5_property_88 (by decide) ?_
  have hPc : va_P D vwCl (wMo k h th f asd sl kp sv sm tx ln dg) H := hP.sub [0, 1, 2, 3, 4, 5, 6] rfl
  have hDc : va_D A (wMo k h th f asd sl kp sv sm tx ln dg) := hD.sub [0, 1, 2, 3, 4, 5, 6] (by decide +kernel) rfl
  refine cl_i0 (va_runV (As := [.int (1 <<< ((nI q) &&& 31)), .int 0]) (rest := []) ⟨hx, hb, hml, hown, hts⟩ (c_X5_ways l D k h th f asd sl kp sv sm tx ln dg (1 <<< ((nI q) &&& 31)) false H.size) (cwV 2 hts gX5_property_X5_ways rfl rfl rfl (by decide +kernel) ⟨Nat.le_of_ble_eq_true rfl, Nat.le_of_ble_eq_true rfl⟩) ⟨pr_blind, va_recv hK hP (ci := 5) (q0 := 0) rfl rfl, pr_at hN hPc hK hDc⟩ rfl rfl hl.1 rfl (lv_room (Nat.le_of_ble_eq_true rfl)) dX5_property_89 ⟨Nat.le_of_ble_eq_true rfl, Nat.le_of_ble_eq_true rfl⟩) hP hD hS hA [0, 1, 2, 3, 4, 5, 6] rfl (fun H locs hP hD hS => ?_)
  clear hPc hDc
  subst hQ
  exact rt_i hx hb hr hlocks hS dX5_property_92 (hP) (rfl)

set_option maxHeartbeats 1000000 in
set_option maxRecDepth 100000 in
theorem c_X5_property_7 (l : Launch) (D : va_G) (k : Nat → ClassId) (h : Nat → Nat) (th : Int32) (f asd sl kp sv : Nat → Int32) (sm : Int32) (tx : Nat → Int32) (ln : Int32) (dg : Int64) (q : Nat) (hq : q < 9) : MI l yX5_property wsX5_property ({ frames := 0, cells := 0, slots := 0, locals := 0 }) D k [.ref (h 0), .int (nI q), .int 7] (wMo k h th f asd sl kp sv sm tx ln dg) (f (36 + q)) (wMo k h th f asd sl kp sv sm tx ln dg) := by
  intro sz
  refine Met.ofW (cc := cX5_property) (maxL := 3) (ret := (some .int)) (by decide) rfl ?_
  intro p e s m args below meth c s₁ B hml hv
  obtain ⟨rfl, hN, hsz, hP, hK, hD0⟩ := hv
  have hx := B.exec
  have hb := B.bytes
  have hr := B.returns
  have hts := atoms_spec (ws := wsX5_property) B.pre
  have hown : s.vm.findClass RX5 = some m.cls := findClass_of_methodNamed B.named
  have hlocks := B.notSynchronized
  subst hsz
  have hD := hD0.self (sz := s.heap.size)
  generalize hAe : va_A (wMo k h th f asd sl kp sv sm tx ln dg) s.heap.size = A at hD ⊢
  have hA : ∀ q : Nat, s.heap.size ≤ q → A q := fun q h => by rw [← hAe]; exact Or.inr h
  have hS : va_S A s.heap s.heap [] := va_S.rf
  have hl := lv_entry ([.ref (h 0), .int (nI q), .int 7]) (n := 3) (Nat.le_of_ble_eq_true rfl)
  rw [lg_entry_eq]
  generalize (lg_sl ([.ref (h 0), .int (nI q), .int 7]) ++ List.replicate (3 - (lg_sl ([.ref (h 0), .int (nI q), .int 7])).length) Slot.unset).toArray = ls at hl ⊢
  have hl : lv_has ls 3 [(0, .ref (h 0)), (1, .int (nI q)), (2, .int 7)] := hl
  obtain ⟨H, hHe⟩ : ∃ H, H = s.heap := ⟨_, rfl⟩
  have hP : va_P D vwCl (wMo k h th f asd sl kp sv sm tx ln dg) H := by rw [hHe]; exact hP
  have hS : va_S A s.heap H [] := by rw [hHe]; exact hS
  rw [← hHe]
  refine absQ (fun Q hQ => ?_)
  refine lv_iload_n hx hb dX5_property_0 rfl (lv_at hl 2 rfl) ?_
  refine lv_tableOut (tgt := 93) hx hb dX5_property_1 (by decide) (by decide) ?_
  refine lv_aload_n hx hb dX5_property_93 rfl (lv_at hl 0 rfl) ?_
  refine va_get (D := D) (ci := 5) (v := .ref (h 1)) (C := RX5) (T := TX5) (N := 10) hx hb hts (fun _ h9 => (List.mem_cons_of_mem _ (List.mem_append_right _ h9))) hown hK hP 0 rfl rfl 1 (by decide) (hts _ (List.mem_of_getElem? (i := 1) rfl)) (fun _ h9 => h9) rfl dX5_property_94 ?_
  refine lv_bipush (v := 36) hx hb dX5_property_97 (by decide) ?_
  refine lv_iload_n hx hb dX5_property_99 rfl (lv_at hl 1 rfl) ?_
  refine lv_iadd hx hb dX5_property_100 ?_
  refine tp_e (y := (nI (36 + q))) (nI_add 36 q) ?_
  refine ar_ld hx hb hK hP 1 rfl (36 + q) (nI_clamp (by omega)) (vp_in_nI (by omega) (by omega)) dX5_property_101 ?_
  subst hQ
  exact rt_i hx hb hr hlocks hS dX5_property_102 (hP) (rfl)

set_option maxHeartbeats 1000000 in
set_option maxRecDepth 100000 in
theorem c_X5_pieceOf_0 (l : Launch) (D : va_G) (k : Nat → ClassId) (h : Nat → Nat) (th : Int32) (f asd sl kp sv : Nat → Int32) (sm : Int32) (tx : Nat → Int32) (ln : Int32) (dg : Int64) (q : Nat) (hq : q < 9) : MI l yX5_pieceOf wsX5_pieceOf ({ frames := 2, cells := 0, slots := 0, locals := 42 }) D k [.ref (h 0), .int (nI q), .int 0] (wMo k h th f asd sl kp sv sm tx ln dg) (f (0 + q)) (wMo k h 0 f asd sl kp sv sm tx ln dg) := by
  intro sz
  refine Met.ofW (cc := cX5_pieceOf) (maxL := 3) (ret := (some .int)) (by decide) rfl ?_
  intro p e s m args below meth c s₁ B hml hv
  obtain ⟨rfl, hN, hsz, hP, hK, hD0⟩ := hv
  have hx := B.exec
  have hb := B.bytes
  have hr := B.returns
  have hts := atoms_spec (ws := wsX5_pieceOf) B.pre
  have hown : s.vm.findClass RX5 = some m.cls := findClass_of_methodNamed B.named
  have hlocks := B.notSynchronized
  subst hsz
  have hD := hD0.self (sz := s.heap.size)
  generalize hAe : va_A (wMo k h th f asd sl kp sv sm tx ln dg) s.heap.size = A at hD ⊢
  have hA : ∀ q : Nat, s.heap.size ≤ q → A q := fun q h => by rw [← hAe]; exact Or.inr h
  have hS : va_S A s.heap s.heap [] := va_S.rf
  have hl := lv_entry ([.ref (h 0), .int (nI q), .int 0]) (n := 3) (Nat.le_of_ble_eq_true rfl)
  rw [lg_entry_eq]
  generalize (lg_sl ([.ref (h 0), .int (nI q), .int 0]) ++ List.replicate (3 - (lg_sl ([.ref (h 0), .int (nI q), .int 0])).length) Slot.unset).toArray = ls at hl ⊢
  have hl : lv_has ls 3 [(0, .ref (h 0)), (1, .int (nI q)), (2, .int 0)] := hl
  obtain ⟨H, hHe⟩ : ∃ H, H = s.heap := ⟨_, rfl⟩
  have hP : va_P D vwCl (wMo k h th f asd sl kp sv sm tx ln dg) H := by rw [hHe]; exact hP
  have hS : va_S A s.heap H [] := by rw [hHe]; exact hS
  rw [← hHe]
  refine absQ (fun Q hQ => ?_)
  refine lv_aload_n hx hb dX5_pieceOf_0 rfl (lv_at hl 0 rfl) ?_
  refine lv_iload_n hx hb dX5_pieceOf_1 rfl (lv_at hl 1 rfl) ?_
  have hPc : va_P D vwCl ([]) H := hP.sub [] rfl
  have hDc : va_D A ([]) := hD.sub [] (by decide +kernel) rfl
  refine cl_i0 (va_runS (As := [.int (nI q)]) (rest := [.ref (h 0)]) ⟨hx, hb, hml, hown, hts⟩ (c_X5_isPiece l D k (nI q) H.size) (va_cwS 1 hts gX5_pieceOf_X5_isPiece rfl rfl rfl (by decide +kernel) ⟨Nat.le_of_ble_eq_true rfl, Nat.le_of_ble_eq_true rfl⟩) ⟨pr_blind, pr_at hN hPc hK hDc⟩ rfl rfl hl.1 rfl (lv_room (Nat.le_of_ble_eq_true rfl)) dX5_pieceOf_2 ⟨Nat.le_of_ble_eq_true rfl, Nat.le_of_ble_eq_true rfl⟩) hP hD hS hA [] rfl (fun H locs hP hD hS => ?_)
  clear hPc hDc
  refine lv_if_ne (tgt := 12) hx hb dX5_pieceOf_5 (by decide) (fun c_1 => ?_) (fun c_1 => ?_)
  · have c_1 := bI_ne.mp c_1
    refine lv_iload_n hx hb dX5_pieceOf_12 rfl (lv_at hl 2 rfl) ?_
    refine lv_iconst (v := 0) hx hb dX5_pieceOf_13 (by decide) ?_
    refine lv_bipush (v := 7) hx hb dX5_pieceOf_14 (by decide) ?_
    have hPc : va_P D vwCl ([]) H := hP.sub [] rfl
    have hDc : va_D A ([]) := hD.sub [] (by decide +kernel) rfl
    refine cl_i0 (va_runS (As := [.int 0, .int 0, .int 7]) (rest := [.ref (h 0)]) ⟨hx, hb, hml, hown, hts⟩ (c_X5_in l D k 0 0 7 H.size) (va_cwS 3 hts gX5_pieceOf_X5_in rfl rfl rfl (by decide +kernel) ⟨Nat.le_of_ble_eq_true rfl, Nat.le_of_ble_eq_true rfl⟩) ⟨pr_blind, pr_at hN hPc hK hDc⟩ rfl rfl hl.1 rfl (lv_room (Nat.le_of_ble_eq_true rfl)) dX5_pieceOf_16 ⟨Nat.le_of_ble_eq_true rfl, Nat.le_of_ble_eq_true rfl⟩) hP hD hS hA [] rfl (fun H locs hP hD hS => ?_)
    clear hPc hDc
    refine lv_if_ne (tgt := 26) hx hb dX5_pieceOf_19 (by decide) (fun c_2 => ?_) (fun c_2 => ?_)
    · have c_2 := bI_ne.mp c_2
      refine lv_iconst (v := 0) hx hb dX5_pieceOf_26 (by decide) ?_
      have hPc : va_P D vwCl (wMo k h th f asd sl kp sv sm tx ln dg) H := hP.sub [0, 1, 2, 3, 4, 5, 6] rfl
      have hDc : va_D A (wMo k h th f asd sl kp sv sm tx ln dg) := hD.sub [0, 1, 2, 3, 4, 5, 6] (by decide +kernel) rfl
      refine cl_i (va_runV (As := [.int 0]) (rest := []) ⟨hx, hb, hml, hown, hts⟩ (c_X5_holds l D k h th f asd sl kp sv sm tx ln dg 0 H.size) (cwV 1 hts gX5_pieceOf_X5_holds rfl rfl rfl (by decide +kernel) ⟨Nat.le_of_ble_eq_true rfl, Nat.le_of_ble_eq_true rfl⟩) ⟨pr_blind, va_recv hK hP (ci := 5) (q0 := 0) rfl rfl, pr_at hN hPc hK hDc⟩ rfl rfl hl.1 rfl (lv_room (Nat.le_of_ble_eq_true rfl)) dX5_pieceOf_27 ⟨Nat.le_of_ble_eq_true rfl, Nat.le_of_ble_eq_true rfl⟩) hP hD hS hA [0, 1, 2, 3, 4, 5, 6] [] ([]) [h 0, h 1, h 2, h 3, h 4, h 5, h 6] 7 rfl (wn := wMo k h 0 f asd sl kp sv sm tx ln dg) rfl rfl rfl rfl (by decide +kernel) rfl rfl (fun H locs hP hD hS => ?_)
      clear hPc hDc
      refine tp_e (y := 1) (by decide) ?_
      refine lv_if_eq (tgt := 42) hx hb dX5_pieceOf_30 (by decide) (fun c_3 => ?_) (fun c_3 => ?_)
      · exact absurd c_3 (by decide)
      · refine lv_aload_n hx hb dX5_pieceOf_33 rfl (lv_at hl 0 rfl) ?_
        refine lv_iload_n hx hb dX5_pieceOf_34 rfl (lv_at hl 1 rfl) ?_
        refine lv_iload_n hx hb dX5_pieceOf_35 rfl (lv_at hl 2 rfl) ?_
        have hPc : va_P D vwCl (wMo k h 0 f asd sl kp sv sm tx ln dg) H := hP.sub [0, 1, 2, 3, 4, 5, 6] rfl
        have hDc : va_D A (wMo k h 0 f asd sl kp sv sm tx ln dg) := hD.sub [0, 1, 2, 3, 4, 5, 6] (by decide +kernel) rfl
        refine cl_i0 (va_runV (As := [.int (nI q), .int 0]) (rest := []) ⟨hx, hb, hml, hown, hts⟩ (c_X5_property_0 l D k h 0 f asd sl kp sv sm tx ln dg q hq H.size) (cwV 2 hts gX5_pieceOf_X5_property rfl rfl rfl (by decide +kernel) ⟨Nat.le_of_ble_eq_true rfl, Nat.le_of_ble_eq_true rfl⟩) ⟨pr_blind, va_recv hK hP (ci := 5) (q0 := 0) rfl rfl, pr_at hN hPc hK hDc⟩ rfl rfl hl.1 rfl (lv_room (Nat.le_of_ble_eq_true rfl)) dX5_pieceOf_36 ⟨Nat.le_of_ble_eq_true rfl, Nat.le_of_ble_eq_true rfl⟩) hP hD hS hA [0, 1, 2, 3, 4, 5, 6] rfl (fun H locs hP hD hS => ?_)
        clear hPc hDc
        refine lv_goto (tgt := 43) hx hb dX5_pieceOf_39 (by decide) ?_
        subst hQ
        exact rt_i hx hb hr hlocks hS dX5_pieceOf_43 (hP) (rfl)
    · have c_2 := bI_eq.mp c_2
      exact absurd c_2 (by rw [(show inB 0 0 7 = true by decide)]; decide)
  · have c_1 := bI_eq.mp c_1
    exact absurd c_1 (by rw [(show inB (nI q) 0 8 = true from inB_n (a := 0) (b := 8) (by omega) (by omega) (by omega))]; decide)

set_option maxHeartbeats 1000000 in
set_option maxRecDepth 100000 in
theorem c_X5_pieceOf_1 (l : Launch) (D : va_G) (k : Nat → ClassId) (h : Nat → Nat) (th : Int32) (f asd sl kp sv : Nat → Int32) (sm : Int32) (tx : Nat → Int32) (ln : Int32) (dg : Int64) (q : Nat) (hq : q < 9) : MI l yX5_pieceOf wsX5_pieceOf ({ frames := 2, cells := 0, slots := 0, locals := 42 }) D k [.ref (h 0), .int (nI q), .int 1] (wMo k h th f asd sl kp sv sm tx ln dg) (f (9 + q)) (wMo k h 0 f asd sl kp sv sm tx ln dg) := by
  intro sz
  refine Met.ofW (cc := cX5_pieceOf) (maxL := 3) (ret := (some .int)) (by decide) rfl ?_
  intro p e s m args below meth c s₁ B hml hv
  obtain ⟨rfl, hN, hsz, hP, hK, hD0⟩ := hv
  have hx := B.exec
  have hb := B.bytes
  have hr := B.returns
  have hts := atoms_spec (ws := wsX5_pieceOf) B.pre
  have hown : s.vm.findClass RX5 = some m.cls := findClass_of_methodNamed B.named
  have hlocks := B.notSynchronized
  subst hsz
  have hD := hD0.self (sz := s.heap.size)
  generalize hAe : va_A (wMo k h th f asd sl kp sv sm tx ln dg) s.heap.size = A at hD ⊢
  have hA : ∀ q : Nat, s.heap.size ≤ q → A q := fun q h => by rw [← hAe]; exact Or.inr h
  have hS : va_S A s.heap s.heap [] := va_S.rf
  have hl := lv_entry ([.ref (h 0), .int (nI q), .int 1]) (n := 3) (Nat.le_of_ble_eq_true rfl)
  rw [lg_entry_eq]
  generalize (lg_sl ([.ref (h 0), .int (nI q), .int 1]) ++ List.replicate (3 - (lg_sl ([.ref (h 0), .int (nI q), .int 1])).length) Slot.unset).toArray = ls at hl ⊢
  have hl : lv_has ls 3 [(0, .ref (h 0)), (1, .int (nI q)), (2, .int 1)] := hl
  obtain ⟨H, hHe⟩ : ∃ H, H = s.heap := ⟨_, rfl⟩
  have hP : va_P D vwCl (wMo k h th f asd sl kp sv sm tx ln dg) H := by rw [hHe]; exact hP
  have hS : va_S A s.heap H [] := by rw [hHe]; exact hS
  rw [← hHe]
  refine absQ (fun Q hQ => ?_)
  refine lv_aload_n hx hb dX5_pieceOf_0 rfl (lv_at hl 0 rfl) ?_
  refine lv_iload_n hx hb dX5_pieceOf_1 rfl (lv_at hl 1 rfl) ?_
  have hPc : va_P D vwCl ([]) H := hP.sub [] rfl
  have hDc : va_D A ([]) := hD.sub [] (by decide +kernel) rfl
  refine cl_i0 (va_runS (As := [.int (nI q)]) (rest := [.ref (h 0)]) ⟨hx, hb, hml, hown, hts⟩ (c_X5_isPiece l D k (nI q) H.size) (va_cwS 1 hts gX5_pieceOf_X5_isPiece rfl rfl rfl (by decide +kernel) ⟨Nat.le_of_ble_eq_true rfl, Nat.le_of_ble_eq_true rfl⟩) ⟨pr_blind, pr_at hN hPc hK hDc⟩ rfl rfl hl.1 rfl (lv_room (Nat.le_of_ble_eq_true rfl)) dX5_pieceOf_2 ⟨Nat.le_of_ble_eq_true rfl, Nat.le_of_ble_eq_true rfl⟩) hP hD hS hA [] rfl (fun H locs hP hD hS => ?_)
  clear hPc hDc
  refine lv_if_ne (tgt := 12) hx hb dX5_pieceOf_5 (by decide) (fun c_1 => ?_) (fun c_1 => ?_)
  · have c_1 := bI_ne.mp c_1
    refine lv_iload_n hx hb dX5_pieceOf_12 rfl (lv_at hl 2 rfl) ?_
    refine lv_iconst (v := 0) hx hb dX5_pieceOf_13 (by decide) ?_
    refine lv_bipush (v := 7) hx hb dX5_pieceOf_14 (by decide) ?_
    have hPc : va_P D vwCl ([]) H := hP.sub [] rfl
    have hDc : va_D A ([]) := hD.sub [] (by decide +kernel) rfl
    refine cl_i0 (va_runS (As := [.int 1, .int 0, .int 7]) (rest := [.ref (h 0)]) ⟨hx, hb, hml, hown, hts⟩ (c_X5_in l D k 1 0 7 H.size) (va_cwS 3 hts gX5_pieceOf_X5_in rfl rfl rfl (by decide +kernel) ⟨Nat.le_of_ble_eq_true rfl, Nat.le_of_ble_eq_true rfl⟩) ⟨pr_blind, pr_at hN hPc hK hDc⟩ rfl rfl hl.1 rfl (lv_room (Nat.le_of_ble_eq_true rfl)) dX5_pieceOf_16 ⟨Nat.le_of_ble_eq_true rfl, Nat.le_of_ble_eq_true rfl⟩) hP hD hS hA [] rfl (fun H locs hP hD hS => ?_)
    clear hPc hDc
    refine lv_if_ne (tgt := 26) hx hb dX5_pieceOf_19 (by decide) (fun c_2 => ?_) (fun c_2 => ?_)
    · have c_2 := bI_ne.mp c_2
      refine lv_iconst (v := 0) hx hb dX5_pieceOf_26 (by decide) ?_
      have hPc : va_P D vwCl (wMo k h th f asd sl kp sv sm tx ln dg) H := hP.sub [0, 1, 2, 3, 4, 5, 6] rfl
      have hDc : va_D A (wMo k h th f asd sl kp sv sm tx ln dg) := hD.sub [0, 1, 2, 3, 4, 5, 6] (by decide +kernel) rfl
      refine cl_i (va_runV (As := [.int 0]) (rest := []) ⟨hx, hb, hml, hown, hts⟩ (c_X5_holds l D k h th f asd sl kp sv sm tx ln dg 0 H.size) (cwV 1 hts gX5_pieceOf_X5_holds rfl rfl rfl (by decide +kernel) ⟨Nat.le_of_ble_eq_true rfl, Nat.le_of_ble_eq_true rfl⟩) ⟨pr_blind, va_recv hK hP (ci := 5) (q0 := 0) rfl rfl, pr_at hN hPc hK hDc⟩ rfl rfl hl.1 rfl (lv_room (Nat.le_of_ble_eq_true rfl)) dX5_pieceOf_27 ⟨Nat.le_of_ble_eq_true rfl, Nat.le_of_ble_eq_true rfl⟩) hP hD hS hA [0, 1, 2, 3, 4, 5, 6] [] ([]) [h 0, h 1, h 2, h 3, h 4, h 5, h 6] 7 rfl (wn := wMo k h 0 f asd sl kp sv sm tx ln dg) rfl rfl rfl rfl (by decide +kernel) rfl rfl (fun H locs hP hD hS => ?_)
      clear hPc hDc
      refine tp_e (y := 1) (by decide) ?_
      refine lv_if_eq (tgt := 42) hx hb dX5_pieceOf_30 (by decide) (fun c_3 => ?_) (fun c_3 => ?_)
      · exact absurd c_3 (by decide)
      · refine lv_aload_n hx hb dX5_pieceOf_33 rfl (lv_at hl 0 rfl) ?_
        refine lv_iload_n hx hb dX5_pieceOf_34 rfl (lv_at hl 1 rfl) ?_
        refine lv_iload_n hx hb dX5_pieceOf_35 rfl (lv_at hl 2 rfl) ?_
        have hPc : va_P D vwCl (wMo k h 0 f asd sl kp sv sm tx ln dg) H := hP.sub [0, 1, 2, 3, 4, 5, 6] rfl
        have hDc : va_D A (wMo k h 0 f asd sl kp sv sm tx ln dg) := hD.sub [0, 1, 2, 3, 4, 5, 6] (by decide +kernel) rfl
        refine cl_i0 (va_runV (As := [.int (nI q), .int 1]) (rest := []) ⟨hx, hb, hml, hown, hts⟩ (c_X5_property_1 l D k h 0 f asd sl kp sv sm tx ln dg q hq H.size) (cwV 2 hts gX5_pieceOf_X5_property rfl rfl rfl (by decide +kernel) ⟨Nat.le_of_ble_eq_true rfl, Nat.le_of_ble_eq_true rfl⟩) ⟨pr_blind, va_recv hK hP (ci := 5) (q0 := 0) rfl rfl, pr_at hN hPc hK hDc⟩ rfl rfl hl.1 rfl (lv_room (Nat.le_of_ble_eq_true rfl)) dX5_pieceOf_36 ⟨Nat.le_of_ble_eq_true rfl, Nat.le_of_ble_eq_true rfl⟩) hP hD hS hA [0, 1, 2, 3, 4, 5, 6] rfl (fun H locs hP hD hS => ?_)
        clear hPc hDc
        refine lv_goto (tgt := 43) hx hb dX5_pieceOf_39 (by decide) ?_
        subst hQ
        exact rt_i hx hb hr hlocks hS dX5_pieceOf_43 (hP) (rfl)
    · have c_2 := bI_eq.mp c_2
      exact absurd c_2 (by rw [(show inB 1 0 7 = true by decide)]; decide)
  · have c_1 := bI_eq.mp c_1
    exact absurd c_1 (by rw [(show inB (nI q) 0 8 = true from inB_n (a := 0) (b := 8) (by omega) (by omega) (by omega))]; decide)

set_option maxHeartbeats 1000000 in
set_option maxRecDepth 100000 in
theorem c_X5_pieceOf_2 (l : Launch) (D : va_G) (k : Nat → ClassId) (h : Nat → Nat) (th : Int32) (f asd sl kp sv : Nat → Int32) (sm : Int32) (tx : Nat → Int32) (ln : Int32) (dg : Int64) (q : Nat) (hq : q < 9) : MI l yX5_pieceOf wsX5_pieceOf ({ frames := 2, cells := 0, slots := 0, locals := 42 }) D k [.ref (h 0), .int (nI q), .int 2] (wMo k h th f asd sl kp sv sm tx ln dg) (f (18 + q)) (wMo k h 0 f asd sl kp sv sm tx ln dg) := by
  intro sz
  refine Met.ofW (cc := cX5_pieceOf) (maxL := 3) (ret := (some .int)) (by decide) rfl ?_
  intro p e s m args below meth c s₁ B hml hv
  obtain ⟨rfl, hN, hsz, hP, hK, hD0⟩ := hv
  have hx := B.exec
  have hb := B.bytes
  have hr := B.returns
  have hts := atoms_spec (ws := wsX5_pieceOf) B.pre
  have hown : s.vm.findClass RX5 = some m.cls := findClass_of_methodNamed B.named
  have hlocks := B.notSynchronized
  subst hsz
  have hD := hD0.self (sz := s.heap.size)
  generalize hAe : va_A (wMo k h th f asd sl kp sv sm tx ln dg) s.heap.size = A at hD ⊢
  have hA : ∀ q : Nat, s.heap.size ≤ q → A q := fun q h => by rw [← hAe]; exact Or.inr h
  have hS : va_S A s.heap s.heap [] := va_S.rf
  have hl := lv_entry ([.ref (h 0), .int (nI q), .int 2]) (n := 3) (Nat.le_of_ble_eq_true rfl)
  rw [lg_entry_eq]
  generalize (lg_sl ([.ref (h 0), .int (nI q), .int 2]) ++ List.replicate (3 - (lg_sl ([.ref (h 0), .int (nI q), .int 2])).length) Slot.unset).toArray = ls at hl ⊢
  have hl : lv_has ls 3 [(0, .ref (h 0)), (1, .int (nI q)), (2, .int 2)] := hl
  obtain ⟨H, hHe⟩ : ∃ H, H = s.heap := ⟨_, rfl⟩
  have hP : va_P D vwCl (wMo k h th f asd sl kp sv sm tx ln dg) H := by rw [hHe]; exact hP
  have hS : va_S A s.heap H [] := by rw [hHe]; exact hS
  rw [← hHe]
  refine absQ (fun Q hQ => ?_)
  refine lv_aload_n hx hb dX5_pieceOf_0 rfl (lv_at hl 0 rfl) ?_
  refine lv_iload_n hx hb dX5_pieceOf_1 rfl (lv_at hl 1 rfl) ?_
  have hPc : va_P D vwCl ([]) H := hP.sub [] rfl
  have hDc : va_D A ([]) := hD.sub [] (by decide +kernel) rfl
  refine cl_i0 (va_runS (As := [.int (nI q)]) (rest := [.ref (h 0)]) ⟨hx, hb, hml, hown, hts⟩ (c_X5_isPiece l D k (nI q) H.size) (va_cwS 1 hts gX5_pieceOf_X5_isPiece rfl rfl rfl (by decide +kernel) ⟨Nat.le_of_ble_eq_true rfl, Nat.le_of_ble_eq_true rfl⟩) ⟨pr_blind, pr_at hN hPc hK hDc⟩ rfl rfl hl.1 rfl (lv_room (Nat.le_of_ble_eq_true rfl)) dX5_pieceOf_2 ⟨Nat.le_of_ble_eq_true rfl, Nat.le_of_ble_eq_true rfl⟩) hP hD hS hA [] rfl (fun H locs hP hD hS => ?_)
  clear hPc hDc
  refine lv_if_ne (tgt := 12) hx hb dX5_pieceOf_5 (by decide) (fun c_1 => ?_) (fun c_1 => ?_)
  · have c_1 := bI_ne.mp c_1
    refine lv_iload_n hx hb dX5_pieceOf_12 rfl (lv_at hl 2 rfl) ?_
    refine lv_iconst (v := 0) hx hb dX5_pieceOf_13 (by decide) ?_
    refine lv_bipush (v := 7) hx hb dX5_pieceOf_14 (by decide) ?_
    have hPc : va_P D vwCl ([]) H := hP.sub [] rfl
    have hDc : va_D A ([]) := hD.sub [] (by decide +kernel) rfl
    refine cl_i0 (va_runS (As := [.int 2, .int 0, .int 7]) (rest := [.ref (h 0)]) ⟨hx, hb, hml, hown, hts⟩ (c_X5_in l D k 2 0 7 H.size) (va_cwS 3 hts gX5_pieceOf_X5_in rfl rfl rfl (by decide +kernel) ⟨Nat.le_of_ble_eq_true rfl, Nat.le_of_ble_eq_true rfl⟩) ⟨pr_blind, pr_at hN hPc hK hDc⟩ rfl rfl hl.1 rfl (lv_room (Nat.le_of_ble_eq_true rfl)) dX5_pieceOf_16 ⟨Nat.le_of_ble_eq_true rfl, Nat.le_of_ble_eq_true rfl⟩) hP hD hS hA [] rfl (fun H locs hP hD hS => ?_)
    clear hPc hDc
    refine lv_if_ne (tgt := 26) hx hb dX5_pieceOf_19 (by decide) (fun c_2 => ?_) (fun c_2 => ?_)
    · have c_2 := bI_ne.mp c_2
      refine lv_iconst (v := 0) hx hb dX5_pieceOf_26 (by decide) ?_
      have hPc : va_P D vwCl (wMo k h th f asd sl kp sv sm tx ln dg) H := hP.sub [0, 1, 2, 3, 4, 5, 6] rfl
      have hDc : va_D A (wMo k h th f asd sl kp sv sm tx ln dg) := hD.sub [0, 1, 2, 3, 4, 5, 6] (by decide +kernel) rfl
      refine cl_i (va_runV (As := [.int 0]) (rest := []) ⟨hx, hb, hml, hown, hts⟩ (c_X5_holds l D k h th f asd sl kp sv sm tx ln dg 0 H.size) (cwV 1 hts gX5_pieceOf_X5_holds rfl rfl rfl (by decide +kernel) ⟨Nat.le_of_ble_eq_true rfl, Nat.le_of_ble_eq_true rfl⟩) ⟨pr_blind, va_recv hK hP (ci := 5) (q0 := 0) rfl rfl, pr_at hN hPc hK hDc⟩ rfl rfl hl.1 rfl (lv_room (Nat.le_of_ble_eq_true rfl)) dX5_pieceOf_27 ⟨Nat.le_of_ble_eq_true rfl, Nat.le_of_ble_eq_true rfl⟩) hP hD hS hA [0, 1, 2, 3, 4, 5, 6] [] ([]) [h 0, h 1, h 2, h 3, h 4, h 5, h 6] 7 rfl (wn := wMo k h 0 f asd sl kp sv sm tx ln dg) rfl rfl rfl rfl (by decide +kernel) rfl rfl (fun H locs hP hD hS => ?_)
      clear hPc hDc
      refine tp_e (y := 1) (by decide) ?_
      refine lv_if_eq (tgt := 42) hx hb dX5_pieceOf_30 (by decide) (fun c_3 => ?_) (fun c_3 => ?_)
      · exact absurd c_3 (by decide)
      · refine lv_aload_n hx hb dX5_pieceOf_33 rfl (lv_at hl 0 rfl) ?_
        refine lv_iload_n hx hb dX5_pieceOf_34 rfl (lv_at hl 1 rfl) ?_
        refine lv_iload_n hx hb dX5_pieceOf_35 rfl (lv_at hl 2 rfl) ?_
        have hPc : va_P D vwCl (wMo k h 0 f asd sl kp sv sm tx ln dg) H := hP.sub [0, 1, 2, 3, 4, 5, 6] rfl
        have hDc : va_D A (wMo k h 0 f asd sl kp sv sm tx ln dg) := hD.sub [0, 1, 2, 3, 4, 5, 6] (by decide +kernel) rfl
        refine cl_i0 (va_runV (As := [.int (nI q), .int 2]) (rest := []) ⟨hx, hb, hml, hown, hts⟩ (c_X5_property_2 l D k h 0 f asd sl kp sv sm tx ln dg q hq H.size) (cwV 2 hts gX5_pieceOf_X5_property rfl rfl rfl (by decide +kernel) ⟨Nat.le_of_ble_eq_true rfl, Nat.le_of_ble_eq_true rfl⟩) ⟨pr_blind, va_recv hK hP (ci := 5) (q0 := 0) rfl rfl, pr_at hN hPc hK hDc⟩ rfl rfl hl.1 rfl (lv_room (Nat.le_of_ble_eq_true rfl)) dX5_pieceOf_36 ⟨Nat.le_of_ble_eq_true rfl, Nat.le_of_ble_eq_true rfl⟩) hP hD hS hA [0, 1, 2, 3, 4, 5, 6] rfl (fun H locs hP hD hS => ?_)
        clear hPc hDc
        refine lv_goto (tgt := 43) hx hb dX5_pieceOf_39 (by decide) ?_
        subst hQ
        exact rt_i hx hb hr hlocks hS dX5_pieceOf_43 (hP) (rfl)
    · have c_2 := bI_eq.mp c_2
      exact absurd c_2 (by rw [(show inB 2 0 7 = true by decide)]; decide)
  · have c_1 := bI_eq.mp c_1
    exact absurd c_1 (by rw [(show inB (nI q) 0 8 = true from inB_n (a := 0) (b := 8) (by omega) (by omega) (by omega))]; decide)

set_option maxHeartbeats 1000000 in
set_option maxRecDepth 100000 in
theorem c_X5_pieceOf_3 (l : Launch) (D : va_G) (k : Nat → ClassId) (h : Nat → Nat) (th : Int32) (f asd sl kp sv : Nat → Int32) (sm : Int32) (tx : Nat → Int32) (ln : Int32) (dg : Int64) (q : Nat) (hq : q < 9) : MI l yX5_pieceOf wsX5_pieceOf ({ frames := 2, cells := 0, slots := 0, locals := 45 }) D k [.ref (h 0), .int (nI q), .int 3] (wMo k h th f asd sl kp sv sm tx ln dg) (jtM f (nI q) 9) (wMo k h 0 f asd sl kp sv sm tx ln dg) := by
  intro sz
  refine Met.ofW (cc := cX5_pieceOf) (maxL := 3) (ret := (some .int)) (by decide) rfl ?_
  intro p e s m args below meth c s₁ B hml hv
  obtain ⟨rfl, hN, hsz, hP, hK, hD0⟩ := hv
  have hx := B.exec
  have hb := B.bytes
  have hr := B.returns
  have hts := atoms_spec (ws := wsX5_pieceOf) B.pre
  have hown : s.vm.findClass RX5 = some m.cls := findClass_of_methodNamed B.named
  have hlocks := B.notSynchronized
  subst hsz
  have hD := hD0.self (sz := s.heap.size)
  generalize hAe : va_A (wMo k h th f asd sl kp sv sm tx ln dg) s.heap.size = A at hD ⊢
  have hA : ∀ q : Nat, s.heap.size ≤ q → A q := fun q h => by rw [← hAe]; exact Or.inr h
  have hS : va_S A s.heap s.heap [] := va_S.rf
  have hl := lv_entry ([.ref (h 0), .int (nI q), .int 3]) (n := 3) (Nat.le_of_ble_eq_true rfl)
  rw [lg_entry_eq]
  generalize (lg_sl ([.ref (h 0), .int (nI q), .int 3]) ++ List.replicate (3 - (lg_sl ([.ref (h 0), .int (nI q), .int 3])).length) Slot.unset).toArray = ls at hl ⊢
  have hl : lv_has ls 3 [(0, .ref (h 0)), (1, .int (nI q)), (2, .int 3)] := hl
  obtain ⟨H, hHe⟩ : ∃ H, H = s.heap := ⟨_, rfl⟩
  have hP : va_P D vwCl (wMo k h th f asd sl kp sv sm tx ln dg) H := by rw [hHe]; exact hP
  have hS : va_S A s.heap H [] := by rw [hHe]; exact hS
  rw [← hHe]
  refine absQ (fun Q hQ => ?_)
  refine lv_aload_n hx hb dX5_pieceOf_0 rfl (lv_at hl 0 rfl) ?_
  refine lv_iload_n hx hb dX5_pieceOf_1 rfl (lv_at hl 1 rfl) ?_
  have hPc : va_P D vwCl ([]) H := hP.sub [] rfl
  have hDc : va_D A ([]) := hD.sub [] (by decide +kernel) rfl
  refine cl_i0 (va_runS (As := [.int (nI q)]) (rest := [.ref (h 0)]) ⟨hx, hb, hml, hown, hts⟩ (c_X5_isPiece l D k (nI q) H.size) (va_cwS 1 hts gX5_pieceOf_X5_isPiece rfl rfl rfl (by decide +kernel) ⟨Nat.le_of_ble_eq_true rfl, Nat.le_of_ble_eq_true rfl⟩) ⟨pr_blind, pr_at hN hPc hK hDc⟩ rfl rfl hl.1 rfl (lv_room (Nat.le_of_ble_eq_true rfl)) dX5_pieceOf_2 ⟨Nat.le_of_ble_eq_true rfl, Nat.le_of_ble_eq_true rfl⟩) hP hD hS hA [] rfl (fun H locs hP hD hS => ?_)
  clear hPc hDc
  refine lv_if_ne (tgt := 12) hx hb dX5_pieceOf_5 (by decide) (fun c_1 => ?_) (fun c_1 => ?_)
  · have c_1 := bI_ne.mp c_1
    refine lv_iload_n hx hb dX5_pieceOf_12 rfl (lv_at hl 2 rfl) ?_
    refine lv_iconst (v := 0) hx hb dX5_pieceOf_13 (by decide) ?_
    refine lv_bipush (v := 7) hx hb dX5_pieceOf_14 (by decide) ?_
    have hPc : va_P D vwCl ([]) H := hP.sub [] rfl
    have hDc : va_D A ([]) := hD.sub [] (by decide +kernel) rfl
    refine cl_i0 (va_runS (As := [.int 3, .int 0, .int 7]) (rest := [.ref (h 0)]) ⟨hx, hb, hml, hown, hts⟩ (c_X5_in l D k 3 0 7 H.size) (va_cwS 3 hts gX5_pieceOf_X5_in rfl rfl rfl (by decide +kernel) ⟨Nat.le_of_ble_eq_true rfl, Nat.le_of_ble_eq_true rfl⟩) ⟨pr_blind, pr_at hN hPc hK hDc⟩ rfl rfl hl.1 rfl (lv_room (Nat.le_of_ble_eq_true rfl)) dX5_pieceOf_16 ⟨Nat.le_of_ble_eq_true rfl, Nat.le_of_ble_eq_true rfl⟩) hP hD hS hA [] rfl (fun H locs hP hD hS => ?_)
    clear hPc hDc
    refine lv_if_ne (tgt := 26) hx hb dX5_pieceOf_19 (by decide) (fun c_2 => ?_) (fun c_2 => ?_)
    · have c_2 := bI_ne.mp c_2
      refine lv_iconst (v := 0) hx hb dX5_pieceOf_26 (by decide) ?_
      have hPc : va_P D vwCl (wMo k h th f asd sl kp sv sm tx ln dg) H := hP.sub [0, 1, 2, 3, 4, 5, 6] rfl
      have hDc : va_D A (wMo k h th f asd sl kp sv sm tx ln dg) := hD.sub [0, 1, 2, 3, 4, 5, 6] (by decide +kernel) rfl
      refine cl_i (va_runV (As := [.int 0]) (rest := []) ⟨hx, hb, hml, hown, hts⟩ (c_X5_holds l D k h th f asd sl kp sv sm tx ln dg 0 H.size) (cwV 1 hts gX5_pieceOf_X5_holds rfl rfl rfl (by decide +kernel) ⟨Nat.le_of_ble_eq_true rfl, Nat.le_of_ble_eq_true rfl⟩) ⟨pr_blind, va_recv hK hP (ci := 5) (q0 := 0) rfl rfl, pr_at hN hPc hK hDc⟩ rfl rfl hl.1 rfl (lv_room (Nat.le_of_ble_eq_true rfl)) dX5_pieceOf_27 ⟨Nat.le_of_ble_eq_true rfl, Nat.le_of_ble_eq_true rfl⟩) hP hD hS hA [0, 1, 2, 3, 4, 5, 6] [] ([]) [h 0, h 1, h 2, h 3, h 4, h 5, h 6] 7 rfl (wn := wMo k h 0 f asd sl kp sv sm tx ln dg) rfl rfl rfl rfl (by decide +kernel) rfl rfl (fun H locs hP hD hS => ?_)
      clear hPc hDc
      refine tp_e (y := 1) (by decide) ?_
      refine lv_if_eq (tgt := 42) hx hb dX5_pieceOf_30 (by decide) (fun c_3 => ?_) (fun c_3 => ?_)
      · exact absurd c_3 (by decide)
      · refine lv_aload_n hx hb dX5_pieceOf_33 rfl (lv_at hl 0 rfl) ?_
        refine lv_iload_n hx hb dX5_pieceOf_34 rfl (lv_at hl 1 rfl) ?_
        refine lv_iload_n hx hb dX5_pieceOf_35 rfl (lv_at hl 2 rfl) ?_
        have hPc : va_P D vwCl (wMo k h 0 f asd sl kp sv sm tx ln dg) H := hP.sub [0, 1, 2, 3, 4, 5, 6] rfl
        have hDc : va_D A (wMo k h 0 f asd sl kp sv sm tx ln dg) := hD.sub [0, 1, 2, 3, 4, 5, 6] (by decide +kernel) rfl
        refine cl_i0 (va_runV (As := [.int (nI q), .int 3]) (rest := []) ⟨hx, hb, hml, hown, hts⟩ (c_X5_property_3 l D k h 0 f asd sl kp sv sm tx ln dg q hq H.size) (cwV 2 hts gX5_pieceOf_X5_property rfl rfl rfl (by decide +kernel) ⟨Nat.le_of_ble_eq_true rfl, Nat.le_of_ble_eq_true rfl⟩) ⟨pr_blind, va_recv hK hP (ci := 5) (q0 := 0) rfl rfl, pr_at hN hPc hK hDc⟩ rfl rfl hl.1 rfl (lv_room (Nat.le_of_ble_eq_true rfl)) dX5_pieceOf_36 ⟨Nat.le_of_ble_eq_true rfl, Nat.le_of_ble_eq_true rfl⟩) hP hD hS hA [0, 1, 2, 3, 4, 5, 6] rfl (fun H locs hP hD hS => ?_)
        clear hPc hDc
        refine lv_goto (tgt := 43) hx hb dX5_pieceOf_39 (by decide) ?_
        subst hQ
        exact rt_i hx hb hr hlocks hS dX5_pieceOf_43 (hP) (rfl)
    · have c_2 := bI_eq.mp c_2
      exact absurd c_2 (by rw [(show inB 3 0 7 = true by decide)]; decide)
  · have c_1 := bI_eq.mp c_1
    exact absurd c_1 (by rw [(show inB (nI q) 0 8 = true from inB_n (a := 0) (b := 8) (by omega) (by omega) (by omega))]; decide)

set_option maxHeartbeats 1000000 in
set_option maxRecDepth 100000 in
theorem c_X5_pieceOf_4 (l : Launch) (D : va_G) (k : Nat → ClassId) (h : Nat → Nat) (th : Int32) (f asd sl kp sv : Nat → Int32) (sm : Int32) (tx : Nat → Int32) (ln : Int32) (dg : Int64) (q : Nat) (hq : q < 9) : MI l yX5_pieceOf wsX5_pieceOf ({ frames := 2, cells := 0, slots := 0, locals := 44 }) D k [.ref (h 0), .int (nI q), .int 4] (wMo k h th f asd sl kp sv sm tx ln dg) (mnF (f (27 + q)) 9) (wMo k h 0 f asd sl kp sv sm tx ln dg) := by
  intro sz
  refine Met.ofW (cc := cX5_pieceOf) (maxL := 3) (ret := (some .int)) (by decide) rfl ?_
  intro p e s m args below meth c s₁ B hml hv
  obtain ⟨rfl, hN, hsz, hP, hK, hD0⟩ := hv
  have hx := B.exec
  have hb := B.bytes
  have hr := B.returns
  have hts := atoms_spec (ws := wsX5_pieceOf) B.pre
  have hown : s.vm.findClass RX5 = some m.cls := findClass_of_methodNamed B.named
  have hlocks := B.notSynchronized
  subst hsz
  have hD := hD0.self (sz := s.heap.size)
  generalize hAe : va_A (wMo k h th f asd sl kp sv sm tx ln dg) s.heap.size = A at hD ⊢
  have hA : ∀ q : Nat, s.heap.size ≤ q → A q := fun q h => by rw [← hAe]; exact Or.inr h
  have hS : va_S A s.heap s.heap [] := va_S.rf
  have hl := lv_entry ([.ref (h 0), .int (nI q), .int 4]) (n := 3) (Nat.le_of_ble_eq_true rfl)
  rw [lg_entry_eq]
  generalize (lg_sl ([.ref (h 0), .int (nI q), .int 4]) ++ List.replicate (3 - (lg_sl ([.ref (h 0), .int (nI q), .int 4])).length) Slot.unset).toArray = ls at hl ⊢
  have hl : lv_has ls 3 [(0, .ref (h 0)), (1, .int (nI q)), (2, .int 4)] := hl
  obtain ⟨H, hHe⟩ : ∃ H, H = s.heap := ⟨_, rfl⟩
  have hP : va_P D vwCl (wMo k h th f asd sl kp sv sm tx ln dg) H := by rw [hHe]; exact hP
  have hS : va_S A s.heap H [] := by rw [hHe]; exact hS
  rw [← hHe]
  refine absQ (fun Q hQ => ?_)
  refine lv_aload_n hx hb dX5_pieceOf_0 rfl (lv_at hl 0 rfl) ?_
  refine lv_iload_n hx hb dX5_pieceOf_1 rfl (lv_at hl 1 rfl) ?_
  have hPc : va_P D vwCl ([]) H := hP.sub [] rfl
  have hDc : va_D A ([]) := hD.sub [] (by decide +kernel) rfl
  refine cl_i0 (va_runS (As := [.int (nI q)]) (rest := [.ref (h 0)]) ⟨hx, hb, hml, hown, hts⟩ (c_X5_isPiece l D k (nI q) H.size) (va_cwS 1 hts gX5_pieceOf_X5_isPiece rfl rfl rfl (by decide +kernel) ⟨Nat.le_of_ble_eq_true rfl, Nat.le_of_ble_eq_true rfl⟩) ⟨pr_blind, pr_at hN hPc hK hDc⟩ rfl rfl hl.1 rfl (lv_room (Nat.le_of_ble_eq_true rfl)) dX5_pieceOf_2 ⟨Nat.le_of_ble_eq_true rfl, Nat.le_of_ble_eq_true rfl⟩) hP hD hS hA [] rfl (fun H locs hP hD hS => ?_)
  clear hPc hDc
  refine lv_if_ne (tgt := 12) hx hb dX5_pieceOf_5 (by decide) (fun c_1 => ?_) (fun c_1 => ?_)
  · have c_1 := bI_ne.mp c_1
    refine lv_iload_n hx hb dX5_pieceOf_12 rfl (lv_at hl 2 rfl) ?_
    refine lv_iconst (v := 0) hx hb dX5_pieceOf_13 (by decide) ?_
    refine lv_bipush (v := 7) hx hb dX5_pieceOf_14 (by decide) ?_
    have hPc : va_P D vwCl ([]) H := hP.sub [] rfl
    have hDc : va_D A ([]) := hD.sub [] (by decide +kernel) rfl
    refine cl_i0 (va_runS (As := [.int 4, .int 0, .int 7]) (rest := [.ref (h 0)]) ⟨hx, hb, hml, hown, hts⟩ (c_X5_in l D k 4 0 7 H.size) (va_cwS 3 hts gX5_pieceOf_X5_in rfl rfl rfl (by decide +kernel) ⟨Nat.le_of_ble_eq_true rfl, Nat.le_of_ble_eq_true rfl⟩) ⟨pr_blind, pr_at hN hPc hK hDc⟩ rfl rfl hl.1 rfl (lv_room (Nat.le_of_ble_eq_true rfl)) dX5_pieceOf_16 ⟨Nat.le_of_ble_eq_true rfl, Nat.le_of_ble_eq_true rfl⟩) hP hD hS hA [] rfl (fun H locs hP hD hS => ?_)
    clear hPc hDc
    refine lv_if_ne (tgt := 26) hx hb dX5_pieceOf_19 (by decide) (fun c_2 => ?_) (fun c_2 => ?_)
    · have c_2 := bI_ne.mp c_2
      refine lv_iconst (v := 0) hx hb dX5_pieceOf_26 (by decide) ?_
      have hPc : va_P D vwCl (wMo k h th f asd sl kp sv sm tx ln dg) H := hP.sub [0, 1, 2, 3, 4, 5, 6] rfl
      have hDc : va_D A (wMo k h th f asd sl kp sv sm tx ln dg) := hD.sub [0, 1, 2, 3, 4, 5, 6] (by decide +kernel) rfl
      refine cl_i (va_runV (As := [.int 0]) (rest := []) ⟨hx, hb, hml, hown, hts⟩ (c_X5_holds l D k h th f asd sl kp sv sm tx ln dg 0 H.size) (cwV 1 hts gX5_pieceOf_X5_holds rfl rfl rfl (by decide +kernel) ⟨Nat.le_of_ble_eq_true rfl, Nat.le_of_ble_eq_true rfl⟩) ⟨pr_blind, va_recv hK hP (ci := 5) (q0 := 0) rfl rfl, pr_at hN hPc hK hDc⟩ rfl rfl hl.1 rfl (lv_room (Nat.le_of_ble_eq_true rfl)) dX5_pieceOf_27 ⟨Nat.le_of_ble_eq_true rfl, Nat.le_of_ble_eq_true rfl⟩) hP hD hS hA [0, 1, 2, 3, 4, 5, 6] [] ([]) [h 0, h 1, h 2, h 3, h 4, h 5, h 6] 7 rfl (wn := wMo k h 0 f asd sl kp sv sm tx ln dg) rfl rfl rfl rfl (by decide +kernel) rfl rfl (fun H locs hP hD hS => ?_)
      clear hPc hDc
      refine tp_e (y := 1) (by decide) ?_
      refine lv_if_eq (tgt := 42) hx hb dX5_pieceOf_30 (by decide) (fun c_3 => ?_) (fun c_3 => ?_)
      · exact absurd c_3 (by decide)
      · refine lv_aload_n hx hb dX5_pieceOf_33 rfl (lv_at hl 0 rfl) ?_
        refine lv_iload_n hx hb dX5_pieceOf_34 rfl (lv_at hl 1 rfl) ?_
        refine lv_iload_n hx hb dX5_pieceOf_35 rfl (lv_at hl 2 rfl) ?_
        have hPc : va_P D vwCl (wMo k h 0 f asd sl kp sv sm tx ln dg) H := hP.sub [0, 1, 2, 3, 4, 5, 6] rfl
        have hDc : va_D A (wMo k h 0 f asd sl kp sv sm tx ln dg) := hD.sub [0, 1, 2, 3, 4, 5, 6] (by decide +kernel) rfl
        refine cl_i0 (va_runV (As := [.int (nI q), .int 4]) (rest := []) ⟨hx, hb, hml, hown, hts⟩ (c_X5_property_4 l D k h 0 f asd sl kp sv sm tx ln dg q hq H.size) (cwV 2 hts gX5_pieceOf_X5_property rfl rfl rfl (by decide +kernel) ⟨Nat.le_of_ble_eq_true rfl, Nat.le_of_ble_eq_true rfl⟩) ⟨pr_blind, va_recv hK hP (ci := 5) (q0 := 0) rfl rfl, pr_at hN hPc hK hDc⟩ rfl rfl hl.1 rfl (lv_room (Nat.le_of_ble_eq_true rfl)) dX5_pieceOf_36 ⟨Nat.le_of_ble_eq_true rfl, Nat.le_of_ble_eq_true rfl⟩) hP hD hS hA [0, 1, 2, 3, 4, 5, 6] rfl (fun H locs hP hD hS => ?_)
        clear hPc hDc
        refine lv_goto (tgt := 43) hx hb dX5_pieceOf_39 (by decide) ?_
        subst hQ
        exact rt_i hx hb hr hlocks hS dX5_pieceOf_43 (hP) (rfl)
    · have c_2 := bI_eq.mp c_2
      exact absurd c_2 (by rw [(show inB 4 0 7 = true by decide)]; decide)
  · have c_1 := bI_eq.mp c_1
    exact absurd c_1 (by rw [(show inB (nI q) 0 8 = true from inB_n (a := 0) (b := 8) (by omega) (by omega) (by omega))]; decide)

set_option maxHeartbeats 1000000 in
set_option maxRecDepth 100000 in
theorem c_X5_pieceOf_5 (l : Launch) (D : va_G) (k : Nat → ClassId) (h : Nat → Nat) (th : Int32) (f asd sl kp sv : Nat → Int32) (sm : Int32) (tx : Nat → Int32) (ln : Int32) (dg : Int64) (q : Nat) (hq : q < 9) : MI l yX5_pieceOf wsX5_pieceOf ({ frames := 2, cells := 0, slots := 0, locals := 45 }) D k [.ref (h 0), .int (nI q), .int 5] (wMo k h th f asd sl kp sv sm tx ln dg) (mnF (bmF f q (9 - (q + 1))) 9) (wMo k h 0 f asd sl kp sv sm tx ln dg) := by
  intro sz
  refine Met.ofW (cc := cX5_pieceOf) (maxL := 3) (ret := (some .int)) (by decide) rfl ?_
  intro p e s m args below meth c s₁ B hml hv
  obtain ⟨rfl, hN, hsz, hP, hK, hD0⟩ := hv
  have hx := B.exec
  have hb := B.bytes
  have hr := B.returns
  have hts := atoms_spec (ws := wsX5_pieceOf) B.pre
  have hown : s.vm.findClass RX5 = some m.cls := findClass_of_methodNamed B.named
  have hlocks := B.notSynchronized
  subst hsz
  have hD := hD0.self (sz := s.heap.size)
  generalize hAe : va_A (wMo k h th f asd sl kp sv sm tx ln dg) s.heap.size = A at hD ⊢
  have hA : ∀ q : Nat, s.heap.size ≤ q → A q := fun q h => by rw [← hAe]; exact Or.inr h
  have hS : va_S A s.heap s.heap [] := va_S.rf
  have hl := lv_entry ([.ref (h 0), .int (nI q), .int 5]) (n := 3) (Nat.le_of_ble_eq_true rfl)
  rw [lg_entry_eq]
  generalize (lg_sl ([.ref (h 0), .int (nI q), .int 5]) ++ List.replicate (3 - (lg_sl ([.ref (h 0), .int (nI q), .int 5])).length) Slot.unset).toArray = ls at hl ⊢
  have hl : lv_has ls 3 [(0, .ref (h 0)), (1, .int (nI q)), (2, .int 5)] := hl
  obtain ⟨H, hHe⟩ : ∃ H, H = s.heap := ⟨_, rfl⟩
  have hP : va_P D vwCl (wMo k h th f asd sl kp sv sm tx ln dg) H := by rw [hHe]; exact hP
  have hS : va_S A s.heap H [] := by rw [hHe]; exact hS
  rw [← hHe]
  refine absQ (fun Q hQ => ?_)
  refine lv_aload_n hx hb dX5_pieceOf_0 rfl (lv_at hl 0 rfl) ?_
  refine lv_iload_n hx hb dX5_pieceOf_1 rfl (lv_at hl 1 rfl) ?_
  have hPc : va_P D vwCl ([]) H := hP.sub [] rfl
  have hDc : va_D A ([]) := hD.sub [] (by decide +kernel) rfl
  refine cl_i0 (va_runS (As := [.int (nI q)]) (rest := [.ref (h 0)]) ⟨hx, hb, hml, hown, hts⟩ (c_X5_isPiece l D k (nI q) H.size) (va_cwS 1 hts gX5_pieceOf_X5_isPiece rfl rfl rfl (by decide +kernel) ⟨Nat.le_of_ble_eq_true rfl, Nat.le_of_ble_eq_true rfl⟩) ⟨pr_blind, pr_at hN hPc hK hDc⟩ rfl rfl hl.1 rfl (lv_room (Nat.le_of_ble_eq_true rfl)) dX5_pieceOf_2 ⟨Nat.le_of_ble_eq_true rfl, Nat.le_of_ble_eq_true rfl⟩) hP hD hS hA [] rfl (fun H locs hP hD hS => ?_)
  clear hPc hDc
  refine lv_if_ne (tgt := 12) hx hb dX5_pieceOf_5 (by decide) (fun c_1 => ?_) (fun c_1 => ?_)
  · have c_1 := bI_ne.mp c_1
    refine lv_iload_n hx hb dX5_pieceOf_12 rfl (lv_at hl 2 rfl) ?_
    refine lv_iconst (v := 0) hx hb dX5_pieceOf_13 (by decide) ?_
    refine lv_bipush (v := 7) hx hb dX5_pieceOf_14 (by decide) ?_
    have hPc : va_P D vwCl ([]) H := hP.sub [] rfl
    have hDc : va_D A ([]) := hD.sub [] (by decide +kernel) rfl
    refine cl_i0 (va_runS (As := [.int 5, .int 0, .int 7]) (rest := [.ref (h 0)]) ⟨hx, hb, hml, hown, hts⟩ (c_X5_in l D k 5 0 7 H.size) (va_cwS 3 hts gX5_pieceOf_X5_in rfl rfl rfl (by decide +kernel) ⟨Nat.le_of_ble_eq_true rfl, Nat.le_of_ble_eq_true rfl⟩) ⟨pr_blind, pr_at hN hPc hK hDc⟩ rfl rfl hl.1 rfl (lv_room (Nat.le_of_ble_eq_true rfl)) dX5_pieceOf_16 ⟨Nat.le_of_ble_eq_true rfl, Nat.le_of_ble_eq_true rfl⟩) hP hD hS hA [] rfl (fun H locs hP hD hS => ?_)
    clear hPc hDc
    refine lv_if_ne (tgt := 26) hx hb dX5_pieceOf_19 (by decide) (fun c_2 => ?_) (fun c_2 => ?_)
    · have c_2 := bI_ne.mp c_2
      refine lv_iconst (v := 0) hx hb dX5_pieceOf_26 (by decide) ?_
      have hPc : va_P D vwCl (wMo k h th f asd sl kp sv sm tx ln dg) H := hP.sub [0, 1, 2, 3, 4, 5, 6] rfl
      have hDc : va_D A (wMo k h th f asd sl kp sv sm tx ln dg) := hD.sub [0, 1, 2, 3, 4, 5, 6] (by decide +kernel) rfl
      refine cl_i (va_runV (As := [.int 0]) (rest := []) ⟨hx, hb, hml, hown, hts⟩ (c_X5_holds l D k h th f asd sl kp sv sm tx ln dg 0 H.size) (cwV 1 hts gX5_pieceOf_X5_holds rfl rfl rfl (by decide +kernel) ⟨Nat.le_of_ble_eq_true rfl, Nat.le_of_ble_eq_true rfl⟩) ⟨pr_blind, va_recv hK hP (ci := 5) (q0 := 0) rfl rfl, pr_at hN hPc hK hDc⟩ rfl rfl hl.1 rfl (lv_room (Nat.le_of_ble_eq_true rfl)) dX5_pieceOf_27 ⟨Nat.le_of_ble_eq_true rfl, Nat.le_of_ble_eq_true rfl⟩) hP hD hS hA [0, 1, 2, 3, 4, 5, 6] [] ([]) [h 0, h 1, h 2, h 3, h 4, h 5, h 6] 7 rfl (wn := wMo k h 0 f asd sl kp sv sm tx ln dg) rfl rfl rfl rfl (by decide +kernel) rfl rfl (fun H locs hP hD hS => ?_)
      clear hPc hDc
      refine tp_e (y := 1) (by decide) ?_
      refine lv_if_eq (tgt := 42) hx hb dX5_pieceOf_30 (by decide) (fun c_3 => ?_) (fun c_3 => ?_)
      · exact absurd c_3 (by decide)
      · refine lv_aload_n hx hb dX5_pieceOf_33 rfl (lv_at hl 0 rfl) ?_
        refine lv_iload_n hx hb dX5_pieceOf_34 rfl (lv_at hl 1 rfl) ?_
        refine lv_iload_n hx hb dX5_pieceOf_35 rfl (lv_at hl 2 rfl) ?_
        have hPc : va_P D vwCl (wMo k h 0 f asd sl kp sv sm tx ln dg) H := hP.sub [0, 1, 2, 3, 4, 5, 6] rfl
        have hDc : va_D A (wMo k h 0 f asd sl kp sv sm tx ln dg) := hD.sub [0, 1, 2, 3, 4, 5, 6] (by decide +kernel) rfl
        refine cl_i0 (va_runV (As := [.int (nI q), .int 5]) (rest := []) ⟨hx, hb, hml, hown, hts⟩ (c_X5_property_5 l D k h 0 f asd sl kp sv sm tx ln dg q hq H.size) (cwV 2 hts gX5_pieceOf_X5_property rfl rfl rfl (by decide +kernel) ⟨Nat.le_of_ble_eq_true rfl, Nat.le_of_ble_eq_true rfl⟩) ⟨pr_blind, va_recv hK hP (ci := 5) (q0 := 0) rfl rfl, pr_at hN hPc hK hDc⟩ rfl rfl hl.1 rfl (lv_room (Nat.le_of_ble_eq_true rfl)) dX5_pieceOf_36 ⟨Nat.le_of_ble_eq_true rfl, Nat.le_of_ble_eq_true rfl⟩) hP hD hS hA [0, 1, 2, 3, 4, 5, 6] rfl (fun H locs hP hD hS => ?_)
        clear hPc hDc
        refine lv_goto (tgt := 43) hx hb dX5_pieceOf_39 (by decide) ?_
        subst hQ
        exact rt_i hx hb hr hlocks hS dX5_pieceOf_43 (hP) (rfl)
    · have c_2 := bI_eq.mp c_2
      exact absurd c_2 (by rw [(show inB 5 0 7 = true by decide)]; decide)
  · have c_1 := bI_eq.mp c_1
    exact absurd c_1 (by rw [(show inB (nI q) 0 8 = true from inB_n (a := 0) (b := 8) (by omega) (by omega) (by omega))]; decide)

set_option maxHeartbeats 1000000 in
set_option maxRecDepth 100000 in
theorem c_X5_pieceOf_6 (l : Launch) (D : va_G) (k : Nat → ClassId) (h : Nat → Nat) (th : Int32) (f asd sl kp sv : Nat → Int32) (sm : Int32) (tx : Nat → Int32) (ln : Int32) (dg : Int64) (q : Nat) (hq : q < 9) : MI l yX5_pieceOf wsX5_pieceOf ({ frames := 4, cells := 0, slots := 0, locals := 93 }) D k [.ref (h 0), .int (nI q), .int 6] (wMo k h th f asd sl kp sv sm tx ln dg) (wyF f (1 <<< (nI q &&& 31)) false 511) (wMo k h 0 f asd sl kp sv sm tx ln dg) := by
  intro sz
  refine Met.ofW (cc := cX5_pieceOf) (maxL := 3) (ret := (some .int)) (by decide) rfl ?_
  intro p e s m args below meth c s₁ B hml hv
  obtain ⟨rfl, hN, hsz, hP, hK, hD0⟩ := hv
  have hx := B.exec
  have hb := B.bytes
  have hr := B.returns
  have hts := atoms_spec (ws := wsX5_pieceOf) B.pre
  have hown : s.vm.findClass RX5 = some m.cls := findClass_of_methodNamed B.named
  have hlocks := B.notSynchronized
  subst hsz
  have hD := hD0.self (sz := s.heap.size)
  generalize hAe : va_A (wMo k h th f asd sl kp sv sm tx ln dg) s.heap.size = A at hD ⊢
  have hA : ∀ q : Nat, s.heap.size ≤ q → A q := fun q h => by rw [← hAe]; exact Or.inr h
  have hS : va_S A s.heap s.heap [] := va_S.rf
  have hl := lv_entry ([.ref (h 0), .int (nI q), .int 6]) (n := 3) (Nat.le_of_ble_eq_true rfl)
  rw [lg_entry_eq]
  generalize (lg_sl ([.ref (h 0), .int (nI q), .int 6]) ++ List.replicate (3 - (lg_sl ([.ref (h 0), .int (nI q), .int 6])).length) Slot.unset).toArray = ls at hl ⊢
  have hl : lv_has ls 3 [(0, .ref (h 0)), (1, .int (nI q)), (2, .int 6)] := hl
  obtain ⟨H, hHe⟩ : ∃ H, H = s.heap := ⟨_, rfl⟩
  have hP : va_P D vwCl (wMo k h th f asd sl kp sv sm tx ln dg) H := by rw [hHe]; exact hP
  have hS : va_S A s.heap H [] := by rw [hHe]; exact hS
  rw [← hHe]
  refine absQ (fun Q hQ => ?_)
  refine lv_aload_n hx hb dX5_pieceOf_0 rfl (lv_at hl 0 rfl) ?_
  refine lv_iload_n hx hb dX5_pieceOf_1 rfl (lv_at hl 1 rfl) ?_
  have hPc : va_P D vwCl ([]) H := hP.sub [] rfl
  have hDc : va_D A ([]) := hD.sub [] (by decide +kernel) rfl
  refine cl_i0 (va_runS (As := [.int (nI q)]) (rest := [.ref (h 0)]) ⟨hx, hb, hml, hown, hts⟩ (c_X5_isPiece l D k (nI q) H.size) (va_cwS 1 hts gX5_pieceOf_X5_isPiece rfl rfl rfl (by decide +kernel) ⟨Nat.le_of_ble_eq_true rfl, Nat.le_of_ble_eq_true rfl⟩) ⟨pr_blind, pr_at hN hPc hK hDc⟩ rfl rfl hl.1 rfl (lv_room (Nat.le_of_ble_eq_true rfl)) dX5_pieceOf_2 ⟨Nat.le_of_ble_eq_true rfl, Nat.le_of_ble_eq_true rfl⟩) hP hD hS hA [] rfl (fun H locs hP hD hS => ?_)
  clear hPc hDc
  refine lv_if_ne (tgt := 12) hx hb dX5_pieceOf_5 (by decide) (fun c_1 => ?_) (fun c_1 => ?_)
  · have c_1 := bI_ne.mp c_1
    refine lv_iload_n hx hb dX5_pieceOf_12 rfl (lv_at hl 2 rfl) ?_
    refine lv_iconst (v := 0) hx hb dX5_pieceOf_13 (by decide) ?_
    refine lv_bipush (v := 7) hx hb dX5_pieceOf_14 (by decide) ?_
    have hPc : va_P D vwCl ([]) H := hP.sub [] rfl
    have hDc : va_D A ([]) := hD.sub [] (by decide +kernel) rfl
    refine cl_i0 (va_runS (As := [.int 6, .int 0, .int 7]) (rest := [.ref (h 0)]) ⟨hx, hb, hml, hown, hts⟩ (c_X5_in l D k 6 0 7 H.size) (va_cwS 3 hts gX5_pieceOf_X5_in rfl rfl rfl (by decide +kernel) ⟨Nat.le_of_ble_eq_true rfl, Nat.le_of_ble_eq_true rfl⟩) ⟨pr_blind, pr_at hN hPc hK hDc⟩ rfl rfl hl.1 rfl (lv_room (Nat.le_of_ble_eq_true rfl)) dX5_pieceOf_16 ⟨Nat.le_of_ble_eq_true rfl, Nat.le_of_ble_eq_true rfl⟩) hP hD hS hA [] rfl (fun H locs hP hD hS => ?_)
    clear hPc hDc
    refine lv_if_ne (tgt := 26) hx hb dX5_pieceOf_19 (by decide) (fun c_2 => ?_) (fun c_2 => ?_)
    · have c_2 := bI_ne.mp c_2
      refine lv_iconst (v := 0) hx hb dX5_pieceOf_26 (by decide) ?_
      have hPc : va_P D vwCl (wMo k h th f asd sl kp sv sm tx ln dg) H := hP.sub [0, 1, 2, 3, 4, 5, 6] rfl
      have hDc : va_D A (wMo k h th f asd sl kp sv sm tx ln dg) := hD.sub [0, 1, 2, 3, 4, 5, 6] (by decide +kernel) rfl
      refine cl_i (va_runV (As := [.int 0]) (rest := []) ⟨hx, hb, hml, hown, hts⟩ (c_X5_holds l D k h th f asd sl kp sv sm tx ln dg 0 H.size) (cwV 1 hts gX5_pieceOf_X5_holds rfl rfl rfl (by decide +kernel) ⟨Nat.le_of_ble_eq_true rfl, Nat.le_of_ble_eq_true rfl⟩) ⟨pr_blind, va_recv hK hP (ci := 5) (q0 := 0) rfl rfl, pr_at hN hPc hK hDc⟩ rfl rfl hl.1 rfl (lv_room (Nat.le_of_ble_eq_true rfl)) dX5_pieceOf_27 ⟨Nat.le_of_ble_eq_true rfl, Nat.le_of_ble_eq_true rfl⟩) hP hD hS hA [0, 1, 2, 3, 4, 5, 6] [] ([]) [h 0, h 1, h 2, h 3, h 4, h 5, h 6] 7 rfl (wn := wMo k h 0 f asd sl kp sv sm tx ln dg) rfl rfl rfl rfl (by decide +kernel) rfl rfl (fun H locs hP hD hS => ?_)
      clear hPc hDc
      refine tp_e (y := 1) (by decide) ?_
      refine lv_if_eq (tgt := 42) hx hb dX5_pieceOf_30 (by decide) (fun c_3 => ?_) (fun c_3 => ?_)
      · exact absurd c_3 (by decide)
      · refine lv_aload_n hx hb dX5_pieceOf_33 rfl (lv_at hl 0 rfl) ?_
        refine lv_iload_n hx hb dX5_pieceOf_34 rfl (lv_at hl 1 rfl) ?_
        refine lv_iload_n hx hb dX5_pieceOf_35 rfl (lv_at hl 2 rfl) ?_
        have hPc : va_P D vwCl (wMo k h 0 f asd sl kp sv sm tx ln dg) H := hP.sub [0, 1, 2, 3, 4, 5, 6] rfl
        have hDc : va_D A (wMo k h 0 f asd sl kp sv sm tx ln dg) := hD.sub [0, 1, 2, 3, 4, 5, 6] (by decide +kernel) rfl
        refine cl_i0 (va_runV (As := [.int (nI q), .int 6]) (rest := []) ⟨hx, hb, hml, hown, hts⟩ (c_X5_property_6 l D k h 0 f asd sl kp sv sm tx ln dg q hq H.size) (cwV 2 hts gX5_pieceOf_X5_property rfl rfl rfl (by decide +kernel) ⟨Nat.le_of_ble_eq_true rfl, Nat.le_of_ble_eq_true rfl⟩) ⟨pr_blind, va_recv hK hP (ci := 5) (q0 := 0) rfl rfl, pr_at hN hPc hK hDc⟩ rfl rfl hl.1 rfl (lv_room (Nat.le_of_ble_eq_true rfl)) dX5_pieceOf_36 ⟨Nat.le_of_ble_eq_true rfl, Nat.le_of_ble_eq_true rfl⟩) hP hD hS hA [0, 1, 2, 3, 4, 5, 6] rfl (fun H locs hP hD hS => ?_)
        clear hPc hDc
        refine lv_goto (tgt := 43) hx hb dX5_pieceOf_39 (by decide) ?_
        subst hQ
        exact rt_i hx hb hr hlocks hS dX5_pieceOf_43 (hP) (rfl)
    · have c_2 := bI_eq.mp c_2
      exact absurd c_2 (by rw [(show inB 6 0 7 = true by decide)]; decide)
  · have c_1 := bI_eq.mp c_1
    exact absurd c_1 (by rw [(show inB (nI q) 0 8 = true from inB_n (a := 0) (b := 8) (by omega) (by omega) (by omega))]; decide)

set_option maxHeartbeats 1000000 in
set_option maxRecDepth 100000 in
theorem c_X5_pieceOf_7 (l : Launch) (D : va_G) (k : Nat → ClassId) (h : Nat → Nat) (th : Int32) (f asd sl kp sv : Nat → Int32) (sm : Int32) (tx : Nat → Int32) (ln : Int32) (dg : Int64) (q : Nat) (hq : q < 9) : MI l yX5_pieceOf wsX5_pieceOf ({ frames := 2, cells := 0, slots := 0, locals := 42 }) D k [.ref (h 0), .int (nI q), .int 7] (wMo k h th f asd sl kp sv sm tx ln dg) (f (36 + q)) (wMo k h 0 f asd sl kp sv sm tx ln dg) := by
  intro sz
  refine Met.ofW (cc := cX5_pieceOf) (maxL := 3) (ret := (some .int)) (by decide) rfl ?_
  intro p e s m args below meth c s₁ B hml hv
  obtain ⟨rfl, hN, hsz, hP, hK, hD0⟩ := hv
  have hx := B.exec
  have hb := B.bytes
  have hr := B.returns
  have hts := atoms_spec (ws := wsX5_pieceOf) B.pre
  have hown : s.vm.findClass RX5 = some m.cls := findClass_of_methodNamed B.named
  have hlocks := B.notSynchronized
  subst hsz
  have hD := hD0.self (sz := s.heap.size)
  generalize hAe : va_A (wMo k h th f asd sl kp sv sm tx ln dg) s.heap.size = A at hD ⊢
  have hA : ∀ q : Nat, s.heap.size ≤ q → A q := fun q h => by rw [← hAe]; exact Or.inr h
  have hS : va_S A s.heap s.heap [] := va_S.rf
  have hl := lv_entry ([.ref (h 0), .int (nI q), .int 7]) (n := 3) (Nat.le_of_ble_eq_true rfl)
  rw [lg_entry_eq]
  generalize (lg_sl ([.ref (h 0), .int (nI q), .int 7]) ++ List.replicate (3 - (lg_sl ([.ref (h 0), .int (nI q), .int 7])).length) Slot.unset).toArray = ls at hl ⊢
  have hl : lv_has ls 3 [(0, .ref (h 0)), (1, .int (nI q)), (2, .int 7)] := hl
  obtain ⟨H, hHe⟩ : ∃ H, H = s.heap := ⟨_, rfl⟩
  have hP : va_P D vwCl (wMo k h th f asd sl kp sv sm tx ln dg) H := by rw [hHe]; exact hP
  have hS : va_S A s.heap H [] := by rw [hHe]; exact hS
  rw [← hHe]
  refine absQ (fun Q hQ => ?_)
  refine lv_aload_n hx hb dX5_pieceOf_0 rfl (lv_at hl 0 rfl) ?_
  refine lv_iload_n hx hb dX5_pieceOf_1 rfl (lv_at hl 1 rfl) ?_
  have hPc : va_P D vwCl ([]) H := hP.sub [] rfl
  have hDc : va_D A ([]) := hD.sub [] (by decide +kernel) rfl
  refine cl_i0 (va_runS (As := [.int (nI q)]) (rest := [.ref (h 0)]) ⟨hx, hb, hml, hown, hts⟩ (c_X5_isPiece l D k (nI q) H.size) (va_cwS 1 hts gX5_pieceOf_X5_isPiece rfl rfl rfl (by decide +kernel) ⟨Nat.le_of_ble_eq_true rfl, Nat.le_of_ble_eq_true rfl⟩) ⟨pr_blind, pr_at hN hPc hK hDc⟩ rfl rfl hl.1 rfl (lv_room (Nat.le_of_ble_eq_true rfl)) dX5_pieceOf_2 ⟨Nat.le_of_ble_eq_true rfl, Nat.le_of_ble_eq_true rfl⟩) hP hD hS hA [] rfl (fun H locs hP hD hS => ?_)
  clear hPc hDc
  refine lv_if_ne (tgt := 12) hx hb dX5_pieceOf_5 (by decide) (fun c_1 => ?_) (fun c_1 => ?_)
  · have c_1 := bI_ne.mp c_1
    refine lv_iload_n hx hb dX5_pieceOf_12 rfl (lv_at hl 2 rfl) ?_
    refine lv_iconst (v := 0) hx hb dX5_pieceOf_13 (by decide) ?_
    refine lv_bipush (v := 7) hx hb dX5_pieceOf_14 (by decide) ?_
    have hPc : va_P D vwCl ([]) H := hP.sub [] rfl
    have hDc : va_D A ([]) := hD.sub [] (by decide +kernel) rfl
    refine cl_i0 (va_runS (As := [.int 7, .int 0, .int 7]) (rest := [.ref (h 0)]) ⟨hx, hb, hml, hown, hts⟩ (c_X5_in l D k 7 0 7 H.size) (va_cwS 3 hts gX5_pieceOf_X5_in rfl rfl rfl (by decide +kernel) ⟨Nat.le_of_ble_eq_true rfl, Nat.le_of_ble_eq_true rfl⟩) ⟨pr_blind, pr_at hN hPc hK hDc⟩ rfl rfl hl.1 rfl (lv_room (Nat.le_of_ble_eq_true rfl)) dX5_pieceOf_16 ⟨Nat.le_of_ble_eq_true rfl, Nat.le_of_ble_eq_true rfl⟩) hP hD hS hA [] rfl (fun H locs hP hD hS => ?_)
    clear hPc hDc
    refine lv_if_ne (tgt := 26) hx hb dX5_pieceOf_19 (by decide) (fun c_2 => ?_) (fun c_2 => ?_)
    · have c_2 := bI_ne.mp c_2
      refine lv_iconst (v := 0) hx hb dX5_pieceOf_26 (by decide) ?_
      have hPc : va_P D vwCl (wMo k h th f asd sl kp sv sm tx ln dg) H := hP.sub [0, 1, 2, 3, 4, 5, 6] rfl
      have hDc : va_D A (wMo k h th f asd sl kp sv sm tx ln dg) := hD.sub [0, 1, 2, 3, 4, 5, 6] (by decide +kernel) rfl
      refine cl_i (va_runV (As := [.int 0]) (rest := []) ⟨hx, hb, hml, hown, hts⟩ (c_X5_holds l D k h th f asd sl kp sv sm tx ln dg 0 H.size) (cwV 1 hts gX5_pieceOf_X5_holds rfl rfl rfl (by decide +kernel) ⟨Nat.le_of_ble_eq_true rfl, Nat.le_of_ble_eq_true rfl⟩) ⟨pr_blind, va_recv hK hP (ci := 5) (q0 := 0) rfl rfl, pr_at hN hPc hK hDc⟩ rfl rfl hl.1 rfl (lv_room (Nat.le_of_ble_eq_true rfl)) dX5_pieceOf_27 ⟨Nat.le_of_ble_eq_true rfl, Nat.le_of_ble_eq_true rfl⟩) hP hD hS hA [0, 1, 2, 3, 4, 5, 6] [] ([]) [h 0, h 1, h 2, h 3, h 4, h 5, h 6] 7 rfl (wn := wMo k h 0 f asd sl kp sv sm tx ln dg) rfl rfl rfl rfl (by decide +kernel) rfl rfl (fun H locs hP hD hS => ?_)
      clear hPc hDc
      refine tp_e (y := 1) (by decide) ?_
      refine lv_if_eq (tgt := 42) hx hb dX5_pieceOf_30 (by decide) (fun c_3 => ?_) (fun c_3 => ?_)
      · exact absurd c_3 (by decide)
      · refine lv_aload_n hx hb dX5_pieceOf_33 rfl (lv_at hl 0 rfl) ?_
        refine lv_iload_n hx hb dX5_pieceOf_34 rfl (lv_at hl 1 rfl) ?_
        refine lv_iload_n hx hb dX5_pieceOf_35 rfl (lv_at hl 2 rfl) ?_
        have hPc : va_P D vwCl (wMo k h 0 f asd sl kp sv sm tx ln dg) H := hP.sub [0, 1, 2, 3, 4, 5, 6] rfl
        have hDc : va_D A (wMo k h 0 f asd sl kp sv sm tx ln dg) := hD.sub [0, 1, 2, 3, 4, 5, 6] (by decide +kernel) rfl
        refine cl_i0 (va_runV (As := [.int (nI q), .int 7]) (rest := []) ⟨hx, hb, hml, hown, hts⟩ (c_X5_property_7 l D k h 0 f asd sl kp sv sm tx ln dg q hq H.size) (cwV 2 hts gX5_pieceOf_X5_property rfl rfl rfl (by decide +kernel) ⟨Nat.le_of_ble_eq_true rfl, Nat.le_of_ble_eq_true rfl⟩) ⟨pr_blind, va_recv hK hP (ci := 5) (q0 := 0) rfl rfl, pr_at hN hPc hK hDc⟩ rfl rfl hl.1 rfl (lv_room (Nat.le_of_ble_eq_true rfl)) dX5_pieceOf_36 ⟨Nat.le_of_ble_eq_true rfl, Nat.le_of_ble_eq_true rfl⟩) hP hD hS hA [0, 1, 2, 3, 4, 5, 6] rfl (fun H locs hP hD hS => ?_)
        clear hPc hDc
        refine lv_goto (tgt := 43) hx hb dX5_pieceOf_39 (by decide) ?_
        subst hQ
        exact rt_i hx hb hr hlocks hS dX5_pieceOf_43 (hP) (rfl)
    · have c_2 := bI_eq.mp c_2
      exact absurd c_2 (by rw [(show inB 7 0 7 = true by decide)]; decide)
  · have c_1 := bI_eq.mp c_1
    exact absurd c_1 (by rw [(show inB (nI q) 0 8 = true from inB_n (a := 0) (b := 8) (by omega) (by omega) (by omega))]; decide)

set_option maxHeartbeats 1000000 in
set_option maxRecDepth 100000 in
theorem c_X5_pieceOf_x1 (l : Launch) (D : va_G) (k : Nat → ClassId) (h : Nat → Nat) (th : Int32) (f asd sl kp sv : Nat → Int32) (sm : Int32) (tx : Nat → Int32) (ln : Int32) (dg : Int64) (p0 p1 : Int32) (h1 : inB p0 0 8 = false) : MI l yX5_pieceOf wsX5_pieceOf ({ frames := 2, cells := 0, slots := 0, locals := 42 }) D k [.ref (h 0), .int p0, .int p1] (wMo k h th f asd sl kp sv sm tx ln dg) 0 (wMo k h 1 f asd sl kp sv sm tx ln dg) := by
  intro sz
  refine Met.ofW (cc := cX5_pieceOf) (maxL := 3) (ret := (some .int)) (by decide) rfl ?_
  intro p e s m args below meth c s₁ B hml hv
  obtain ⟨rfl, hN, hsz, hP, hK, hD0⟩ := hv
  have hx := B.exec
  have hb := B.bytes
  have hr := B.returns
  have hts := atoms_spec (ws := wsX5_pieceOf) B.pre
  have hown : s.vm.findClass RX5 = some m.cls := findClass_of_methodNamed B.named
  have hlocks := B.notSynchronized
  subst hsz
  have hD := hD0.self (sz := s.heap.size)
  generalize hAe : va_A (wMo k h th f asd sl kp sv sm tx ln dg) s.heap.size = A at hD ⊢
  have hA : ∀ q : Nat, s.heap.size ≤ q → A q := fun q h => by rw [← hAe]; exact Or.inr h
  have hS : va_S A s.heap s.heap [] := va_S.rf
  have hl := lv_entry ([.ref (h 0), .int p0, .int p1]) (n := 3) (Nat.le_of_ble_eq_true rfl)
  rw [lg_entry_eq]
  generalize (lg_sl ([.ref (h 0), .int p0, .int p1]) ++ List.replicate (3 - (lg_sl ([.ref (h 0), .int p0, .int p1])).length) Slot.unset).toArray = ls at hl ⊢
  have hl : lv_has ls 3 [(0, .ref (h 0)), (1, .int p0), (2, .int p1)] := hl
  obtain ⟨H, hHe⟩ : ∃ H, H = s.heap := ⟨_, rfl⟩
  have hP : va_P D vwCl (wMo k h th f asd sl kp sv sm tx ln dg) H := by rw [hHe]; exact hP
  have hS : va_S A s.heap H [] := by rw [hHe]; exact hS
  rw [← hHe]
  refine absQ (fun Q hQ => ?_)
  refine lv_aload_n hx hb dX5_pieceOf_0 rfl (lv_at hl 0 rfl) ?_
  refine lv_iload_n hx hb dX5_pieceOf_1 rfl (lv_at hl 1 rfl) ?_
  have hPc : va_P D vwCl ([]) H := hP.sub [] rfl
  have hDc : va_D A ([]) := hD.sub [] (by decide +kernel) rfl
  refine cl_i0 (va_runS (As := [.int p0]) (rest := [.ref (h 0)]) ⟨hx, hb, hml, hown, hts⟩ (c_X5_isPiece l D k p0 H.size) (va_cwS 1 hts gX5_pieceOf_X5_isPiece rfl rfl rfl (by decide +kernel) ⟨Nat.le_of_ble_eq_true rfl, Nat.le_of_ble_eq_true rfl⟩) ⟨pr_blind, pr_at hN hPc hK hDc⟩ rfl rfl hl.1 rfl (lv_room (Nat.le_of_ble_eq_true rfl)) dX5_pieceOf_2 ⟨Nat.le_of_ble_eq_true rfl, Nat.le_of_ble_eq_true rfl⟩) hP hD hS hA [] rfl (fun H locs hP hD hS => ?_)
  clear hPc hDc
  refine lv_if_ne (tgt := 12) hx hb dX5_pieceOf_5 (by decide) (fun c_1 => ?_) (fun c_1 => ?_)
  · have c_1 := bI_ne.mp c_1
    exact absurd c_1 (by rw [h1]; decide)
  · have c_1 := bI_eq.mp c_1
    refine lv_iconst (v := 1) hx hb dX5_pieceOf_8 (by decide) ?_
    refine lv_goto (tgt := 27) hx hb dX5_pieceOf_9 (by decide) ?_
    have hPc : va_P D vwCl (wMo k h th f asd sl kp sv sm tx ln dg) H := hP.sub [0, 1, 2, 3, 4, 5, 6] rfl
    have hDc : va_D A (wMo k h th f asd sl kp sv sm tx ln dg) := hD.sub [0, 1, 2, 3, 4, 5, 6] (by decide +kernel) rfl
    refine cl_i (va_runV (As := [.int 1]) (rest := []) ⟨hx, hb, hml, hown, hts⟩ (c_X5_holds l D k h th f asd sl kp sv sm tx ln dg 1 H.size) (cwV 1 hts gX5_pieceOf_X5_holds rfl rfl rfl (by decide +kernel) ⟨Nat.le_of_ble_eq_true rfl, Nat.le_of_ble_eq_true rfl⟩) ⟨pr_blind, va_recv hK hP (ci := 5) (q0 := 0) rfl rfl, pr_at hN hPc hK hDc⟩ rfl rfl hl.1 rfl (lv_room (Nat.le_of_ble_eq_true rfl)) dX5_pieceOf_27 ⟨Nat.le_of_ble_eq_true rfl, Nat.le_of_ble_eq_true rfl⟩) hP hD hS hA [0, 1, 2, 3, 4, 5, 6] [] ([]) [h 0, h 1, h 2, h 3, h 4, h 5, h 6] 7 rfl (wn := wMo k h 1 f asd sl kp sv sm tx ln dg) rfl rfl rfl rfl (by decide +kernel) rfl rfl (fun H locs hP hD hS => ?_)
    clear hPc hDc
    refine tp_e (y := 0) (by decide) ?_
    refine lv_if_eq (tgt := 42) hx hb dX5_pieceOf_30 (by decide) (fun c_2 => ?_) (fun c_2 => ?_)
    · refine lv_iconst (v := 0) hx hb dX5_pieceOf_42 (by decide) ?_
      subst hQ
      exact rt_i hx hb hr hlocks hS dX5_pieceOf_43 (hP) (rfl)
    · exact absurd c_2 (by decide)

set_option maxHeartbeats 1000000 in
set_option maxRecDepth 100000 in
theorem c_X5_pieceOf_x2 (l : Launch) (D : va_G) (k : Nat → ClassId) (h : Nat → Nat) (th : Int32) (f asd sl kp sv : Nat → Int32) (sm : Int32) (tx : Nat → Int32) (ln : Int32) (dg : Int64) (p0 p1 : Int32) (h1 : inB p0 0 8 = true) (h2 : inB p1 0 7 = false) : MI l yX5_pieceOf wsX5_pieceOf ({ frames := 2, cells := 0, slots := 0, locals := 42 }) D k [.ref (h 0), .int p0, .int p1] (wMo k h th f asd sl kp sv sm tx ln dg) 0 (wMo k h 2 f asd sl kp sv sm tx ln dg) := by
  intro sz
  refine Met.ofW (cc := cX5_pieceOf) (maxL := 3) (ret := (some .int)) (by decide) rfl ?_
  intro p e s m args below meth c s₁ B hml hv
  obtain ⟨rfl, hN, hsz, hP, hK, hD0⟩ := hv
  have hx := B.exec
  have hb := B.bytes
  have hr := B.returns
  have hts := atoms_spec (ws := wsX5_pieceOf) B.pre
  have hown : s.vm.findClass RX5 = some m.cls := findClass_of_methodNamed B.named
  have hlocks := B.notSynchronized
  subst hsz
  have hD := hD0.self (sz := s.heap.size)
  generalize hAe : va_A (wMo k h th f asd sl kp sv sm tx ln dg) s.heap.size = A at hD ⊢
  have hA : ∀ q : Nat, s.heap.size ≤ q → A q := fun q h => by rw [← hAe]; exact Or.inr h
  have hS : va_S A s.heap s.heap [] := va_S.rf
  have hl := lv_entry ([.ref (h 0), .int p0, .int p1]) (n := 3) (Nat.le_of_ble_eq_true rfl)
  rw [lg_entry_eq]
  generalize (lg_sl ([.ref (h 0), .int p0, .int p1]) ++ List.replicate (3 - (lg_sl ([.ref (h 0), .int p0, .int p1])).length) Slot.unset).toArray = ls at hl ⊢
  have hl : lv_has ls 3 [(0, .ref (h 0)), (1, .int p0), (2, .int p1)] := hl
  obtain ⟨H, hHe⟩ : ∃ H, H = s.heap := ⟨_, rfl⟩
  have hP : va_P D vwCl (wMo k h th f asd sl kp sv sm tx ln dg) H := by rw [hHe]; exact hP
  have hS : va_S A s.heap H [] := by rw [hHe]; exact hS
  rw [← hHe]
  refine absQ (fun Q hQ => ?_)
  refine lv_aload_n hx hb dX5_pieceOf_0 rfl (lv_at hl 0 rfl) ?_
  refine lv_iload_n hx hb dX5_pieceOf_1 rfl (lv_at hl 1 rfl) ?_
  have hPc : va_P D vwCl ([]) H := hP.sub [] rfl
  have hDc : va_D A ([]) := hD.sub [] (by decide +kernel) rfl
  refine cl_i0 (va_runS (As := [.int p0]) (rest := [.ref (h 0)]) ⟨hx, hb, hml, hown, hts⟩ (c_X5_isPiece l D k p0 H.size) (va_cwS 1 hts gX5_pieceOf_X5_isPiece rfl rfl rfl (by decide +kernel) ⟨Nat.le_of_ble_eq_true rfl, Nat.le_of_ble_eq_true rfl⟩) ⟨pr_blind, pr_at hN hPc hK hDc⟩ rfl rfl hl.1 rfl (lv_room (Nat.le_of_ble_eq_true rfl)) dX5_pieceOf_2 ⟨Nat.le_of_ble_eq_true rfl, Nat.le_of_ble_eq_true rfl⟩) hP hD hS hA [] rfl (fun H locs hP hD hS => ?_)
  clear hPc hDc
  refine lv_if_ne (tgt := 12) hx hb dX5_pieceOf_5 (by decide) (fun c_1 => ?_) (fun c_1 => ?_)
  · have c_1 := bI_ne.mp c_1
    refine lv_iload_n hx hb dX5_pieceOf_12 rfl (lv_at hl 2 rfl) ?_
    refine lv_iconst (v := 0) hx hb dX5_pieceOf_13 (by decide) ?_
    refine lv_bipush (v := 7) hx hb dX5_pieceOf_14 (by decide) ?_
    have hPc : va_P D vwCl ([]) H := hP.sub [] rfl
    have hDc : va_D A ([]) := hD.sub [] (by decide +kernel) rfl
    refine cl_i0 (va_runS (As := [.int p1, .int 0, .int 7]) (rest := [.ref (h 0)]) ⟨hx, hb, hml, hown, hts⟩ (c_X5_in l D k p1 0 7 H.size) (va_cwS 3 hts gX5_pieceOf_X5_in rfl rfl rfl (by decide +kernel) ⟨Nat.le_of_ble_eq_true rfl, Nat.le_of_ble_eq_true rfl⟩) ⟨pr_blind, pr_at hN hPc hK hDc⟩ rfl rfl hl.1 rfl (lv_room (Nat.le_of_ble_eq_true rfl)) dX5_pieceOf_16 ⟨Nat.le_of_ble_eq_true rfl, Nat.le_of_ble_eq_true rfl⟩) hP hD hS hA [] rfl (fun H locs hP hD hS => ?_)
    clear hPc hDc
    refine lv_if_ne (tgt := 26) hx hb dX5_pieceOf_19 (by decide) (fun c_2 => ?_) (fun c_2 => ?_)
    · have c_2 := bI_ne.mp c_2
      exact absurd c_2 (by rw [h2]; decide)
    · have c_2 := bI_eq.mp c_2
      refine lv_iconst (v := 2) hx hb dX5_pieceOf_22 (by decide) ?_
      refine lv_goto (tgt := 27) hx hb dX5_pieceOf_23 (by decide) ?_
      have hPc : va_P D vwCl (wMo k h th f asd sl kp sv sm tx ln dg) H := hP.sub [0, 1, 2, 3, 4, 5, 6] rfl
      have hDc : va_D A (wMo k h th f asd sl kp sv sm tx ln dg) := hD.sub [0, 1, 2, 3, 4, 5, 6] (by decide +kernel) rfl
      refine cl_i (va_runV (As := [.int 2]) (rest := []) ⟨hx, hb, hml, hown, hts⟩ (c_X5_holds l D k h th f asd sl kp sv sm tx ln dg 2 H.size) (cwV 1 hts gX5_pieceOf_X5_holds rfl rfl rfl (by decide +kernel) ⟨Nat.le_of_ble_eq_true rfl, Nat.le_of_ble_eq_true rfl⟩) ⟨pr_blind, va_recv hK hP (ci := 5) (q0 := 0) rfl rfl, pr_at hN hPc hK hDc⟩ rfl rfl hl.1 rfl (lv_room (Nat.le_of_ble_eq_true rfl)) dX5_pieceOf_27 ⟨Nat.le_of_ble_eq_true rfl, Nat.le_of_ble_eq_true rfl⟩) hP hD hS hA [0, 1, 2, 3, 4, 5, 6] [] ([]) [h 0, h 1, h 2, h 3, h 4, h 5, h 6] 7 rfl (wn := wMo k h 2 f asd sl kp sv sm tx ln dg) rfl rfl rfl rfl (by decide +kernel) rfl rfl (fun H locs hP hD hS => ?_)
      clear hPc hDc
      refine tp_e (y := 0) (by decide) ?_
      refine lv_if_eq (tgt := 42) hx hb dX5_pieceOf_30 (by decide) (fun c_3 => ?_) (fun c_3 => ?_)
      · refine lv_iconst (v := 0) hx hb dX5_pieceOf_42 (by decide) ?_
        subst hQ
        exact rt_i hx hb hr hlocks hS dX5_pieceOf_43 (hP) (rfl)
      · exact absurd c_3 (by decide)
  · have c_1 := bI_eq.mp c_1
    exact absurd c_1 (by rw [h1]; decide)

set_option maxHeartbeats 1000000 in
set_option maxRecDepth 100000 in
theorem c_X5_isJoined (l : Launch) (D : va_G) (k : Nat → ClassId) (h : Nat → Nat) (th : Int32) (f asd sl kp sv : Nat → Int32) (sm : Int32) (tx : Nat → Int32) (ln : Int32) (dg : Int64) (q z : Nat) (hq : q < 9) (hz : z < 9) : MI l yX5_isJoined wsX5_isJoined ({ frames := 2, cells := 0, slots := 0, locals := 42 }) D k [.ref (h 0), .int (nI q), .int (nI z)] (wMo k h th f asd sl kp sv sm tx ln dg) (bitv (f (27 + q)) (nI z)) (wMo k h 0 f asd sl kp sv sm tx ln dg) := by
  intro sz
  refine Met.ofW (cc := cX5_isJoined) (maxL := 3) (ret := (some .int)) (by decide) rfl ?_
  intro p e s m args below meth c s₁ B hml hv
  obtain ⟨rfl, hN, hsz, hP, hK, hD0⟩ := hv
  have hx := B.exec
  have hb := B.bytes
  have hr := B.returns
  have hts := atoms_spec (ws := wsX5_isJoined) B.pre
  have hown : s.vm.findClass RX5 = some m.cls := findClass_of_methodNamed B.named
  have hlocks := B.notSynchronized
  subst hsz
  have hD := hD0.self (sz := s.heap.size)
  generalize hAe : va_A (wMo k h th f asd sl kp sv sm tx ln dg) s.heap.size = A at hD ⊢
  have hA : ∀ q : Nat, s.heap.size ≤ q → A q := fun q h => by rw [← hAe]; exact Or.inr h
  have hS : va_S A s.heap s.heap [] := va_S.rf
  have hl := lv_entry ([.ref (h 0), .int (nI q), .int (nI z)]) (n := 3) (Nat.le_of_ble_eq_true rfl)
  rw [lg_entry_eq]
  generalize (lg_sl ([.ref (h 0), .int (nI q), .int (nI z)]) ++ List.replicate (3 - (lg_sl ([.ref (h 0), .int (nI q), .int (nI z)])).length) Slot.unset).toArray = ls at hl ⊢
  have hl : lv_has ls 3 [(0, .ref (h 0)), (1, .int (nI q)), (2, .int (nI z))] := hl
  obtain ⟨H, hHe⟩ : ∃ H, H = s.heap := ⟨_, rfl⟩
  have hP : va_P D vwCl (wMo k h th f asd sl kp sv sm tx ln dg) H := by rw [hHe]; exact hP
  have hS : va_S A s.heap H [] := by rw [hHe]; exact hS
  rw [← hHe]
  refine absQ (fun Q hQ => ?_)
  refine lv_aload_n hx hb dX5_isJoined_0 rfl (lv_at hl 0 rfl) ?_
  refine lv_iload_n hx hb dX5_isJoined_1 rfl (lv_at hl 1 rfl) ?_
  have hPc : va_P D vwCl ([]) H := hP.sub [] rfl
  have hDc : va_D A ([]) := hD.sub [] (by decide +kernel) rfl
  refine cl_i0 (va_runS (As := [.int (nI q)]) (rest := [.ref (h 0)]) ⟨hx, hb, hml, hown, hts⟩ (c_X5_isPiece l D k (nI q) H.size) (va_cwS 1 hts gX5_isJoined_X5_isPiece rfl rfl rfl (by decide +kernel) ⟨Nat.le_of_ble_eq_true rfl, Nat.le_of_ble_eq_true rfl⟩) ⟨pr_blind, pr_at hN hPc hK hDc⟩ rfl rfl hl.1 rfl (lv_room (Nat.le_of_ble_eq_true rfl)) dX5_isJoined_2 ⟨Nat.le_of_ble_eq_true rfl, Nat.le_of_ble_eq_true rfl⟩) hP hD hS hA [] rfl (fun H locs hP hD hS => ?_)
  clear hPc hDc
  refine lv_if_eq (tgt := 19) hx hb dX5_isJoined_5 (by decide) (fun c_1 => ?_) (fun c_1 => ?_)
  · have c_1 := bI_eq.mp c_1
    exact absurd c_1 (by rw [(show inB (nI q) 0 8 = true from inB_n (a := 0) (b := 8) (by omega) (by omega) (by omega))]; decide)
  · have c_1 := bI_ne.mp c_1
    refine lv_iload_n hx hb dX5_isJoined_8 rfl (lv_at hl 2 rfl) ?_
    have hPc : va_P D vwCl ([]) H := hP.sub [] rfl
    have hDc : va_D A ([]) := hD.sub [] (by decide +kernel) rfl
    refine cl_i0 (va_runS (As := [.int (nI z)]) (rest := [.ref (h 0)]) ⟨hx, hb, hml, hown, hts⟩ (c_X5_isPiece l D k (nI z) H.size) (va_cwS 1 hts gX5_isJoined_X5_isPiece rfl rfl rfl (by decide +kernel) ⟨Nat.le_of_ble_eq_true rfl, Nat.le_of_ble_eq_true rfl⟩) ⟨pr_blind, pr_at hN hPc hK hDc⟩ rfl rfl hl.1 rfl (lv_room (Nat.le_of_ble_eq_true rfl)) dX5_isJoined_9 ⟨Nat.le_of_ble_eq_true rfl, Nat.le_of_ble_eq_true rfl⟩) hP hD hS hA [] rfl (fun H locs hP hD hS => ?_)
    clear hPc hDc
    refine lv_if_eq (tgt := 19) hx hb dX5_isJoined_12 (by decide) (fun c_2 => ?_) (fun c_2 => ?_)
    · have c_2 := bI_eq.mp c_2
      exact absurd c_2 (by rw [(show inB (nI z) 0 8 = true from inB_n (a := 0) (b := 8) (by omega) (by omega) (by omega))]; decide)
    · have c_2 := bI_ne.mp c_2
      refine lv_iconst (v := 0) hx hb dX5_isJoined_15 (by decide) ?_
      refine lv_goto (tgt := 20) hx hb dX5_isJoined_16 (by decide) ?_
      have hPc : va_P D vwCl (wMo k h th f asd sl kp sv sm tx ln dg) H := hP.sub [0, 1, 2, 3, 4, 5, 6] rfl
      have hDc : va_D A (wMo k h th f asd sl kp sv sm tx ln dg) := hD.sub [0, 1, 2, 3, 4, 5, 6] (by decide +kernel) rfl
      refine cl_i (va_runV (As := [.int 0]) (rest := []) ⟨hx, hb, hml, hown, hts⟩ (c_X5_holds l D k h th f asd sl kp sv sm tx ln dg 0 H.size) (cwV 1 hts gX5_isJoined_X5_holds rfl rfl rfl (by decide +kernel) ⟨Nat.le_of_ble_eq_true rfl, Nat.le_of_ble_eq_true rfl⟩) ⟨pr_blind, va_recv hK hP (ci := 5) (q0 := 0) rfl rfl, pr_at hN hPc hK hDc⟩ rfl rfl hl.1 rfl (lv_room (Nat.le_of_ble_eq_true rfl)) dX5_isJoined_20 ⟨Nat.le_of_ble_eq_true rfl, Nat.le_of_ble_eq_true rfl⟩) hP hD hS hA [0, 1, 2, 3, 4, 5, 6] [] ([]) [h 0, h 1, h 2, h 3, h 4, h 5, h 6] 7 rfl (wn := wMo k h 0 f asd sl kp sv sm tx ln dg) rfl rfl rfl rfl (by decide +kernel) rfl rfl (fun H locs hP hD hS => ?_)
      clear hPc hDc
      refine tp_e (y := 1) (by decide) ?_
      refine lv_if_eq (tgt := 42) hx hb dX5_isJoined_23 (by decide) (fun c_3 => ?_) (fun c_3 => ?_)
      · exact absurd c_3 (by decide)
      · refine lv_aload_n hx hb dX5_isJoined_26 rfl (lv_at hl 0 rfl) ?_
        refine va_get (D := D) (ci := 5) (v := .ref (h 1)) (C := RX5) (T := TX5) (N := 10) hx hb hts (fun _ h9 => (List.mem_cons_of_mem _ (List.mem_append_right _ h9))) hown hK hP 0 rfl rfl 1 (by decide) (hts _ (List.mem_of_getElem? (i := 1) rfl)) (fun _ h9 => h9) rfl dX5_isJoined_27 ?_
        refine lv_bipush (v := 27) hx hb dX5_isJoined_30 (by decide) ?_
        refine lv_iload_n hx hb dX5_isJoined_32 rfl (lv_at hl 1 rfl) ?_
        refine lv_iadd hx hb dX5_isJoined_33 ?_
        refine tp_e (y := (nI (27 + q))) (nI_add 27 q) ?_
        refine ar_ld hx hb hK hP 1 rfl (27 + q) (nI_clamp (by omega)) (vp_in_nI (by omega) (by omega)) dX5_isJoined_34 ?_
        refine lv_iload_n hx hb dX5_isJoined_35 rfl (lv_at hl 2 rfl) ?_
        refine lv_ishr hx hb dX5_isJoined_36 ?_
        refine lv_iconst (v := 1) hx hb dX5_isJoined_37 (by decide) ?_
        refine lv_iand hx hb dX5_isJoined_38 ?_
        refine lv_goto (tgt := 43) hx hb dX5_isJoined_39 (by decide) ?_
        subst hQ
        exact rt_i hx hb hr hlocks hS dX5_isJoined_43 (hP) (rfl)

set_option maxHeartbeats 1000000 in
set_option maxRecDepth 100000 in
theorem c_X5_isJoined_x1a (l : Launch) (D : va_G) (k : Nat → ClassId) (h : Nat → Nat) (th : Int32) (f asd sl kp sv : Nat → Int32) (sm : Int32) (tx : Nat → Int32) (ln : Int32) (dg : Int64) (p0 p1 : Int32) (h1 : inB p0 0 8 = false) : MI l yX5_isJoined wsX5_isJoined ({ frames := 2, cells := 0, slots := 0, locals := 42 }) D k [.ref (h 0), .int p0, .int p1] (wMo k h th f asd sl kp sv sm tx ln dg) 0 (wMo k h 1 f asd sl kp sv sm tx ln dg) := by
  intro sz
  refine Met.ofW (cc := cX5_isJoined) (maxL := 3) (ret := (some .int)) (by decide) rfl ?_
  intro p e s m args below meth c s₁ B hml hv
  obtain ⟨rfl, hN, hsz, hP, hK, hD0⟩ := hv
  have hx := B.exec
  have hb := B.bytes
  have hr := B.returns
  have hts := atoms_spec (ws := wsX5_isJoined) B.pre
  have hown : s.vm.findClass RX5 = some m.cls := findClass_of_methodNamed B.named
  have hlocks := B.notSynchronized
  subst hsz
  have hD := hD0.self (sz := s.heap.size)
  generalize hAe : va_A (wMo k h th f asd sl kp sv sm tx ln dg) s.heap.size = A at hD ⊢
  have hA : ∀ q : Nat, s.heap.size ≤ q → A q := fun q h => by rw [← hAe]; exact Or.inr h
  have hS : va_S A s.heap s.heap [] := va_S.rf
  have hl := lv_entry ([.ref (h 0), .int p0, .int p1]) (n := 3) (Nat.le_of_ble_eq_true rfl)
  rw [lg_entry_eq]
  generalize (lg_sl ([.ref (h 0), .int p0, .int p1]) ++ List.replicate (3 - (lg_sl ([.ref (h 0), .int p0, .int p1])).length) Slot.unset).toArray = ls at hl ⊢
  have hl : lv_has ls 3 [(0, .ref (h 0)), (1, .int p0), (2, .int p1)] := hl
  obtain ⟨H, hHe⟩ : ∃ H, H = s.heap := ⟨_, rfl⟩
  have hP : va_P D vwCl (wMo k h th f asd sl kp sv sm tx ln dg) H := by rw [hHe]; exact hP
  have hS : va_S A s.heap H [] := by rw [hHe]; exact hS
  rw [← hHe]
  refine absQ (fun Q hQ => ?_)
  refine lv_aload_n hx hb dX5_isJoined_0 rfl (lv_at hl 0 rfl) ?_
  refine lv_iload_n hx hb dX5_isJoined_1 rfl (lv_at hl 1 rfl) ?_
  have hPc : va_P D vwCl ([]) H := hP.sub [] rfl
  have hDc : va_D A ([]) := hD.sub [] (by decide +kernel) rfl
  refine cl_i0 (va_runS (As := [.int p0]) (rest := [.ref (h 0)]) ⟨hx, hb, hml, hown, hts⟩ (c_X5_isPiece l D k p0 H.size) (va_cwS 1 hts gX5_isJoined_X5_isPiece rfl rfl rfl (by decide +kernel) ⟨Nat.le_of_ble_eq_true rfl, Nat.le_of_ble_eq_true rfl⟩) ⟨pr_blind, pr_at hN hPc hK hDc⟩ rfl rfl hl.1 rfl (lv_room (Nat.le_of_ble_eq_true rfl)) dX5_isJoined_2 ⟨Nat.le_of_ble_eq_true rfl, Nat.le_of_ble_eq_true rfl⟩) hP hD hS hA [] rfl (fun H locs hP hD hS => ?_)
  clear hPc hDc
  refine lv_if_eq (tgt := 19) hx hb dX5_isJoined_5 (by decide) (fun c_1 => ?_) (fun c_1 => ?_)
  · have c_1 := bI_eq.mp c_1
    refine lv_iconst (v := 1) hx hb dX5_isJoined_19 (by decide) ?_
    have hPc : va_P D vwCl (wMo k h th f asd sl kp sv sm tx ln dg) H := hP.sub [0, 1, 2, 3, 4, 5, 6] rfl
    have hDc : va_D A (wMo k h th f asd sl kp sv sm tx ln dg) := hD.sub [0, 1, 2, 3, 4, 5, 6] (by decide +kernel) rfl
    refine cl_i (va_runV (As := [.int 1]) (rest := []) ⟨hx, hb, hml, hown, hts⟩ (c_X5_holds l D k h th f asd sl kp sv sm tx ln dg 1 H.size) (cwV 1 hts gX5_isJoined_X5_holds rfl rfl rfl (by decide +kernel) ⟨Nat.le_of_ble_eq_true rfl, Nat.le_of_ble_eq_true rfl⟩) ⟨pr_blind, va_recv hK hP (ci := 5) (q0 := 0) rfl rfl, pr_at hN hPc hK hDc⟩ rfl rfl hl.1 rfl (lv_room (Nat.le_of_ble_eq_true rfl)) dX5_isJoined_20 ⟨Nat.le_of_ble_eq_true rfl, Nat.le_of_ble_eq_true rfl⟩) hP hD hS hA [0, 1, 2, 3, 4, 5, 6] [] ([]) [h 0, h 1, h 2, h 3, h 4, h 5, h 6] 7 rfl (wn := wMo k h 1 f asd sl kp sv sm tx ln dg) rfl rfl rfl rfl (by decide +kernel) rfl rfl (fun H locs hP hD hS => ?_)
    clear hPc hDc
    refine tp_e (y := 0) (by decide) ?_
    refine lv_if_eq (tgt := 42) hx hb dX5_isJoined_23 (by decide) (fun c_2 => ?_) (fun c_2 => ?_)
    · refine lv_iconst (v := 0) hx hb dX5_isJoined_42 (by decide) ?_
      subst hQ
      exact rt_i hx hb hr hlocks hS dX5_isJoined_43 (hP) (rfl)
    · exact absurd c_2 (by decide)
  · have c_1 := bI_ne.mp c_1
    exact absurd c_1 (by rw [h1]; decide)

set_option maxHeartbeats 1000000 in
set_option maxRecDepth 100000 in
theorem c_X5_isJoined_x1b (l : Launch) (D : va_G) (k : Nat → ClassId) (h : Nat → Nat) (th : Int32) (f asd sl kp sv : Nat → Int32) (sm : Int32) (tx : Nat → Int32) (ln : Int32) (dg : Int64) (p0 p1 : Int32) (h1 : inB p0 0 8 = true) (h2 : inB p1 0 8 = false) : MI l yX5_isJoined wsX5_isJoined ({ frames := 2, cells := 0, slots := 0, locals := 42 }) D k [.ref (h 0), .int p0, .int p1] (wMo k h th f asd sl kp sv sm tx ln dg) 0 (wMo k h 1 f asd sl kp sv sm tx ln dg) := by
  intro sz
  refine Met.ofW (cc := cX5_isJoined) (maxL := 3) (ret := (some .int)) (by decide) rfl ?_
  intro p e s m args below meth c s₁ B hml hv
  obtain ⟨rfl, hN, hsz, hP, hK, hD0⟩ := hv
  have hx := B.exec
  have hb := B.bytes
  have hr := B.returns
  have hts := atoms_spec (ws := wsX5_isJoined) B.pre
  have hown : s.vm.findClass RX5 = some m.cls := findClass_of_methodNamed B.named
  have hlocks := B.notSynchronized
  subst hsz
  have hD := hD0.self (sz := s.heap.size)
  generalize hAe : va_A (wMo k h th f asd sl kp sv sm tx ln dg) s.heap.size = A at hD ⊢
  have hA : ∀ q : Nat, s.heap.size ≤ q → A q := fun q h => by rw [← hAe]; exact Or.inr h
  have hS : va_S A s.heap s.heap [] := va_S.rf
  have hl := lv_entry ([.ref (h 0), .int p0, .int p1]) (n := 3) (Nat.le_of_ble_eq_true rfl)
  rw [lg_entry_eq]
  generalize (lg_sl ([.ref (h 0), .int p0, .int p1]) ++ List.replicate (3 - (lg_sl ([.ref (h 0), .int p0, .int p1])).length) Slot.unset).toArray = ls at hl ⊢
  have hl : lv_has ls 3 [(0, .ref (h 0)), (1, .int p0), (2, .int p1)] := hl
  obtain ⟨H, hHe⟩ : ∃ H, H = s.heap := ⟨_, rfl⟩
  have hP : va_P D vwCl (wMo k h th f asd sl kp sv sm tx ln dg) H := by rw [hHe]; exact hP
  have hS : va_S A s.heap H [] := by rw [hHe]; exact hS
  rw [← hHe]
  refine absQ (fun Q hQ => ?_)
  refine lv_aload_n hx hb dX5_isJoined_0 rfl (lv_at hl 0 rfl) ?_
  refine lv_iload_n hx hb dX5_isJoined_1 rfl (lv_at hl 1 rfl) ?_
  have hPc : va_P D vwCl ([]) H := hP.sub [] rfl
  have hDc : va_D A ([]) := hD.sub [] (by decide +kernel) rfl
  refine cl_i0 (va_runS (As := [.int p0]) (rest := [.ref (h 0)]) ⟨hx, hb, hml, hown, hts⟩ (c_X5_isPiece l D k p0 H.size) (va_cwS 1 hts gX5_isJoined_X5_isPiece rfl rfl rfl (by decide +kernel) ⟨Nat.le_of_ble_eq_true rfl, Nat.le_of_ble_eq_true rfl⟩) ⟨pr_blind, pr_at hN hPc hK hDc⟩ rfl rfl hl.1 rfl (lv_room (Nat.le_of_ble_eq_true rfl)) dX5_isJoined_2 ⟨Nat.le_of_ble_eq_true rfl, Nat.le_of_ble_eq_true rfl⟩) hP hD hS hA [] rfl (fun H locs hP hD hS => ?_)
  clear hPc hDc
  refine lv_if_eq (tgt := 19) hx hb dX5_isJoined_5 (by decide) (fun c_1 => ?_) (fun c_1 => ?_)
  · have c_1 := bI_eq.mp c_1
    exact absurd c_1 (by rw [h1]; decide)
  · have c_1 := bI_ne.mp c_1
    refine lv_iload_n hx hb dX5_isJoined_8 rfl (lv_at hl 2 rfl) ?_
    have hPc : va_P D vwCl ([]) H := hP.sub [] rfl
    have hDc : va_D A ([]) := hD.sub [] (by decide +kernel) rfl
    refine cl_i0 (va_runS (As := [.int p1]) (rest := [.ref (h 0)]) ⟨hx, hb, hml, hown, hts⟩ (c_X5_isPiece l D k p1 H.size) (va_cwS 1 hts gX5_isJoined_X5_isPiece rfl rfl rfl (by decide +kernel) ⟨Nat.le_of_ble_eq_true rfl, Nat.le_of_ble_eq_true rfl⟩) ⟨pr_blind, pr_at hN hPc hK hDc⟩ rfl rfl hl.1 rfl (lv_room (Nat.le_of_ble_eq_true rfl)) dX5_isJoined_9 ⟨Nat.le_of_ble_eq_true rfl, Nat.le_of_ble_eq_true rfl⟩) hP hD hS hA [] rfl (fun H locs hP hD hS => ?_)
    clear hPc hDc
    refine lv_if_eq (tgt := 19) hx hb dX5_isJoined_12 (by decide) (fun c_2 => ?_) (fun c_2 => ?_)
    · have c_2 := bI_eq.mp c_2
      refine lv_iconst (v := 1) hx hb dX5_isJoined_19 (by decide) ?_
      have hPc : va_P D vwCl (wMo k h th f asd sl kp sv sm tx ln dg) H := hP.sub [0, 1, 2, 3, 4, 5, 6] rfl
      have hDc : va_D A (wMo k h th f asd sl kp sv sm tx ln dg) := hD.sub [0, 1, 2, 3, 4, 5, 6] (by decide +kernel) rfl
      refine cl_i (va_runV (As := [.int 1]) (rest := []) ⟨hx, hb, hml, hown, hts⟩ (c_X5_holds l D k h th f asd sl kp sv sm tx ln dg 1 H.size) (cwV 1 hts gX5_isJoined_X5_holds rfl rfl rfl (by decide +kernel) ⟨Nat.le_of_ble_eq_true rfl, Nat.le_of_ble_eq_true rfl⟩) ⟨pr_blind, va_recv hK hP (ci := 5) (q0 := 0) rfl rfl, pr_at hN hPc hK hDc⟩ rfl rfl hl.1 rfl (lv_room (Nat.le_of_ble_eq_true rfl)) dX5_isJoined_20 ⟨Nat.le_of_ble_eq_true rfl, Nat.le_of_ble_eq_true rfl⟩) hP hD hS hA [0, 1, 2, 3, 4, 5, 6] [] ([]) [h 0, h 1, h 2, h 3, h 4, h 5, h 6] 7 rfl (wn := wMo k h 1 f asd sl kp sv sm tx ln dg) rfl rfl rfl rfl (by decide +kernel) rfl rfl (fun H locs hP hD hS => ?_)
      clear hPc hDc
      refine tp_e (y := 0) (by decide) ?_
      refine lv_if_eq (tgt := 42) hx hb dX5_isJoined_23 (by decide) (fun c_3 => ?_) (fun c_3 => ?_)
      · refine lv_iconst (v := 0) hx hb dX5_isJoined_42 (by decide) ?_
        subst hQ
        exact rt_i hx hb hr hlocks hS dX5_isJoined_43 (hP) (rfl)
      · exact absurd c_3 (by decide)
    · have c_2 := bI_ne.mp c_2
      exact absurd c_2 (by rw [h2]; decide)
