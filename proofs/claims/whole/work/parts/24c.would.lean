set_option maxHeartbeats 1000000 in
set_option maxRecDepth 100000 in
theorem c_X5_heaviest_0 (l : Launch) (D : va_G) (k : Nat → ClassId) (h : Nat → Nat) (th : Int32) (f asd sl kp sv : Nat → Int32) (sm : Int32) (tx : Nat → Int32) (ln : Int32) (dg : Int64)  : MI l yX5_heaviest wsX5_heaviest ({ frames := 4, cells := 0, slots := 0, locals := 91 }) D k [.ref (h 0), .int 0] (wMo k h th f asd sl kp sv sm tx ln dg) (hyF f false) (wMo k h 0 f asd sl kp sv sm tx ln dg) := by
  intro sz
  refine Met.ofW (cc := cX5_heaviest) (maxL := 2) (ret := (some .int)) (by decide) rfl ?_
  intro p e s m args below meth c s₁ B hml hv
  obtain ⟨rfl, hN, hsz, hP, hK, hD0⟩ := hv
  have hx := B.exec
  have hb := B.bytes
  have hr := B.returns
  have hts := atoms_spec (ws := wsX5_heaviest) B.pre
  have hown : s.vm.findClass RX5 = some m.cls := findClass_of_methodNamed B.named
  have hlocks := B.notSynchronized
  subst hsz
  have hD := hD0.self (sz := s.heap.size)
  generalize hAe : va_A (wMo k h th f asd sl kp sv sm tx ln dg) s.heap.size = A at hD ⊢
  have hA : ∀ q : Nat, s.heap.size ≤ q → A q := fun q h => by rw [← hAe]; exact Or.inr h
  have hS : va_S A s.heap s.heap [] := va_S.rf
  have hl := lv_entry ([.ref (h 0), .int 0]) (n := 2) (Nat.le_of_ble_eq_true rfl)
  rw [lg_entry_eq]
  generalize (lg_sl ([.ref (h 0), .int 0]) ++ List.replicate (2 - (lg_sl ([.ref (h 0), .int 0])).length) Slot.unset).toArray = ls at hl ⊢
  have hl : lv_has ls 2 [(0, .ref (h 0)), (1, .int 0)] := hl
  obtain ⟨H, hHe⟩ : ∃ H, H = s.heap := ⟨_, rfl⟩
  have hP : va_P D vwCl (wMo k h th f asd sl kp sv sm tx ln dg) H := by rw [hHe]; exact hP
  have hS : va_S A s.heap H [] := by rw [hHe]; exact hS
  rw [← hHe]
  refine absQ (fun Q hQ => ?_)
  refine lv_aload_n hx hb dX5_heaviest_0 rfl (lv_at hl 0 rfl) ?_
  refine lv_iload_n hx hb dX5_heaviest_1 rfl (lv_at hl 1 rfl) ?_
  refine lv_iconst (v := 0) hx hb dX5_heaviest_2 (by decide) ?_
  refine lv_iconst (v := 1) hx hb dX5_heaviest_3 (by decide) ?_
  have hPc : va_P D vwCl ([]) H := hP.sub [] rfl
  have hDc : va_D A ([]) := hD.sub [] (by decide +kernel) rfl
  refine cl_i0 (va_runS (As := [.int 0, .int 0, .int 1]) (rest := [.ref (h 0)]) ⟨hx, hb, hml, hown, hts⟩ (c_X5_in l D k 0 0 1 H.size) (va_cwS 3 hts gX5_heaviest_X5_in rfl rfl rfl (by decide +kernel) ⟨Nat.le_of_ble_eq_true rfl, Nat.le_of_ble_eq_true rfl⟩) ⟨pr_blind, pr_at hN hPc hK hDc⟩ rfl rfl hl.1 rfl (lv_room (Nat.le_of_ble_eq_true rfl)) dX5_heaviest_4 ⟨Nat.le_of_ble_eq_true rfl, Nat.le_of_ble_eq_true rfl⟩) hP hD hS hA [] rfl (fun H locs hP hD hS => ?_)
  clear hPc hDc
  refine lv_if_eq (tgt := 14) hx hb dX5_heaviest_7 (by decide) (fun c_1 => ?_) (fun c_1 => ?_)
  · have c_1 := bI_eq.mp c_1
    exact absurd c_1 (by rw [(show inB 0 0 1 = true by decide)]; decide)
  · have c_1 := bI_ne.mp c_1
    refine lv_iconst (v := 0) hx hb dX5_heaviest_10 (by decide) ?_
    refine lv_goto (tgt := 15) hx hb dX5_heaviest_11 (by decide) ?_
    have hPc : va_P D vwCl (wMo k h th f asd sl kp sv sm tx ln dg) H := hP.sub [0, 1, 2, 3, 4, 5, 6] rfl
    have hDc : va_D A (wMo k h th f asd sl kp sv sm tx ln dg) := hD.sub [0, 1, 2, 3, 4, 5, 6] (by decide +kernel) rfl
    refine cl_i (va_runV (As := [.int 0]) (rest := []) ⟨hx, hb, hml, hown, hts⟩ (c_X5_holds l D k h th f asd sl kp sv sm tx ln dg 0 H.size) (cwV 1 hts gX5_heaviest_X5_holds rfl rfl rfl (by decide +kernel) ⟨Nat.le_of_ble_eq_true rfl, Nat.le_of_ble_eq_true rfl⟩) ⟨pr_blind, va_recv hK hP (ci := 5) (q0 := 0) rfl rfl, pr_at hN hPc hK hDc⟩ rfl rfl hl.1 rfl (lv_room (Nat.le_of_ble_eq_true rfl)) dX5_heaviest_15 ⟨Nat.le_of_ble_eq_true rfl, Nat.le_of_ble_eq_true rfl⟩) hP hD hS hA [0, 1, 2, 3, 4, 5, 6] [] ([]) [h 0, h 1, h 2, h 3, h 4, h 5, h 6] 7 rfl (wn := wMo k h 0 f asd sl kp sv sm tx ln dg) rfl rfl rfl rfl (by decide +kernel) rfl rfl (fun H locs hP hD hS => ?_)
    clear hPc hDc
    refine tp_e (y := 1) (by decide) ?_
    refine lv_if_eq (tgt := 29) hx hb dX5_heaviest_18 (by decide) (fun c_2 => ?_) (fun c_2 => ?_)
    · exact absurd c_2 (by decide)
    · refine lv_aload_n hx hb dX5_heaviest_21 rfl (lv_at hl 0 rfl) ?_
      refine lv_iload_n hx hb dX5_heaviest_22 rfl (lv_at hl 1 rfl) ?_
      have hPc : va_P D vwCl (wMo k h 0 f asd sl kp sv sm tx ln dg) H := hP.sub [0, 1, 2, 3, 4, 5, 6] rfl
      have hDc : va_D A (wMo k h 0 f asd sl kp sv sm tx ln dg) := hD.sub [0, 1, 2, 3, 4, 5, 6] (by decide +kernel) rfl
      refine cl_i0 (va_runV (As := [.int 0]) (rest := []) ⟨hx, hb, hml, hown, hts⟩ (c_X5_heavy_0 l D k h 0 f asd sl kp sv sm tx ln dg H.size) (cwV 1 hts gX5_heaviest_X5_heavy rfl rfl rfl (by decide +kernel) ⟨Nat.le_of_ble_eq_true rfl, Nat.le_of_ble_eq_true rfl⟩) ⟨pr_blind, va_recv hK hP (ci := 5) (q0 := 0) rfl rfl, pr_at hN hPc hK hDc⟩ rfl rfl hl.1 rfl (lv_room (Nat.le_of_ble_eq_true rfl)) dX5_heaviest_23 ⟨Nat.le_of_ble_eq_true rfl, Nat.le_of_ble_eq_true rfl⟩) hP hD hS hA [0, 1, 2, 3, 4, 5, 6] rfl (fun H locs hP hD hS => ?_)
      clear hPc hDc
      refine lv_goto (tgt := 30) hx hb dX5_heaviest_26 (by decide) ?_
      subst hQ
      exact rt_i hx hb hr hlocks hS dX5_heaviest_30 (hP) (rfl)

set_option maxHeartbeats 1000000 in
set_option maxRecDepth 100000 in
theorem c_X5_heaviest_1 (l : Launch) (D : va_G) (k : Nat → ClassId) (h : Nat → Nat) (th : Int32) (f asd sl kp sv : Nat → Int32) (sm : Int32) (tx : Nat → Int32) (ln : Int32) (dg : Int64)  : MI l yX5_heaviest wsX5_heaviest ({ frames := 4, cells := 0, slots := 0, locals := 91 }) D k [.ref (h 0), .int 1] (wMo k h th f asd sl kp sv sm tx ln dg) (hyF f true) (wMo k h 0 f asd sl kp sv sm tx ln dg) := by
  intro sz
  refine Met.ofW (cc := cX5_heaviest) (maxL := 2) (ret := (some .int)) (by decide) rfl ?_
  intro p e s m args below meth c s₁ B hml hv
  obtain ⟨rfl, hN, hsz, hP, hK, hD0⟩ := hv
  have hx := B.exec
  have hb := B.bytes
  have hr := B.returns
  have hts := atoms_spec (ws := wsX5_heaviest) B.pre
  have hown : s.vm.findClass RX5 = some m.cls := findClass_of_methodNamed B.named
  have hlocks := B.notSynchronized
  subst hsz
  have hD := hD0.self (sz := s.heap.size)
  generalize hAe : va_A (wMo k h th f asd sl kp sv sm tx ln dg) s.heap.size = A at hD ⊢
  have hA : ∀ q : Nat, s.heap.size ≤ q → A q := fun q h => by rw [← hAe]; exact Or.inr h
  have hS : va_S A s.heap s.heap [] := va_S.rf
  have hl := lv_entry ([.ref (h 0), .int 1]) (n := 2) (Nat.le_of_ble_eq_true rfl)
  rw [lg_entry_eq]
  generalize (lg_sl ([.ref (h 0), .int 1]) ++ List.replicate (2 - (lg_sl ([.ref (h 0), .int 1])).length) Slot.unset).toArray = ls at hl ⊢
  have hl : lv_has ls 2 [(0, .ref (h 0)), (1, .int 1)] := hl
  obtain ⟨H, hHe⟩ : ∃ H, H = s.heap := ⟨_, rfl⟩
  have hP : va_P D vwCl (wMo k h th f asd sl kp sv sm tx ln dg) H := by rw [hHe]; exact hP
  have hS : va_S A s.heap H [] := by rw [hHe]; exact hS
  rw [← hHe]
  refine absQ (fun Q hQ => ?_)
  refine lv_aload_n hx hb dX5_heaviest_0 rfl (lv_at hl 0 rfl) ?_
  refine lv_iload_n hx hb dX5_heaviest_1 rfl (lv_at hl 1 rfl) ?_
  refine lv_iconst (v := 0) hx hb dX5_heaviest_2 (by decide) ?_
  refine lv_iconst (v := 1) hx hb dX5_heaviest_3 (by decide) ?_
  have hPc : va_P D vwCl ([]) H := hP.sub [] rfl
  have hDc : va_D A ([]) := hD.sub [] (by decide +kernel) rfl
  refine cl_i0 (va_runS (As := [.int 1, .int 0, .int 1]) (rest := [.ref (h 0)]) ⟨hx, hb, hml, hown, hts⟩ (c_X5_in l D k 1 0 1 H.size) (va_cwS 3 hts gX5_heaviest_X5_in rfl rfl rfl (by decide +kernel) ⟨Nat.le_of_ble_eq_true rfl, Nat.le_of_ble_eq_true rfl⟩) ⟨pr_blind, pr_at hN hPc hK hDc⟩ rfl rfl hl.1 rfl (lv_room (Nat.le_of_ble_eq_true rfl)) dX5_heaviest_4 ⟨Nat.le_of_ble_eq_true rfl, Nat.le_of_ble_eq_true rfl⟩) hP hD hS hA [] rfl (fun H locs hP hD hS => ?_)
  clear hPc hDc
  refine lv_if_eq (tgt := 14) hx hb dX5_heaviest_7 (by decide) (fun c_1 => ?_) (fun c_1 => ?_)
  · have c_1 := bI_eq.mp c_1
    exact absurd c_1 (by rw [(show inB 1 0 1 = true by decide)]; decide)
  · have c_1 := bI_ne.mp c_1
    refine lv_iconst (v := 0) hx hb dX5_heaviest_10 (by decide) ?_
    refine lv_goto (tgt := 15) hx hb dX5_heaviest_11 (by decide) ?_
    have hPc : va_P D vwCl (wMo k h th f asd sl kp sv sm tx ln dg) H := hP.sub [0, 1, 2, 3, 4, 5, 6] rfl
    have hDc : va_D A (wMo k h th f asd sl kp sv sm tx ln dg) := hD.sub [0, 1, 2, 3, 4, 5, 6] (by decide +kernel) rfl
    refine cl_i (va_runV (As := [.int 0]) (rest := []) ⟨hx, hb, hml, hown, hts⟩ (c_X5_holds l D k h th f asd sl kp sv sm tx ln dg 0 H.size) (cwV 1 hts gX5_heaviest_X5_holds rfl rfl rfl (by decide +kernel) ⟨Nat.le_of_ble_eq_true rfl, Nat.le_of_ble_eq_true rfl⟩) ⟨pr_blind, va_recv hK hP (ci := 5) (q0 := 0) rfl rfl, pr_at hN hPc hK hDc⟩ rfl rfl hl.1 rfl (lv_room (Nat.le_of_ble_eq_true rfl)) dX5_heaviest_15 ⟨Nat.le_of_ble_eq_true rfl, Nat.le_of_ble_eq_true rfl⟩) hP hD hS hA [0, 1, 2, 3, 4, 5, 6] [] ([]) [h 0, h 1, h 2, h 3, h 4, h 5, h 6] 7 rfl (wn := wMo k h 0 f asd sl kp sv sm tx ln dg) rfl rfl rfl rfl (by decide +kernel) rfl rfl (fun H locs hP hD hS => ?_)
    clear hPc hDc
    refine tp_e (y := 1) (by decide) ?_
    refine lv_if_eq (tgt := 29) hx hb dX5_heaviest_18 (by decide) (fun c_2 => ?_) (fun c_2 => ?_)
    · exact absurd c_2 (by decide)
    · refine lv_aload_n hx hb dX5_heaviest_21 rfl (lv_at hl 0 rfl) ?_
      refine lv_iload_n hx hb dX5_heaviest_22 rfl (lv_at hl 1 rfl) ?_
      have hPc : va_P D vwCl (wMo k h 0 f asd sl kp sv sm tx ln dg) H := hP.sub [0, 1, 2, 3, 4, 5, 6] rfl
      have hDc : va_D A (wMo k h 0 f asd sl kp sv sm tx ln dg) := hD.sub [0, 1, 2, 3, 4, 5, 6] (by decide +kernel) rfl
      refine cl_i0 (va_runV (As := [.int 1]) (rest := []) ⟨hx, hb, hml, hown, hts⟩ (c_X5_heavy_1 l D k h 0 f asd sl kp sv sm tx ln dg H.size) (cwV 1 hts gX5_heaviest_X5_heavy rfl rfl rfl (by decide +kernel) ⟨Nat.le_of_ble_eq_true rfl, Nat.le_of_ble_eq_true rfl⟩) ⟨pr_blind, va_recv hK hP (ci := 5) (q0 := 0) rfl rfl, pr_at hN hPc hK hDc⟩ rfl rfl hl.1 rfl (lv_room (Nat.le_of_ble_eq_true rfl)) dX5_heaviest_23 ⟨Nat.le_of_ble_eq_true rfl, Nat.le_of_ble_eq_true rfl⟩) hP hD hS hA [0, 1, 2, 3, 4, 5, 6] rfl (fun H locs hP hD hS => ?_)
      clear hPc hDc
      refine lv_goto (tgt := 30) hx hb dX5_heaviest_26 (by decide) ?_
      subst hQ
      exact rt_i hx hb hr hlocks hS dX5_heaviest_30 (hP) (rfl)

set_option maxHeartbeats 1000000 in
set_option maxRecDepth 100000 in
theorem c_X5_heaviest_x1 (l : Launch) (D : va_G) (k : Nat → ClassId) (h : Nat → Nat) (th : Int32) (f asd sl kp sv : Nat → Int32) (sm : Int32) (tx : Nat → Int32) (ln : Int32) (dg : Int64) (p0 : Int32) (h1 : inB p0 0 1 = false) : MI l yX5_heaviest wsX5_heaviest ({ frames := 1, cells := 0, slots := 0, locals := 22 }) D k [.ref (h 0), .int p0] (wMo k h th f asd sl kp sv sm tx ln dg) 0 (wMo k h 1 f asd sl kp sv sm tx ln dg) := by
  intro sz
  refine Met.ofW (cc := cX5_heaviest) (maxL := 2) (ret := (some .int)) (by decide) rfl ?_
  intro p e s m args below meth c s₁ B hml hv
  obtain ⟨rfl, hN, hsz, hP, hK, hD0⟩ := hv
  have hx := B.exec
  have hb := B.bytes
  have hr := B.returns
  have hts := atoms_spec (ws := wsX5_heaviest) B.pre
  have hown : s.vm.findClass RX5 = some m.cls := findClass_of_methodNamed B.named
  have hlocks := B.notSynchronized
  subst hsz
  have hD := hD0.self (sz := s.heap.size)
  generalize hAe : va_A (wMo k h th f asd sl kp sv sm tx ln dg) s.heap.size = A at hD ⊢
  have hA : ∀ q : Nat, s.heap.size ≤ q → A q := fun q h => by rw [← hAe]; exact Or.inr h
  have hS : va_S A s.heap s.heap [] := va_S.rf
  have hl := lv_entry ([.ref (h 0), .int p0]) (n := 2) (Nat.le_of_ble_eq_true rfl)
  rw [lg_entry_eq]
  generalize (lg_sl ([.ref (h 0), .int p0]) ++ List.replicate (2 - (lg_sl ([.ref (h 0), .int p0])).length) Slot.unset).toArray = ls at hl ⊢
  have hl : lv_has ls 2 [(0, .ref (h 0)), (1, .int p0)] := hl
  obtain ⟨H, hHe⟩ : ∃ H, H = s.heap := ⟨_, rfl⟩
  have hP : va_P D vwCl (wMo k h th f asd sl kp sv sm tx ln dg) H := by rw [hHe]; exact hP
  have hS : va_S A s.heap H [] := by rw [hHe]; exact hS
  rw [← hHe]
  refine absQ (fun Q hQ => ?_)
  refine lv_aload_n hx hb dX5_heaviest_0 rfl (lv_at hl 0 rfl) ?_
  refine lv_iload_n hx hb dX5_heaviest_1 rfl (lv_at hl 1 rfl) ?_
  refine lv_iconst (v := 0) hx hb dX5_heaviest_2 (by decide) ?_
  refine lv_iconst (v := 1) hx hb dX5_heaviest_3 (by decide) ?_
  have hPc : va_P D vwCl ([]) H := hP.sub [] rfl
  have hDc : va_D A ([]) := hD.sub [] (by decide +kernel) rfl
  refine cl_i0 (va_runS (As := [.int p0, .int 0, .int 1]) (rest := [.ref (h 0)]) ⟨hx, hb, hml, hown, hts⟩ (c_X5_in l D k p0 0 1 H.size) (va_cwS 3 hts gX5_heaviest_X5_in rfl rfl rfl (by decide +kernel) ⟨Nat.le_of_ble_eq_true rfl, Nat.le_of_ble_eq_true rfl⟩) ⟨pr_blind, pr_at hN hPc hK hDc⟩ rfl rfl hl.1 rfl (lv_room (Nat.le_of_ble_eq_true rfl)) dX5_heaviest_4 ⟨Nat.le_of_ble_eq_true rfl, Nat.le_of_ble_eq_true rfl⟩) hP hD hS hA [] rfl (fun H locs hP hD hS => ?_)
  clear hPc hDc
  refine lv_if_eq (tgt := 14) hx hb dX5_heaviest_7 (by decide) (fun c_1 => ?_) (fun c_1 => ?_)
  · have c_1 := bI_eq.mp c_1
    refine lv_iconst (v := 1) hx hb dX5_heaviest_14 (by decide) ?_
    have hPc : va_P D vwCl (wMo k h th f asd sl kp sv sm tx ln dg) H := hP.sub [0, 1, 2, 3, 4, 5, 6] rfl
    have hDc : va_D A (wMo k h th f asd sl kp sv sm tx ln dg) := hD.sub [0, 1, 2, 3, 4, 5, 6] (by decide +kernel) rfl
    refine cl_i (va_runV (As := [.int 1]) (rest := []) ⟨hx, hb, hml, hown, hts⟩ (c_X5_holds l D k h th f asd sl kp sv sm tx ln dg 1 H.size) (cwV 1 hts gX5_heaviest_X5_holds rfl rfl rfl (by decide +kernel) ⟨Nat.le_of_ble_eq_true rfl, Nat.le_of_ble_eq_true rfl⟩) ⟨pr_blind, va_recv hK hP (ci := 5) (q0 := 0) rfl rfl, pr_at hN hPc hK hDc⟩ rfl rfl hl.1 rfl (lv_room (Nat.le_of_ble_eq_true rfl)) dX5_heaviest_15 ⟨Nat.le_of_ble_eq_true rfl, Nat.le_of_ble_eq_true rfl⟩) hP hD hS hA [0, 1, 2, 3, 4, 5, 6] [] ([]) [h 0, h 1, h 2, h 3, h 4, h 5, h 6] 7 rfl (wn := wMo k h 1 f asd sl kp sv sm tx ln dg) rfl rfl rfl rfl (by decide +kernel) rfl rfl (fun H locs hP hD hS => ?_)
    clear hPc hDc
    refine tp_e (y := 0) (by decide) ?_
    refine lv_if_eq (tgt := 29) hx hb dX5_heaviest_18 (by decide) (fun c_2 => ?_) (fun c_2 => ?_)
    · refine lv_iconst (v := 0) hx hb dX5_heaviest_29 (by decide) ?_
      subst hQ
      exact rt_i hx hb hr hlocks hS dX5_heaviest_30 (hP) (rfl)
    · exact absurd c_2 (by decide)
  · have c_1 := bI_ne.mp c_1
    exact absurd c_1 (by rw [h1]; decide)

set_option maxHeartbeats 1000000 in
set_option maxRecDepth 100000 in
theorem c_X5_openWay (l : Launch) (D : va_G) (k : Nat → ClassId) (h : Nat → Nat) (th : Int32) (f asd sl kp sv : Nat → Int32) (sm : Int32) (tx : Nat → Int32) (ln : Int32) (dg : Int64) (p0 : Int32) (h1 : ¬ p0 < 0) : MI l yX5_openWay wsX5_openWay ({ frames := 3, cells := 0, slots := 0, locals := 70 }) D k [.ref (h 0), .int p0] (wMo k h th f asd sl kp sv sm tx ln dg) (oaR f p0 511 0 0) (wMo k h 0 f asd sl kp sv sm tx ln dg) := by
  intro sz
  refine Met.ofW (cc := cX5_openWay) (maxL := 2) (ret := (some .int)) (by decide) rfl ?_
  intro p e s m args below meth c s₁ B hml hv
  obtain ⟨rfl, hN, hsz, hP, hK, hD0⟩ := hv
  have hx := B.exec
  have hb := B.bytes
  have hr := B.returns
  have hts := atoms_spec (ws := wsX5_openWay) B.pre
  have hown : s.vm.findClass RX5 = some m.cls := findClass_of_methodNamed B.named
  have hlocks := B.notSynchronized
  subst hsz
  have hD := hD0.self (sz := s.heap.size)
  generalize hAe : va_A (wMo k h th f asd sl kp sv sm tx ln dg) s.heap.size = A at hD ⊢
  have hA : ∀ q : Nat, s.heap.size ≤ q → A q := fun q h => by rw [← hAe]; exact Or.inr h
  have hS : va_S A s.heap s.heap [] := va_S.rf
  have hl := lv_entry ([.ref (h 0), .int p0]) (n := 2) (Nat.le_of_ble_eq_true rfl)
  rw [lg_entry_eq]
  generalize (lg_sl ([.ref (h 0), .int p0]) ++ List.replicate (2 - (lg_sl ([.ref (h 0), .int p0])).length) Slot.unset).toArray = ls at hl ⊢
  have hl : lv_has ls 2 [(0, .ref (h 0)), (1, .int p0)] := hl
  obtain ⟨H, hHe⟩ : ∃ H, H = s.heap := ⟨_, rfl⟩
  have hP : va_P D vwCl (wMo k h th f asd sl kp sv sm tx ln dg) H := by rw [hHe]; exact hP
  have hS : va_S A s.heap H [] := by rw [hHe]; exact hS
  rw [← hHe]
  refine absQ (fun Q hQ => ?_)
  refine lv_aload_n hx hb dX5_openWay_0 rfl (lv_at hl 0 rfl) ?_
  refine lv_iload_n hx hb dX5_openWay_1 rfl (lv_at hl 1 rfl) ?_
  refine lv_if_lt (tgt := 9) hx hb dX5_openWay_2 (by decide) (fun c_1 => ?_) (fun c_1 => ?_)
  · exact absurd c_1 h1
  · refine lv_iconst (v := 0) hx hb dX5_openWay_5 (by decide) ?_
    refine lv_goto (tgt := 10) hx hb dX5_openWay_6 (by decide) ?_
    have hPc : va_P D vwCl (wMo k h th f asd sl kp sv sm tx ln dg) H := hP.sub [0, 1, 2, 3, 4, 5, 6] rfl
    have hDc : va_D A (wMo k h th f asd sl kp sv sm tx ln dg) := hD.sub [0, 1, 2, 3, 4, 5, 6] (by decide +kernel) rfl
    refine cl_i (va_runV (As := [.int 0]) (rest := []) ⟨hx, hb, hml, hown, hts⟩ (c_X5_holds l D k h th f asd sl kp sv sm tx ln dg 0 H.size) (cwV 1 hts gX5_openWay_X5_holds rfl rfl rfl (by decide +kernel) ⟨Nat.le_of_ble_eq_true rfl, Nat.le_of_ble_eq_true rfl⟩) ⟨pr_blind, va_recv hK hP (ci := 5) (q0 := 0) rfl rfl, pr_at hN hPc hK hDc⟩ rfl rfl hl.1 rfl (lv_room (Nat.le_of_ble_eq_true rfl)) dX5_openWay_10 ⟨Nat.le_of_ble_eq_true rfl, Nat.le_of_ble_eq_true rfl⟩) hP hD hS hA [0, 1, 2, 3, 4, 5, 6] [] ([]) [h 0, h 1, h 2, h 3, h 4, h 5, h 6] 7 rfl (wn := wMo k h 0 f asd sl kp sv sm tx ln dg) rfl rfl rfl rfl (by decide +kernel) rfl rfl (fun H locs hP hD hS => ?_)
    clear hPc hDc
    refine tp_e (y := 1) (by decide) ?_
    refine lv_if_eq (tgt := 24) hx hb dX5_openWay_13 (by decide) (fun c_2 => ?_) (fun c_2 => ?_)
    · exact absurd c_2 (by decide)
    · refine lv_aload_n hx hb dX5_openWay_16 rfl (lv_at hl 0 rfl) ?_
      refine lv_iload_n hx hb dX5_openWay_17 rfl (lv_at hl 1 rfl) ?_
      have hPc : va_P D vwCl (wMo k h 0 f asd sl kp sv sm tx ln dg) H := hP.sub [0, 1, 2, 3, 4, 5, 6] rfl
      have hDc : va_D A (wMo k h 0 f asd sl kp sv sm tx ln dg) := hD.sub [0, 1, 2, 3, 4, 5, 6] (by decide +kernel) rfl
      refine cl_i0 (va_runV (As := [.int p0]) (rest := []) ⟨hx, hb, hml, hown, hts⟩ (c_X5_openAt l D k h 0 f asd sl kp sv sm tx ln dg p0 H.size) (cwV 1 hts gX5_openWay_X5_openAt rfl rfl rfl (by decide +kernel) ⟨Nat.le_of_ble_eq_true rfl, Nat.le_of_ble_eq_true rfl⟩) ⟨pr_blind, va_recv hK hP (ci := 5) (q0 := 0) rfl rfl, pr_at hN hPc hK hDc⟩ rfl rfl hl.1 rfl (lv_room (Nat.le_of_ble_eq_true rfl)) dX5_openWay_18 ⟨Nat.le_of_ble_eq_true rfl, Nat.le_of_ble_eq_true rfl⟩) hP hD hS hA [0, 1, 2, 3, 4, 5, 6] rfl (fun H locs hP hD hS => ?_)
      clear hPc hDc
      refine lv_goto (tgt := 25) hx hb dX5_openWay_21 (by decide) ?_
      subst hQ
      exact rt_i hx hb hr hlocks hS dX5_openWay_25 (hP) (rfl)

set_option maxHeartbeats 1000000 in
set_option maxRecDepth 100000 in
theorem c_X5_openWay_x1 (l : Launch) (D : va_G) (k : Nat → ClassId) (h : Nat → Nat) (th : Int32) (f asd sl kp sv : Nat → Int32) (sm : Int32) (tx : Nat → Int32) (ln : Int32) (dg : Int64) (p0 : Int32) (h1 : p0 < 0) : MI l yX5_openWay wsX5_openWay ({ frames := 1, cells := 0, slots := 0, locals := 21 }) D k [.ref (h 0), .int p0] (wMo k h th f asd sl kp sv sm tx ln dg) 0 (wMo k h 1 f asd sl kp sv sm tx ln dg) := by
  intro sz
  refine Met.ofW (cc := cX5_openWay) (maxL := 2) (ret := (some .int)) (by decide) rfl ?_
  intro p e s m args below meth c s₁ B hml hv
  obtain ⟨rfl, hN, hsz, hP, hK, hD0⟩ := hv
  have hx := B.exec
  have hb := B.bytes
  have hr := B.returns
  have hts := atoms_spec (ws := wsX5_openWay) B.pre
  have hown : s.vm.findClass RX5 = some m.cls := findClass_of_methodNamed B.named
  have hlocks := B.notSynchronized
  subst hsz
  have hD := hD0.self (sz := s.heap.size)
  generalize hAe : va_A (wMo k h th f asd sl kp sv sm tx ln dg) s.heap.size = A at hD ⊢
  have hA : ∀ q : Nat, s.heap.size ≤ q → A q := fun q h => by rw [← hAe]; exact Or.inr h
  have hS : va_S A s.heap s.heap [] := va_S.rf
  have hl := lv_entry ([.ref (h 0), .int p0]) (n := 2) (Nat.le_of_ble_eq_true rfl)
  rw [lg_entry_eq]
  generalize (lg_sl ([.ref (h 0), .int p0]) ++ List.replicate (2 - (lg_sl ([.ref (h 0), .int p0])).length) Slot.unset).toArray = ls at hl ⊢
  have hl : lv_has ls 2 [(0, .ref (h 0)), (1, .int p0)] := hl
  obtain ⟨H, hHe⟩ : ∃ H, H = s.heap := ⟨_, rfl⟩
  have hP : va_P D vwCl (wMo k h th f asd sl kp sv sm tx ln dg) H := by rw [hHe]; exact hP
  have hS : va_S A s.heap H [] := by rw [hHe]; exact hS
  rw [← hHe]
  refine absQ (fun Q hQ => ?_)
  refine lv_aload_n hx hb dX5_openWay_0 rfl (lv_at hl 0 rfl) ?_
  refine lv_iload_n hx hb dX5_openWay_1 rfl (lv_at hl 1 rfl) ?_
  refine lv_if_lt (tgt := 9) hx hb dX5_openWay_2 (by decide) (fun c_1 => ?_) (fun c_1 => ?_)
  · refine lv_iconst (v := 1) hx hb dX5_openWay_9 (by decide) ?_
    have hPc : va_P D vwCl (wMo k h th f asd sl kp sv sm tx ln dg) H := hP.sub [0, 1, 2, 3, 4, 5, 6] rfl
    have hDc : va_D A (wMo k h th f asd sl kp sv sm tx ln dg) := hD.sub [0, 1, 2, 3, 4, 5, 6] (by decide +kernel) rfl
    refine cl_i (va_runV (As := [.int 1]) (rest := []) ⟨hx, hb, hml, hown, hts⟩ (c_X5_holds l D k h th f asd sl kp sv sm tx ln dg 1 H.size) (cwV 1 hts gX5_openWay_X5_holds rfl rfl rfl (by decide +kernel) ⟨Nat.le_of_ble_eq_true rfl, Nat.le_of_ble_eq_true rfl⟩) ⟨pr_blind, va_recv hK hP (ci := 5) (q0 := 0) rfl rfl, pr_at hN hPc hK hDc⟩ rfl rfl hl.1 rfl (lv_room (Nat.le_of_ble_eq_true rfl)) dX5_openWay_10 ⟨Nat.le_of_ble_eq_true rfl, Nat.le_of_ble_eq_true rfl⟩) hP hD hS hA [0, 1, 2, 3, 4, 5, 6] [] ([]) [h 0, h 1, h 2, h 3, h 4, h 5, h 6] 7 rfl (wn := wMo k h 1 f asd sl kp sv sm tx ln dg) rfl rfl rfl rfl (by decide +kernel) rfl rfl (fun H locs hP hD hS => ?_)
    clear hPc hDc
    refine tp_e (y := 0) (by decide) ?_
    refine lv_if_eq (tgt := 24) hx hb dX5_openWay_13 (by decide) (fun c_2 => ?_) (fun c_2 => ?_)
    · refine lv_iconst (v := 0) hx hb dX5_openWay_24 (by decide) ?_
      subst hQ
      exact rt_i hx hb hr hlocks hS dX5_openWay_25 (hP) (rfl)
    · exact absurd c_2 (by decide)
  · exact absurd h1 c_1

set_option maxHeartbeats 1000000 in
set_option maxRecDepth 100000 in
theorem c_X5_mainPiece (l : Launch) (D : va_G) (k : Nat → ClassId) (h : Nat → Nat) (th : Int32) (f asd sl kp sv : Nat → Int32) (sm : Int32) (tx : Nat → Int32) (ln : Int32) (dg : Int64)  : MI l yX5_mainPiece wsX5_mainPiece ({ frames := 4, cells := 0, slots := 0, locals := 95 }) D k [.ref (h 0)] (wMo k h th f asd sl kp sv sm tx ln dg) ((moF f 9).1) (wMo k h 0 f asd sl kp sv sm tx ln dg) := by
  intro sz
  refine Met.ofW (cc := cX5_mainPiece) (maxL := 1) (ret := (some .int)) (by decide) rfl ?_
  intro p e s m args below meth c s₁ B hml hv
  obtain ⟨rfl, hN, hsz, hP, hK, hD0⟩ := hv
  have hx := B.exec
  have hb := B.bytes
  have hr := B.returns
  have hts := atoms_spec (ws := wsX5_mainPiece) B.pre
  have hown : s.vm.findClass RX5 = some m.cls := findClass_of_methodNamed B.named
  have hlocks := B.notSynchronized
  subst hsz
  have hD := hD0.self (sz := s.heap.size)
  generalize hAe : va_A (wMo k h th f asd sl kp sv sm tx ln dg) s.heap.size = A at hD ⊢
  have hA : ∀ q : Nat, s.heap.size ≤ q → A q := fun q h => by rw [← hAe]; exact Or.inr h
  have hS : va_S A s.heap s.heap [] := va_S.rf
  have hl := lv_entry ([.ref (h 0)]) (n := 1) (Nat.le_of_ble_eq_true rfl)
  rw [lg_entry_eq]
  generalize (lg_sl ([.ref (h 0)]) ++ List.replicate (1 - (lg_sl ([.ref (h 0)])).length) Slot.unset).toArray = ls at hl ⊢
  have hl : lv_has ls 1 [(0, .ref (h 0))] := hl
  obtain ⟨H, hHe⟩ : ∃ H, H = s.heap := ⟨_, rfl⟩
  have hP : va_P D vwCl (wMo k h th f asd sl kp sv sm tx ln dg) H := by rw [hHe]; exact hP
  have hS : va_S A s.heap H [] := by rw [hHe]; exact hS
  rw [← hHe]
  refine absQ (fun Q hQ => ?_)
  refine lv_aload_n hx hb dX5_mainPiece_0 rfl (lv_at hl 0 rfl) ?_
  refine lv_iconst (v := 0) hx hb dX5_mainPiece_1 (by decide) ?_
  refine va_put (D := D) (ci := 5) (v := .int 0) (ty := tyX5 0) (C := RX5) (T := TX5) (N := 10) hx hb hts (fun _ h9 => (List.mem_cons_of_mem _ (List.mem_append_right _ h9))) tyX5 tyX5_ok nmX5 hown hK hP hD hS 0 rfl rfl 0 (by decide) (hts _ (List.mem_of_getElem? (i := 1) rfl)) (fun _ h9 => h9) rfl (tyX5_ok 0 (by decide)) rfl rfl (Nat.le_of_ble_eq_true rfl) dX5_mainPiece_2 (fun H locs hP hD hS => ?_)
  have hP : va_P D vwCl ([(h 0, .inr (5, [.int 0, .ref (h 1), .ref (h 2), .ref (h 3), .ref (h 4), .ref (h 5), .int sm, .ref (h 6), .int ln, .long dg])), (h 1, .inl (k 0, 72, .inl f)), (h 2, .inl (k 0, 72, .inl asd)), (h 3, .inl (k 0, 144, .inl sl)), (h 4, .inl (k 1, 2, .inl kp)), (h 5, .inl (k 0, 432, .inl sv)), (h 6, .inl (k 0, 60, .inl tx))]) H := hP
  have hD : va_D A ([(h 0, .inr (5, [.int 0, .ref (h 1), .ref (h 2), .ref (h 3), .ref (h 4), .ref (h 5), .int sm, .ref (h 6), .int ln, .long dg])), (h 1, .inl (k 0, 72, .inl f)), (h 2, .inl (k 0, 72, .inl asd)), (h 3, .inl (k 0, 144, .inl sl)), (h 4, .inl (k 1, 2, .inl kp)), (h 5, .inl (k 0, 432, .inl sv)), (h 6, .inl (k 0, 60, .inl tx))]) := hD
  refine lv_aload_n hx hb dX5_mainPiece_5 rfl (lv_at hl 0 rfl) ?_
  have hPc : va_P D vwCl (wMo k h 0 f asd sl kp sv sm tx ln dg) H := hP.sub [0, 1, 2, 3, 4, 5, 6] rfl
  have hDc : va_D A (wMo k h 0 f asd sl kp sv sm tx ln dg) := hD.sub [0, 1, 2, 3, 4, 5, 6] (by decide +kernel) rfl
  refine cl_i (va_runV (As := []) (rest := []) ⟨hx, hb, hml, hown, hts⟩ (c_X5_mainOne l D k h 0 f asd sl kp sv sm tx ln dg  H.size) (cwV 0 hts gX5_mainPiece_X5_mainOne rfl rfl rfl (by decide +kernel) ⟨Nat.le_of_ble_eq_true rfl, Nat.le_of_ble_eq_true rfl⟩) ⟨pr_blind, va_recv hK hP (ci := 5) (q0 := 0) rfl rfl, pr_at hN hPc hK hDc⟩ rfl rfl hl.1 rfl (lv_room (Nat.le_of_ble_eq_true rfl)) dX5_mainPiece_6 ⟨Nat.le_of_ble_eq_true rfl, Nat.le_of_ble_eq_true rfl⟩) hP hD hS hA [0, 1, 2, 3, 4, 5, 6] [] ([]) [h 0, h 1, h 2, h 3, h 4, h 5, h 6] 7 rfl (wn := wMo k h 0 f asd sl kp sv sm tx ln dg) rfl rfl rfl rfl (by decide +kernel) rfl rfl (fun H locs hP hD hS => ?_)
  clear hPc hDc
  subst hQ
  exact rt_i hx hb hr hlocks hS dX5_mainPiece_9 (hP) (rfl)

set_option maxHeartbeats 1000000 in
set_option maxRecDepth 100000 in
theorem c_X5_unexplained (l : Launch) (D : va_G) (k : Nat → ClassId) (h : Nat → Nat) (th : Int32) (f asd sl kp sv : Nat → Int32) (sm : Int32) (tx : Nat → Int32) (ln : Int32) (dg : Int64) (nw : Nat) (hnw : f 45 = nI nw) (hnw2 : nw ≤ 12) : MI l yX5_unexplained wsX5_unexplained ({ frames := 5, cells := 0, slots := 0, locals := 113 }) D k [.ref (h 0)] (wMo k h th f asd sl kp sv sm tx ln dg) (smM (spM 13 0 f).2 9 9) (wMo k h th f f sl kp sv sm tx ln dg) := by
  intro sz
  refine Met.ofW (cc := cX5_unexplained) (maxL := 3) (ret := (some .int)) (by decide) rfl ?_
  intro p e s m args below meth c s₁ B hml hv
  obtain ⟨rfl, hN, hsz, hP, hK, hD0⟩ := hv
  have hx := B.exec
  have hb := B.bytes
  have hr := B.returns
  have hts := atoms_spec (ws := wsX5_unexplained) B.pre
  have hown : s.vm.findClass RX5 = some m.cls := findClass_of_methodNamed B.named
  have hlocks := B.notSynchronized
  subst hsz
  have hD := hD0.self (sz := s.heap.size)
  generalize hAe : va_A (wMo k h th f asd sl kp sv sm tx ln dg) s.heap.size = A at hD ⊢
  have hA : ∀ q : Nat, s.heap.size ≤ q → A q := fun q h => by rw [← hAe]; exact Or.inr h
  have hS : va_S A s.heap s.heap [] := va_S.rf
  have hl := lv_entry ([.ref (h 0)]) (n := 3) (Nat.le_of_ble_eq_true rfl)
  rw [lg_entry_eq]
  generalize (lg_sl ([.ref (h 0)]) ++ List.replicate (3 - (lg_sl ([.ref (h 0)])).length) Slot.unset).toArray = ls at hl ⊢
  have hl : lv_has ls 3 [(0, .ref (h 0))] := hl
  obtain ⟨H, hHe⟩ : ∃ H, H = s.heap := ⟨_, rfl⟩
  have hP : va_P D vwCl (wMo k h th f asd sl kp sv sm tx ln dg) H := by rw [hHe]; exact hP
  have hS : va_S A s.heap H [] := by rw [hHe]; exact hS
  rw [← hHe]
  refine absQ (fun Q hQ => ?_)
  refine lv_aload_n hx hb dX5_unexplained_0 rfl (lv_at hl 0 rfl) ?_
  have hPc : va_P D vwCl (wMo k h th f asd sl kp sv sm tx ln dg) H := hP.sub [0, 1, 2, 3, 4, 5, 6] rfl
  have hDc : va_D A (wMo k h th f asd sl kp sv sm tx ln dg) := hD.sub [0, 1, 2, 3, 4, 5, 6] (by decide +kernel) rfl
  refine cl_v (va_runV (As := []) (rest := []) ⟨hx, hb, hml, hown, hts⟩ (c_X5_putAside l D k h th f asd sl kp sv sm tx ln dg  H.size) (cwV 0 hts gX5_unexplained_X5_putAside rfl rfl rfl (by decide +kernel) ⟨Nat.le_of_ble_eq_true rfl, Nat.le_of_ble_eq_true rfl⟩) ⟨pr_blind, va_recv hK hP (ci := 5) (q0 := 0) rfl rfl, pr_at hN hPc hK hDc⟩ rfl rfl hl.1 rfl (lv_room (Nat.le_of_ble_eq_true rfl)) dX5_unexplained_1 ⟨Nat.le_of_ble_eq_true rfl, Nat.le_of_ble_eq_true rfl⟩) hP hD hS hA [0, 1, 2, 3, 4, 5, 6] [] ([]) [h 0, h 1, h 2, h 3, h 4, h 5, h 6] 7 rfl (wn := wMo k h th f f sl kp sv sm tx ln dg) rfl rfl rfl rfl (by decide +kernel) rfl rfl (fun H locs hP hD hS => ?_)
  clear hPc hDc
  refine lv_aload_n hx hb dX5_unexplained_4 rfl (lv_at hl 0 rfl) ?_
  have hPc : va_P D vwCl (wMo k h th f f sl kp sv sm tx ln dg) H := hP.sub [0, 1, 2, 3, 4, 5, 6] rfl
  have hDc : va_D A (wMo k h th f f sl kp sv sm tx ln dg) := hD.sub [0, 1, 2, 3, 4, 5, 6] (by decide +kernel) rfl
  refine cl_i (va_runV (As := []) (rest := []) ⟨hx, hb, hml, hown, hts⟩ (c_X5_splits l D k h th f f sl kp sv sm tx ln dg nw hnw hnw2 H.size) (cwV 0 hts gX5_unexplained_X5_splits rfl rfl rfl (by decide +kernel) ⟨Nat.le_of_ble_eq_true rfl, Nat.le_of_ble_eq_true rfl⟩) ⟨pr_blind, va_recv hK hP (ci := 5) (q0 := 0) rfl rfl, pr_at hN hPc hK hDc⟩ rfl rfl hl.1 rfl (lv_room (Nat.le_of_ble_eq_true rfl)) dX5_unexplained_5 ⟨Nat.le_of_ble_eq_true rfl, Nat.le_of_ble_eq_true rfl⟩) hP hD hS hA [0, 1, 2, 3, 4, 5, 6] [] ([]) [h 0, h 1, h 2, h 3, h 4, h 5, h 6] 7 rfl (wn := wMo k h th ((spM 13 0 f).2) f sl kp sv sm tx ln dg) rfl rfl rfl rfl (by decide +kernel) rfl rfl (fun H locs hP hD hS => ?_)
  clear hPc hDc
  refine lv_istore_n (lv' := [(1, .int (nI ((spM 13 0 f).1))), (0, .ref (h 0))]) hx hb dX5_unexplained_8 rfl hl (by decide) rfl (fun ls hl => ?_)
  refine lv_aload_n hx hb dX5_unexplained_9 rfl (lv_at hl 1 rfl) ?_
  refine lv_bipush (v := 9) hx hb dX5_unexplained_10 (by decide) ?_
  have hPc : va_P D vwCl (wMo k h th ((spM 13 0 f).2) f sl kp sv sm tx ln dg) H := hP.sub [0, 1, 2, 3, 4, 5, 6] rfl
  have hDc : va_D A (wMo k h th ((spM 13 0 f).2) f sl kp sv sm tx ln dg) := hD.sub [0, 1, 2, 3, 4, 5, 6] (by decide +kernel) rfl
  refine cl_i0 (va_runV (As := [.int 9]) (rest := []) ⟨hx, hb, hml, hown, hts⟩ (c_X5_sum l D k h th ((spM 13 0 f).2) f sl kp sv sm tx ln dg 9 (by decide) H.size) (cwV 1 hts gX5_unexplained_X5_sum rfl rfl rfl (by decide +kernel) ⟨Nat.le_of_ble_eq_true rfl, Nat.le_of_ble_eq_true rfl⟩) ⟨pr_blind, va_recv hK hP (ci := 5) (q0 := 0) rfl rfl, pr_at hN hPc hK hDc⟩ rfl rfl hl.1 rfl (lv_room (Nat.le_of_ble_eq_true rfl)) dX5_unexplained_12 ⟨Nat.le_of_ble_eq_true rfl, Nat.le_of_ble_eq_true rfl⟩) hP hD hS hA [0, 1, 2, 3, 4, 5, 6] rfl (fun H locs hP hD hS => ?_)
  clear hPc hDc
  refine lv_istore_n (lv' := [(2, .int (smM ((spM 13 0 f).2) 9 9)), (1, .int (nI ((spM 13 0 f).1))), (0, .ref (h 0))]) hx hb dX5_unexplained_15 rfl hl (by decide) rfl (fun ls hl => ?_)
  refine lv_aload_n hx hb dX5_unexplained_16 rfl (lv_at hl 2 rfl) ?_
  have hPc : va_P D vwCl (wMo k h th ((spM 13 0 f).2) f sl kp sv sm tx ln dg) H := hP.sub [0, 1, 2, 3, 4, 5, 6] rfl
  have hDc : va_D A (wMo k h th ((spM 13 0 f).2) f sl kp sv sm tx ln dg) := hD.sub [0, 1, 2, 3, 4, 5, 6] (by decide +kernel) rfl
  refine cl_v (va_runV (As := []) (rest := []) ⟨hx, hb, hml, hown, hts⟩ (c_X5_putBack l D k h th ((spM 13 0 f).2) f sl kp sv sm tx ln dg  H.size) (cwV 0 hts gX5_unexplained_X5_putBack rfl rfl rfl (by decide +kernel) ⟨Nat.le_of_ble_eq_true rfl, Nat.le_of_ble_eq_true rfl⟩) ⟨pr_blind, va_recv hK hP (ci := 5) (q0 := 0) rfl rfl, pr_at hN hPc hK hDc⟩ rfl rfl hl.1 rfl (lv_room (Nat.le_of_ble_eq_true rfl)) dX5_unexplained_17 ⟨Nat.le_of_ble_eq_true rfl, Nat.le_of_ble_eq_true rfl⟩) hP hD hS hA [0, 1, 2, 3, 4, 5, 6] [] ([]) [h 0, h 1, h 2, h 3, h 4, h 5, h 6] 7 rfl (wn := wMo k h th f f sl kp sv sm tx ln dg) rfl rfl rfl rfl (by decide +kernel) rfl rfl (fun H locs hP hD hS => ?_)
  clear hPc hDc
  refine lv_iload_n hx hb dX5_unexplained_20 rfl (lv_at hl 0 rfl) ?_
  subst hQ
  exact rt_i hx hb hr hlocks hS dX5_unexplained_21 (hP) (rfl)

set_option maxHeartbeats 1000000 in
set_option maxRecDepth 100000 in
theorem c_X5_ifSplit (l : Launch) (D : va_G) (k : Nat → ClassId) (h : Nat → Nat) (th : Int32) (f asd sl kp sv : Nat → Int32) (sm : Int32) (tx : Nat → Int32) (ln : Int32) (dg : Int64) (nw : Nat) (hnw : f 45 = nI nw) (hnw2 : nw ≤ 12) : MI l yX5_ifSplit wsX5_ifSplit ({ frames := 6, cells := 0, slots := 0, locals := 135 }) D k [.ref (h 0)] (wMo k h th f asd sl kp sv sm tx ln dg) (smM (spM 13 0 f).2 9 9) (wMo k h 0 f f sl kp sv sm tx ln dg) := by
  intro sz
  refine Met.ofW (cc := cX5_ifSplit) (maxL := 1) (ret := (some .int)) (by decide) rfl ?_
  intro p e s m args below meth c s₁ B hml hv
  obtain ⟨rfl, hN, hsz, hP, hK, hD0⟩ := hv
  have hx := B.exec
  have hb := B.bytes
  have hr := B.returns
  have hts := atoms_spec (ws := wsX5_ifSplit) B.pre
  have hown : s.vm.findClass RX5 = some m.cls := findClass_of_methodNamed B.named
  have hlocks := B.notSynchronized
  subst hsz
  have hD := hD0.self (sz := s.heap.size)
  generalize hAe : va_A (wMo k h th f asd sl kp sv sm tx ln dg) s.heap.size = A at hD ⊢
  have hA : ∀ q : Nat, s.heap.size ≤ q → A q := fun q h => by rw [← hAe]; exact Or.inr h
  have hS : va_S A s.heap s.heap [] := va_S.rf
  have hl := lv_entry ([.ref (h 0)]) (n := 1) (Nat.le_of_ble_eq_true rfl)
  rw [lg_entry_eq]
  generalize (lg_sl ([.ref (h 0)]) ++ List.replicate (1 - (lg_sl ([.ref (h 0)])).length) Slot.unset).toArray = ls at hl ⊢
  have hl : lv_has ls 1 [(0, .ref (h 0))] := hl
  obtain ⟨H, hHe⟩ : ∃ H, H = s.heap := ⟨_, rfl⟩
  have hP : va_P D vwCl (wMo k h th f asd sl kp sv sm tx ln dg) H := by rw [hHe]; exact hP
  have hS : va_S A s.heap H [] := by rw [hHe]; exact hS
  rw [← hHe]
  refine absQ (fun Q hQ => ?_)
  refine lv_aload_n hx hb dX5_ifSplit_0 rfl (lv_at hl 0 rfl) ?_
  refine lv_iconst (v := 0) hx hb dX5_ifSplit_1 (by decide) ?_
  refine va_put (D := D) (ci := 5) (v := .int 0) (ty := tyX5 0) (C := RX5) (T := TX5) (N := 10) hx hb hts (fun _ h9 => (List.mem_cons_of_mem _ (List.mem_append_right _ h9))) tyX5 tyX5_ok nmX5 hown hK hP hD hS 0 rfl rfl 0 (by decide) (hts _ (List.mem_of_getElem? (i := 1) rfl)) (fun _ h9 => h9) rfl (tyX5_ok 0 (by decide)) rfl rfl (Nat.le_of_ble_eq_true rfl) dX5_ifSplit_2 (fun H locs hP hD hS => ?_)
  have hP : va_P D vwCl ([(h 0, .inr (5, [.int 0, .ref (h 1), .ref (h 2), .ref (h 3), .ref (h 4), .ref (h 5), .int sm, .ref (h 6), .int ln, .long dg])), (h 1, .inl (k 0, 72, .inl f)), (h 2, .inl (k 0, 72, .inl asd)), (h 3, .inl (k 0, 144, .inl sl)), (h 4, .inl (k 1, 2, .inl kp)), (h 5, .inl (k 0, 432, .inl sv)), (h 6, .inl (k 0, 60, .inl tx))]) H := hP
  have hD : va_D A ([(h 0, .inr (5, [.int 0, .ref (h 1), .ref (h 2), .ref (h 3), .ref (h 4), .ref (h 5), .int sm, .ref (h 6), .int ln, .long dg])), (h 1, .inl (k 0, 72, .inl f)), (h 2, .inl (k 0, 72, .inl asd)), (h 3, .inl (k 0, 144, .inl sl)), (h 4, .inl (k 1, 2, .inl kp)), (h 5, .inl (k 0, 432, .inl sv)), (h 6, .inl (k 0, 60, .inl tx))]) := hD
  refine lv_aload_n hx hb dX5_ifSplit_5 rfl (lv_at hl 0 rfl) ?_
  have hPc : va_P D vwCl (wMo k h 0 f asd sl kp sv sm tx ln dg) H := hP.sub [0, 1, 2, 3, 4, 5, 6] rfl
  have hDc : va_D A (wMo k h 0 f asd sl kp sv sm tx ln dg) := hD.sub [0, 1, 2, 3, 4, 5, 6] (by decide +kernel) rfl
  refine cl_i (va_runV (As := []) (rest := []) ⟨hx, hb, hml, hown, hts⟩ (c_X5_unexplained l D k h 0 f asd sl kp sv sm tx ln dg nw hnw hnw2 H.size) (cwV 0 hts gX5_ifSplit_X5_unexplained rfl rfl rfl (by decide +kernel) ⟨Nat.le_of_ble_eq_true rfl, Nat.le_of_ble_eq_true rfl⟩) ⟨pr_blind, va_recv hK hP (ci := 5) (q0 := 0) rfl rfl, pr_at hN hPc hK hDc⟩ rfl rfl hl.1 rfl (lv_room (Nat.le_of_ble_eq_true rfl)) dX5_ifSplit_6 ⟨Nat.le_of_ble_eq_true rfl, Nat.le_of_ble_eq_true rfl⟩) hP hD hS hA [0, 1, 2, 3, 4, 5, 6] [] ([]) [h 0, h 1, h 2, h 3, h 4, h 5, h 6] 7 rfl (wn := wMo k h 0 f f sl kp sv sm tx ln dg) rfl rfl rfl rfl (by decide +kernel) rfl rfl (fun H locs hP hD hS => ?_)
  clear hPc hDc
  subst hQ
  exact rt_i hx hb hr hlocks hS dX5_ifSplit_9 (hP) (rfl)
