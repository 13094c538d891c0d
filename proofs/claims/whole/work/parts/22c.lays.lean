set_option maxHeartbeats 1000000 in
set_option maxRecDepth 100000 in
theorem c_X5_lays (l : Launch) (D : va_G) (k : Nat → ClassId) (h : Nat → Nat) (th : Int32) (f asd sl kp sv : Nat → Int32) (tx : Nat → Int32) (ln : Int32) (dg : Int64) (n : Nat) (at_ : Nat) (v : Int32) (hn : n ≤ 6) (hat : at_ < 72) : MI l yX5_lays wsX5_lays ({ frames := 1, cells := 0, slots := 0, locals := 21 }) D k [.ref (h 0), .int (nI at_), .int v] (wMo k h th f asd sl kp sv (nI n) tx ln dg) (f at_) (wMo k h th (anM (upd f at_ v)) asd sl kp (svM sv f n) (nI (snM n)) tx ln dg) := by
  intro sz
  refine Met.ofW (cc := cX5_lays) (maxL := 4) (ret := (some .int)) (by decide) rfl ?_
  intro p e s m args below meth c s₁ B hml hv
  obtain ⟨rfl, hN, hsz, hP, hK, hD0⟩ := hv
  have hx := B.exec
  have hb := B.bytes
  have hr := B.returns
  have hts := atoms_spec (ws := wsX5_lays) B.pre
  have hown : s.vm.findClass RX5 = some m.cls := findClass_of_methodNamed B.named
  have hlocks := B.notSynchronized
  subst hsz
  have hD := hD0.self (sz := s.heap.size)
  generalize hAe : va_A (wMo k h th f asd sl kp sv (nI n) tx ln dg) s.heap.size = A at hD ⊢
  have hA : ∀ q : Nat, s.heap.size ≤ q → A q := fun q h => by rw [← hAe]; exact Or.inr h
  have hS : va_S A s.heap s.heap [] := va_S.rf
  have hl := lv_entry ([.ref (h 0), .int (nI at_), .int v]) (n := 4) (Nat.le_of_ble_eq_true rfl)
  rw [lg_entry_eq]
  generalize (lg_sl ([.ref (h 0), .int (nI at_), .int v]) ++ List.replicate (4 - (lg_sl ([.ref (h 0), .int (nI at_), .int v])).length) Slot.unset).toArray = ls at hl ⊢
  have hl : lv_has ls 4 [(0, .ref (h 0)), (1, .int (nI at_)), (2, .int v)] := hl
  obtain ⟨H, hHe⟩ : ∃ H, H = s.heap := ⟨_, rfl⟩
  have hP : va_P D vwCl (wMo k h th f asd sl kp sv (nI n) tx ln dg) H := by rw [hHe]; exact hP
  have hS : va_S A s.heap H [] := by rw [hHe]; exact hS
  rw [← hHe]
  refine absQ (fun Q hQ => ?_)
  refine lv_aload_n hx hb dX5_lays_0 rfl (lv_at hl 0 rfl) ?_
  have hPc : va_P D vwCl (wMo k h th f asd sl kp sv (nI n) tx ln dg) H := hP.sub [0, 1, 2, 3, 4, 5, 6] rfl
  have hDc : va_D A (wMo k h th f asd sl kp sv (nI n) tx ln dg) := hD.sub [0, 1, 2, 3, 4, 5, 6] (by decide +kernel) rfl
  refine cl_v (va_runV (As := []) (rest := []) ⟨hx, hb, hml, hown, hts⟩ (c_X5_save l D k h th f asd sl kp sv tx ln dg n hn H.size) (cwV 0 hts gX5_lays_X5_save rfl rfl rfl (by decide +kernel) ⟨Nat.le_of_ble_eq_true rfl, Nat.le_of_ble_eq_true rfl⟩) ⟨pr_blind, va_recv hK hP (ci := 5) (q0 := 0) rfl rfl, pr_at hN hPc hK hDc⟩ rfl rfl hl.1 rfl (lv_room (Nat.le_of_ble_eq_true rfl)) dX5_lays_1 ⟨Nat.le_of_ble_eq_true rfl, Nat.le_of_ble_eq_true rfl⟩) hP hD hS hA [0, 1, 2, 3, 4, 5, 6] [] ([]) [h 0, h 1, h 2, h 3, h 4, h 5, h 6] 7 rfl (wn := wMo k h th f asd sl kp (svM sv f n) (nI (snM n)) tx ln dg) rfl rfl rfl rfl (by decide +kernel) rfl rfl (fun H locs hP hD hS => ?_)
  clear hPc hDc
  refine lv_aload_n hx hb dX5_lays_4 rfl (lv_at hl 0 rfl) ?_
  refine va_get (D := D) (ci := 5) (v := .ref (h 1)) (C := RX5) (T := TX5) (N := 10) hx hb hts (fun _ h9 => (List.mem_cons_of_mem _ (List.mem_append_right _ h9))) hown hK hP 0 rfl rfl 1 (by decide) (hts _ (List.mem_of_getElem? (i := 1) rfl)) (fun _ h9 => h9) rfl dX5_lays_5 ?_
  refine lv_iload_n hx hb dX5_lays_8 rfl (lv_at hl 1 rfl) ?_
  refine ar_ld hx hb hK hP 1 rfl at_ (nI_clamp (by omega)) (vp_in_nI (by omega) (by omega)) dX5_lays_9 ?_
  refine lv_istore_n (lv' := [(3, .int (f at_)), (0, .ref (h 0)), (1, .int (nI at_)), (2, .int v)]) hx hb dX5_lays_10 rfl hl (by decide) rfl (fun ls hl => ?_)
  refine lv_aload_n hx hb dX5_lays_11 rfl (lv_at hl 1 rfl) ?_
  refine va_get (D := D) (ci := 5) (v := .ref (h 1)) (C := RX5) (T := TX5) (N := 10) hx hb hts (fun _ h9 => (List.mem_cons_of_mem _ (List.mem_append_right _ h9))) hown hK hP 0 rfl rfl 1 (by decide) (hts _ (List.mem_of_getElem? (i := 1) rfl)) (fun _ h9 => h9) rfl dX5_lays_12 ?_
  refine lv_iload_n hx hb dX5_lays_15 rfl (lv_at hl 2 rfl) ?_
  refine lv_iload_n hx hb dX5_lays_16 rfl (lv_at hl 3 rfl) ?_
  refine ar_st hx hb hK hP hD hS 1 rfl at_ (nI_clamp (by omega)) (vp_in_nI (by omega) (by omega)) dX5_lays_17 (wn := [(h 0, .inr (5, [.int th, .ref (h 1), .ref (h 2), .ref (h 3), .ref (h 4), .ref (h 5), .int (nI (snM n)), .ref (h 6), .int ln, .long dg])), (h 1, .inl (k 0, 72, .inl (upd f at_ v))), (h 2, .inl (k 0, 72, .inl asd)), (h 3, .inl (k 0, 144, .inl sl)), (h 4, .inl (k 1, 2, .inl kp)), (h 5, .inl (k 0, 432, .inl (svM sv f n))), (h 6, .inl (k 0, 60, .inl tx))]) rfl (fun H locs hP hD hS => ?_)
  refine lv_aload_n hx hb dX5_lays_18 rfl (lv_at hl 1 rfl) ?_
  have hPc : va_P D vwCl (wMo k h th (upd f at_ v) asd sl kp (svM sv f n) (nI (snM n)) tx ln dg) H := hP.sub [0, 1, 2, 3, 4, 5, 6] rfl
  have hDc : va_D A (wMo k h th (upd f at_ v) asd sl kp (svM sv f n) (nI (snM n)) tx ln dg) := hD.sub [0, 1, 2, 3, 4, 5, 6] (by decide +kernel) rfl
  refine cl_v (va_runV (As := []) (rest := []) ⟨hx, hb, hml, hown, hts⟩ (c_X5_anew l D k h th (upd f at_ v) asd sl kp (svM sv f n) (nI (snM n)) tx ln dg  H.size) (cwV 0 hts gX5_lays_X5_anew rfl rfl rfl (by decide +kernel) ⟨Nat.le_of_ble_eq_true rfl, Nat.le_of_ble_eq_true rfl⟩) ⟨pr_blind, va_recv hK hP (ci := 5) (q0 := 0) rfl rfl, pr_at hN hPc hK hDc⟩ rfl rfl hl.1 rfl (lv_room (Nat.le_of_ble_eq_true rfl)) dX5_lays_19 ⟨Nat.le_of_ble_eq_true rfl, Nat.le_of_ble_eq_true rfl⟩) hP hD hS hA [0, 1, 2, 3, 4, 5, 6] [] ([]) [h 0, h 1, h 2, h 3, h 4, h 5, h 6] 7 rfl (wn := wMo k h th (anM (upd f at_ v)) asd sl kp (svM sv f n) (nI (snM n)) tx ln dg) rfl rfl rfl rfl (by decide +kernel) rfl rfl (fun H locs hP hD hS => ?_)
  clear hPc hDc
  refine lv_iload_n hx hb dX5_lays_22 rfl (lv_at hl 0 rfl) ?_
  subst hQ
  exact rt_i hx hb hr hlocks hS dX5_lays_23 (hP) (rfl)

set_option maxHeartbeats 1000000 in
set_option maxRecDepth 100000 in
theorem c_X5_cover (l : Launch) (D : va_G) (k : Nat → ClassId) (h : Nat → Nat) (th : Int32) (f asd sl kp sv : Nat → Int32) (tx : Nat → Int32) (ln : Int32) (dg : Int64) (n : Nat) (q cv : Nat) (hn : n ≤ 6) (hq : q < 9) (hcv : cv ≤ 999) : MI l yX5_cover wsX5_cover ({ frames := 2, cells := 0, slots := 0, locals := 44 }) D k [.ref (h 0), .int (nI q), .int (nI cv)] (wMo k h th f asd sl kp sv (nI n) tx ln dg) (f (0 + q)) (wMo k h 0 (anM (upd f (0 + q) (nI cv))) asd sl kp (svM sv f n) (nI (snM n)) tx ln dg) := by
  intro sz
  refine Met.ofW (cc := cX5_cover) (maxL := 3) (ret := (some .int)) (by decide) rfl ?_
  intro p e s m args below meth c s₁ B hml hv
  obtain ⟨rfl, hN, hsz, hP, hK, hD0⟩ := hv
  have hx := B.exec
  have hb := B.bytes
  have hr := B.returns
  have hts := atoms_spec (ws := wsX5_cover) B.pre
  have hown : s.vm.findClass RX5 = some m.cls := findClass_of_methodNamed B.named
  have hlocks := B.notSynchronized
  subst hsz
  have hD := hD0.self (sz := s.heap.size)
  generalize hAe : va_A (wMo k h th f asd sl kp sv (nI n) tx ln dg) s.heap.size = A at hD ⊢
  have hA : ∀ q : Nat, s.heap.size ≤ q → A q := fun q h => by rw [← hAe]; exact Or.inr h
  have hS : va_S A s.heap s.heap [] := va_S.rf
  have hl := lv_entry ([.ref (h 0), .int (nI q), .int (nI cv)]) (n := 3) (Nat.le_of_ble_eq_true rfl)
  rw [lg_entry_eq]
  generalize (lg_sl ([.ref (h 0), .int (nI q), .int (nI cv)]) ++ List.replicate (3 - (lg_sl ([.ref (h 0), .int (nI q), .int (nI cv)])).length) Slot.unset).toArray = ls at hl ⊢
  have hl : lv_has ls 3 [(0, .ref (h 0)), (1, .int (nI q)), (2, .int (nI cv))] := hl
  obtain ⟨H, hHe⟩ : ∃ H, H = s.heap := ⟨_, rfl⟩
  have hP : va_P D vwCl (wMo k h th f asd sl kp sv (nI n) tx ln dg) H := by rw [hHe]; exact hP
  have hS : va_S A s.heap H [] := by rw [hHe]; exact hS
  rw [← hHe]
  refine absQ (fun Q hQ => ?_)
  refine lv_aload_n hx hb dX5_cover_0 rfl (lv_at hl 0 rfl) ?_
  refine lv_iload_n hx hb dX5_cover_1 rfl (lv_at hl 1 rfl) ?_
  have hPc : va_P D vwCl ([]) H := hP.sub [] rfl
  have hDc : va_D A ([]) := hD.sub [] (by decide +kernel) rfl
  refine cl_i0 (va_runS (As := [.int (nI q)]) (rest := [.ref (h 0)]) ⟨hx, hb, hml, hown, hts⟩ (c_X5_isPiece l D k (nI q) H.size) (va_cwS 1 hts gX5_cover_X5_isPiece rfl rfl rfl (by decide +kernel) ⟨Nat.le_of_ble_eq_true rfl, Nat.le_of_ble_eq_true rfl⟩) ⟨pr_blind, pr_at hN hPc hK hDc⟩ rfl rfl hl.1 rfl (lv_room (Nat.le_of_ble_eq_true rfl)) dX5_cover_2 ⟨Nat.le_of_ble_eq_true rfl, Nat.le_of_ble_eq_true rfl⟩) hP hD hS hA [] rfl (fun H locs hP hD hS => ?_)
  clear hPc hDc
  refine lv_if_ne (tgt := 12) hx hb dX5_cover_5 (by decide) (fun c_1 => ?_) (fun c_1 => ?_)
  · have c_1 := bI_ne.mp c_1
    refine lv_iload_n hx hb dX5_cover_12 rfl (lv_at hl 2 rfl) ?_
    refine lv_iconst (v := 0) hx hb dX5_cover_13 (by decide) ?_
    refine lv_sipush (v := 999) hx hb dX5_cover_14 (by decide) ?_
    have hPc : va_P D vwCl ([]) H := hP.sub [] rfl
    have hDc : va_D A ([]) := hD.sub [] (by decide +kernel) rfl
    refine cl_i0 (va_runS (As := [.int (nI cv), .int 0, .int 999]) (rest := [.ref (h 0)]) ⟨hx, hb, hml, hown, hts⟩ (c_X5_in l D k (nI cv) 0 999 H.size) (va_cwS 3 hts gX5_cover_X5_in rfl rfl rfl (by decide +kernel) ⟨Nat.le_of_ble_eq_true rfl, Nat.le_of_ble_eq_true rfl⟩) ⟨pr_blind, pr_at hN hPc hK hDc⟩ rfl rfl hl.1 rfl (lv_room (Nat.le_of_ble_eq_true rfl)) dX5_cover_17 ⟨Nat.le_of_ble_eq_true rfl, Nat.le_of_ble_eq_true rfl⟩) hP hD hS hA [] rfl (fun H locs hP hD hS => ?_)
    clear hPc hDc
    refine lv_if_ne (tgt := 27) hx hb dX5_cover_20 (by decide) (fun c_2 => ?_) (fun c_2 => ?_)
    · have c_2 := bI_ne.mp c_2
      refine lv_iconst (v := 0) hx hb dX5_cover_27 (by decide) ?_
      have hPc : va_P D vwCl (wMo k h th f asd sl kp sv (nI n) tx ln dg) H := hP.sub [0, 1, 2, 3, 4, 5, 6] rfl
      have hDc : va_D A (wMo k h th f asd sl kp sv (nI n) tx ln dg) := hD.sub [0, 1, 2, 3, 4, 5, 6] (by decide +kernel) rfl
      refine cl_i (va_runV (As := [.int 0]) (rest := []) ⟨hx, hb, hml, hown, hts⟩ (c_X5_holds l D k h th f asd sl kp sv (nI n) tx ln dg 0 H.size) (cwV 1 hts gX5_cover_X5_holds rfl rfl rfl (by decide +kernel) ⟨Nat.le_of_ble_eq_true rfl, Nat.le_of_ble_eq_true rfl⟩) ⟨pr_blind, va_recv hK hP (ci := 5) (q0 := 0) rfl rfl, pr_at hN hPc hK hDc⟩ rfl rfl hl.1 rfl (lv_room (Nat.le_of_ble_eq_true rfl)) dX5_cover_28 ⟨Nat.le_of_ble_eq_true rfl, Nat.le_of_ble_eq_true rfl⟩) hP hD hS hA [0, 1, 2, 3, 4, 5, 6] [] ([]) [h 0, h 1, h 2, h 3, h 4, h 5, h 6] 7 rfl (wn := wMo k h 0 f asd sl kp sv (nI n) tx ln dg) rfl rfl rfl rfl (by decide +kernel) rfl rfl (fun H locs hP hD hS => ?_)
      clear hPc hDc
      refine tp_e (y := 1) (by decide) ?_
      refine lv_if_eq (tgt := 45) hx hb dX5_cover_31 (by decide) (fun c_3 => ?_) (fun c_3 => ?_)
      · exact absurd c_3 (by decide)
      · refine lv_aload_n hx hb dX5_cover_34 rfl (lv_at hl 0 rfl) ?_
        refine lv_iconst (v := 0) hx hb dX5_cover_35 (by decide) ?_
        refine lv_iload_n hx hb dX5_cover_36 rfl (lv_at hl 1 rfl) ?_
        refine lv_iadd hx hb dX5_cover_37 ?_
        refine tp_e (y := (nI (0 + q))) (nI_add 0 q) ?_
        refine lv_iload_n hx hb dX5_cover_38 rfl (lv_at hl 2 rfl) ?_
        have hPc : va_P D vwCl (wMo k h 0 f asd sl kp sv (nI n) tx ln dg) H := hP.sub [0, 1, 2, 3, 4, 5, 6] rfl
        have hDc : va_D A (wMo k h 0 f asd sl kp sv (nI n) tx ln dg) := hD.sub [0, 1, 2, 3, 4, 5, 6] (by decide +kernel) rfl
        refine cl_i (va_runV (As := [.int (nI (0 + q)), .int (nI cv)]) (rest := []) ⟨hx, hb, hml, hown, hts⟩ (c_X5_lays l D k h 0 f asd sl kp sv tx ln dg n (0 + q) (nI cv) hn (by omega) H.size) (cwV 2 hts gX5_cover_X5_lays rfl rfl rfl (by decide +kernel) ⟨Nat.le_of_ble_eq_true rfl, Nat.le_of_ble_eq_true rfl⟩) ⟨pr_blind, va_recv hK hP (ci := 5) (q0 := 0) rfl rfl, pr_at hN hPc hK hDc⟩ rfl rfl hl.1 rfl (lv_room (Nat.le_of_ble_eq_true rfl)) dX5_cover_39 ⟨Nat.le_of_ble_eq_true rfl, Nat.le_of_ble_eq_true rfl⟩) hP hD hS hA [0, 1, 2, 3, 4, 5, 6] [] ([]) [h 0, h 1, h 2, h 3, h 4, h 5, h 6] 7 rfl (wn := wMo k h 0 (anM (upd f (0 + q) (nI cv))) asd sl kp (svM sv f n) (nI (snM n)) tx ln dg) rfl rfl rfl rfl (by decide +kernel) rfl rfl (fun H locs hP hD hS => ?_)
        clear hPc hDc
        refine lv_goto (tgt := 46) hx hb dX5_cover_42 (by decide) ?_
        subst hQ
        exact rt_i hx hb hr hlocks hS dX5_cover_46 (hP) (rfl)
    · have c_2 := bI_eq.mp c_2
      exact absurd c_2 (by rw [(show inB (nI cv) 0 999 = true from inB_n (a := 0) (b := 999) (by omega) (by omega) (by omega))]; decide)
  · have c_1 := bI_eq.mp c_1
    exact absurd c_1 (by rw [(show inB (nI q) 0 8 = true from inB_n (a := 0) (b := 8) (by omega) (by omega) (by omega))]; decide)

set_option maxHeartbeats 1000000 in
set_option maxRecDepth 100000 in
theorem c_X5_cover_x1 (l : Launch) (D : va_G) (k : Nat → ClassId) (h : Nat → Nat) (th : Int32) (f asd sl kp sv : Nat → Int32) (sm : Int32) (tx : Nat → Int32) (ln : Int32) (dg : Int64) (p0 p1 : Int32) (h1 : inB p0 0 8 = false) : MI l yX5_cover wsX5_cover ({ frames := 2, cells := 0, slots := 0, locals := 42 }) D k [.ref (h 0), .int p0, .int p1] (wMo k h th f asd sl kp sv sm tx ln dg) 0 (wMo k h 1 f asd sl kp sv sm tx ln dg) := by
  intro sz
  refine Met.ofW (cc := cX5_cover) (maxL := 3) (ret := (some .int)) (by decide) rfl ?_
  intro p e s m args below meth c s₁ B hml hv
  obtain ⟨rfl, hN, hsz, hP, hK, hD0⟩ := hv
  have hx := B.exec
  have hb := B.bytes
  have hr := B.returns
  have hts := atoms_spec (ws := wsX5_cover) B.pre
  have hown : s.vm.findClass RX5 = some m.cls := findClass_of_methodNamed B.named
  have hlocks := B.notSynchronized
  subst hsz
  have hD := hD0.self (sz := s.heap.size)
  generalize hAe : va_A (wMo k h th f asd sl kp sv sm tx ln dg) s.heap.size = A at hD ⊢
  have hA : ∀ q : Nat, s.heap.size ≤ q → A q := fun q h => by rw [← hAe]; exact Or.inr h
  have hS : va_S A s.heap s.heap [] := va_S.rf
  have hl := lv_entry ([.ref (h 0), .int p0, .int p1]) (n := 3) (Nat.le_of_ble_eq_true rfl)
  rw [lg_entry_eq]
  generalize (lg_sl ([.ref (h 0), .int p0, .int p1]) ++ List.replicate (3 - (lg_sl ([.ref (h 0), .int p0, .int p1])).length) Slot.unset).toArray = ls at hl ⊢
  have hl : lv_has ls 3 [(0, .ref (h 0)), (1, .int p0), (2, .int p1)] := hl
  obtain ⟨H, hHe⟩ : ∃ H, H = s.heap := ⟨_, rfl⟩
  have hP : va_P D vwCl (wMo k h th f asd sl kp sv sm tx ln dg) H := by rw [hHe]; exact hP
  have hS : va_S A s.heap H [] := by rw [hHe]; exact hS
  rw [← hHe]
  refine absQ (fun Q hQ => ?_)
  refine lv_aload_n hx hb dX5_cover_0 rfl (lv_at hl 0 rfl) ?_
  refine lv_iload_n hx hb dX5_cover_1 rfl (lv_at hl 1 rfl) ?_
  have hPc : va_P D vwCl ([]) H := hP.sub [] rfl
  have hDc : va_D A ([]) := hD.sub [] (by decide +kernel) rfl
  refine cl_i0 (va_runS (As := [.int p0]) (rest := [.ref (h 0)]) ⟨hx, hb, hml, hown, hts⟩ (c_X5_isPiece l D k p0 H.size) (va_cwS 1 hts gX5_cover_X5_isPiece rfl rfl rfl (by decide +kernel) ⟨Nat.le_of_ble_eq_true rfl, Nat.le_of_ble_eq_true rfl⟩) ⟨pr_blind, pr_at hN hPc hK hDc⟩ rfl rfl hl.1 rfl (lv_room (Nat.le_of_ble_eq_true rfl)) dX5_cover_2 ⟨Nat.le_of_ble_eq_true rfl, Nat.le_of_ble_eq_true rfl⟩) hP hD hS hA [] rfl (fun H locs hP hD hS => ?_)
  clear hPc hDc
  refine lv_if_ne (tgt := 12) hx hb dX5_cover_5 (by decide) (fun c_1 => ?_) (fun c_1 => ?_)
  · have c_1 := bI_ne.mp c_1
    exact absurd c_1 (by rw [h1]; decide)
  · have c_1 := bI_eq.mp c_1
    refine lv_iconst (v := 1) hx hb dX5_cover_8 (by decide) ?_
    refine lv_goto (tgt := 28) hx hb dX5_cover_9 (by decide) ?_
    have hPc : va_P D vwCl (wMo k h th f asd sl kp sv sm tx ln dg) H := hP.sub [0, 1, 2, 3, 4, 5, 6] rfl
    have hDc : va_D A (wMo k h th f asd sl kp sv sm tx ln dg) := hD.sub [0, 1, 2, 3, 4, 5, 6] (by decide +kernel) rfl
    refine cl_i (va_runV (As := [.int 1]) (rest := []) ⟨hx, hb, hml, hown, hts⟩ (c_X5_holds l D k h th f asd sl kp sv sm tx ln dg 1 H.size) (cwV 1 hts gX5_cover_X5_holds rfl rfl rfl (by decide +kernel) ⟨Nat.le_of_ble_eq_true rfl, Nat.le_of_ble_eq_true rfl⟩) ⟨pr_blind, va_recv hK hP (ci := 5) (q0 := 0) rfl rfl, pr_at hN hPc hK hDc⟩ rfl rfl hl.1 rfl (lv_room (Nat.le_of_ble_eq_true rfl)) dX5_cover_28 ⟨Nat.le_of_ble_eq_true rfl, Nat.le_of_ble_eq_true rfl⟩) hP hD hS hA [0, 1, 2, 3, 4, 5, 6] [] ([]) [h 0, h 1, h 2, h 3, h 4, h 5, h 6] 7 rfl (wn := wMo k h 1 f asd sl kp sv sm tx ln dg) rfl rfl rfl rfl (by decide +kernel) rfl rfl (fun H locs hP hD hS => ?_)
    clear hPc hDc
    refine tp_e (y := 0) (by decide) ?_
    refine lv_if_eq (tgt := 45) hx hb dX5_cover_31 (by decide) (fun c_2 => ?_) (fun c_2 => ?_)
    · refine lv_iconst (v := 0) hx hb dX5_cover_45 (by decide) ?_
      subst hQ
      exact rt_i hx hb hr hlocks hS dX5_cover_46 (hP) (rfl)
    · exact absurd c_2 (by decide)

set_option maxHeartbeats 1000000 in
set_option maxRecDepth 100000 in
theorem c_X5_cover_x2 (l : Launch) (D : va_G) (k : Nat → ClassId) (h : Nat → Nat) (th : Int32) (f asd sl kp sv : Nat → Int32) (sm : Int32) (tx : Nat → Int32) (ln : Int32) (dg : Int64) (p0 p1 : Int32) (h1 : inB p0 0 8 = true) (h2 : inB p1 0 999 = false) : MI l yX5_cover wsX5_cover ({ frames := 2, cells := 0, slots := 0, locals := 42 }) D k [.ref (h 0), .int p0, .int p1] (wMo k h th f asd sl kp sv sm tx ln dg) 0 (wMo k h 2 f asd sl kp sv sm tx ln dg) := by
  intro sz
  refine Met.ofW (cc := cX5_cover) (maxL := 3) (ret := (some .int)) (by decide) rfl ?_
  intro p e s m args below meth c s₁ B hml hv
  obtain ⟨rfl, hN, hsz, hP, hK, hD0⟩ := hv
  have hx := B.exec
  have hb := B.bytes
  have hr := B.returns
  have hts := atoms_spec (ws := wsX5_cover) B.pre
  have hown : s.vm.findClass RX5 = some m.cls := findClass_of_methodNamed B.named
  have hlocks := B.notSynchronized
  subst hsz
  have hD := hD0.self (sz := s.heap.size)
  generalize hAe : va_A (wMo k h th f asd sl kp sv sm tx ln dg) s.heap.size = A at hD ⊢
  have hA : ∀ q : Nat, s.heap.size ≤ q → A q := fun q h => by rw [← hAe]; exact Or.inr h
  have hS : va_S A s.heap s.heap [] := va_S.rf
  have hl := lv_entry ([.ref (h 0), .int p0, .int p1]) (n := 3) (Nat.le_of_ble_eq_true rfl)
  rw [lg_entry_eq]
  generalize (lg_sl ([.ref (h 0), .int p0, .int p1]) ++ List.replicate (3 - (lg_sl ([.ref (h 0), .int p0, .int p1])).length) Slot.unset).toArray = ls at hl ⊢
  have hl : lv_has ls 3 [(0, .ref (h 0)), (1, .int p0), (2, .int p1)] := hl
  obtain ⟨H, hHe⟩ : ∃ H, H = s.heap := ⟨_, rfl⟩
  have hP : va_P D vwCl (wMo k h th f asd sl kp sv sm tx ln dg) H := by rw [hHe]; exact hP
  have hS : va_S A s.heap H [] := by rw [hHe]; exact hS
  rw [← hHe]
  refine absQ (fun Q hQ => ?_)
  refine lv_aload_n hx hb dX5_cover_0 rfl (lv_at hl 0 rfl) ?_
  refine lv_iload_n hx hb dX5_cover_1 rfl (lv_at hl 1 rfl) ?_
  have hPc : va_P D vwCl ([]) H := hP.sub [] rfl
  have hDc : va_D A ([]) := hD.sub [] (by decide +kernel) rfl
  refine cl_i0 (va_runS (As := [.int p0]) (rest := [.ref (h 0)]) ⟨hx, hb, hml, hown, hts⟩ (c_X5_isPiece l D k p0 H.size) (va_cwS 1 hts gX5_cover_X5_isPiece rfl rfl rfl (by decide +kernel) ⟨Nat.le_of_ble_eq_true rfl, Nat.le_of_ble_eq_true rfl⟩) ⟨pr_blind, pr_at hN hPc hK hDc⟩ rfl rfl hl.1 rfl (lv_room (Nat.le_of_ble_eq_true rfl)) dX5_cover_2 ⟨Nat.le_of_ble_eq_true rfl, Nat.le_of_ble_eq_true rfl⟩) hP hD hS hA [] rfl (fun H locs hP hD hS => ?_)
  clear hPc hDc
  refine lv_if_ne (tgt := 12) hx hb dX5_cover_5 (by decide) (fun c_1 => ?_) (fun c_1 => ?_)
  · have c_1 := bI_ne.mp c_1
    refine lv_iload_n hx hb dX5_cover_12 rfl (lv_at hl 2 rfl) ?_
    refine lv_iconst (v := 0) hx hb dX5_cover_13 (by decide) ?_
    refine lv_sipush (v := 999) hx hb dX5_cover_14 (by decide) ?_
    have hPc : va_P D vwCl ([]) H := hP.sub [] rfl
    have hDc : va_D A ([]) := hD.sub [] (by decide +kernel) rfl
    refine cl_i0 (va_runS (As := [.int p1, .int 0, .int 999]) (rest := [.ref (h 0)]) ⟨hx, hb, hml, hown, hts⟩ (c_X5_in l D k p1 0 999 H.size) (va_cwS 3 hts gX5_cover_X5_in rfl rfl rfl (by decide +kernel) ⟨Nat.le_of_ble_eq_true rfl, Nat.le_of_ble_eq_true rfl⟩) ⟨pr_blind, pr_at hN hPc hK hDc⟩ rfl rfl hl.1 rfl (lv_room (Nat.le_of_ble_eq_true rfl)) dX5_cover_17 ⟨Nat.le_of_ble_eq_true rfl, Nat.le_of_ble_eq_true rfl⟩) hP hD hS hA [] rfl (fun H locs hP hD hS => ?_)
    clear hPc hDc
    refine lv_if_ne (tgt := 27) hx hb dX5_cover_20 (by decide) (fun c_2 => ?_) (fun c_2 => ?_)
    · have c_2 := bI_ne.mp c_2
      exact absurd c_2 (by rw [h2]; decide)
    · have c_2 := bI_eq.mp c_2
      refine lv_iconst (v := 2) hx hb dX5_cover_23 (by decide) ?_
      refine lv_goto (tgt := 28) hx hb dX5_cover_24 (by decide) ?_
      have hPc : va_P D vwCl (wMo k h th f asd sl kp sv sm tx ln dg) H := hP.sub [0, 1, 2, 3, 4, 5, 6] rfl
      have hDc : va_D A (wMo k h th f asd sl kp sv sm tx ln dg) := hD.sub [0, 1, 2, 3, 4, 5, 6] (by decide +kernel) rfl
      refine cl_i (va_runV (As := [.int 2]) (rest := []) ⟨hx, hb, hml, hown, hts⟩ (c_X5_holds l D k h th f asd sl kp sv sm tx ln dg 2 H.size) (cwV 1 hts gX5_cover_X5_holds rfl rfl rfl (by decide +kernel) ⟨Nat.le_of_ble_eq_true rfl, Nat.le_of_ble_eq_true rfl⟩) ⟨pr_blind, va_recv hK hP (ci := 5) (q0 := 0) rfl rfl, pr_at hN hPc hK hDc⟩ rfl rfl hl.1 rfl (lv_room (Nat.le_of_ble_eq_true rfl)) dX5_cover_28 ⟨Nat.le_of_ble_eq_true rfl, Nat.le_of_ble_eq_true rfl⟩) hP hD hS hA [0, 1, 2, 3, 4, 5, 6] [] ([]) [h 0, h 1, h 2, h 3, h 4, h 5, h 6] 7 rfl (wn := wMo k h 2 f asd sl kp sv sm tx ln dg) rfl rfl rfl rfl (by decide +kernel) rfl rfl (fun H locs hP hD hS => ?_)
      clear hPc hDc
      refine tp_e (y := 0) (by decide) ?_
      refine lv_if_eq (tgt := 45) hx hb dX5_cover_31 (by decide) (fun c_3 => ?_) (fun c_3 => ?_)
      · refine lv_iconst (v := 0) hx hb dX5_cover_45 (by decide) ?_
        subst hQ
        exact rt_i hx hb hr hlocks hS dX5_cover_46 (hP) (rfl)
      · exact absurd c_3 (by decide)
  · have c_1 := bI_eq.mp c_1
    exact absurd c_1 (by rw [h1]; decide)

set_option maxHeartbeats 1000000 in
set_option maxRecDepth 100000 in
theorem c_X5_mark (l : Launch) (D : va_G) (k : Nat → ClassId) (h : Nat → Nat) (th : Int32) (f asd sl kp sv : Nat → Int32) (tx : Nat → Int32) (ln : Int32) (dg : Int64) (n : Nat) (q w : Nat) (hn : n ≤ 6) (hq : q < 9) (hw : w ≤ 3) : MI l yX5_mark wsX5_mark ({ frames := 2, cells := 0, slots := 0, locals := 44 }) D k [.ref (h 0), .int (nI q), .int (nI w)] (wMo k h th f asd sl kp sv (nI n) tx ln dg) (f (18 + q)) (wMo k h 0 (anM (upd f (18 + q) (nI w))) asd sl kp (svM sv f n) (nI (snM n)) tx ln dg) := by
  intro sz
  refine Met.ofW (cc := cX5_mark) (maxL := 3) (ret := (some .int)) (by decide) rfl ?_
  intro p e s m args below meth c s₁ B hml hv
  obtain ⟨rfl, hN, hsz, hP, hK, hD0⟩ := hv
  have hx := B.exec
  have hb := B.bytes
  have hr := B.returns
  have hts := atoms_spec (ws := wsX5_mark) B.pre
  have hown : s.vm.findClass RX5 = some m.cls := findClass_of_methodNamed B.named
  have hlocks := B.notSynchronized
  subst hsz
  have hD := hD0.self (sz := s.heap.size)
  generalize hAe : va_A (wMo k h th f asd sl kp sv (nI n) tx ln dg) s.heap.size = A at hD ⊢
  have hA : ∀ q : Nat, s.heap.size ≤ q → A q := fun q h => by rw [← hAe]; exact Or.inr h
  have hS : va_S A s.heap s.heap [] := va_S.rf
  have hl := lv_entry ([.ref (h 0), .int (nI q), .int (nI w)]) (n := 3) (Nat.le_of_ble_eq_true rfl)
  rw [lg_entry_eq]
  generalize (lg_sl ([.ref (h 0), .int (nI q), .int (nI w)]) ++ List.replicate (3 - (lg_sl ([.ref (h 0), .int (nI q), .int (nI w)])).length) Slot.unset).toArray = ls at hl ⊢
  have hl : lv_has ls 3 [(0, .ref (h 0)), (1, .int (nI q)), (2, .int (nI w))] := hl
  obtain ⟨H, hHe⟩ : ∃ H, H = s.heap := ⟨_, rfl⟩
  have hP : va_P D vwCl (wMo k h th f asd sl kp sv (nI n) tx ln dg) H := by rw [hHe]; exact hP
  have hS : va_S A s.heap H [] := by rw [hHe]; exact hS
  rw [← hHe]
  refine absQ (fun Q hQ => ?_)
  refine lv_aload_n hx hb dX5_mark_0 rfl (lv_at hl 0 rfl) ?_
  refine lv_iload_n hx hb dX5_mark_1 rfl (lv_at hl 1 rfl) ?_
  have hPc : va_P D vwCl ([]) H := hP.sub [] rfl
  have hDc : va_D A ([]) := hD.sub [] (by decide +kernel) rfl
  refine cl_i0 (va_runS (As := [.int (nI q)]) (rest := [.ref (h 0)]) ⟨hx, hb, hml, hown, hts⟩ (c_X5_isPiece l D k (nI q) H.size) (va_cwS 1 hts gX5_mark_X5_isPiece rfl rfl rfl (by decide +kernel) ⟨Nat.le_of_ble_eq_true rfl, Nat.le_of_ble_eq_true rfl⟩) ⟨pr_blind, pr_at hN hPc hK hDc⟩ rfl rfl hl.1 rfl (lv_room (Nat.le_of_ble_eq_true rfl)) dX5_mark_2 ⟨Nat.le_of_ble_eq_true rfl, Nat.le_of_ble_eq_true rfl⟩) hP hD hS hA [] rfl (fun H locs hP hD hS => ?_)
  clear hPc hDc
  refine lv_if_ne (tgt := 12) hx hb dX5_mark_5 (by decide) (fun c_1 => ?_) (fun c_1 => ?_)
  · have c_1 := bI_ne.mp c_1
    refine lv_iload_n hx hb dX5_mark_12 rfl (lv_at hl 2 rfl) ?_
    refine lv_iconst (v := 0) hx hb dX5_mark_13 (by decide) ?_
    refine lv_iconst (v := 3) hx hb dX5_mark_14 (by decide) ?_
    have hPc : va_P D vwCl ([]) H := hP.sub [] rfl
    have hDc : va_D A ([]) := hD.sub [] (by decide +kernel) rfl
    refine cl_i0 (va_runS (As := [.int (nI w), .int 0, .int 3]) (rest := [.ref (h 0)]) ⟨hx, hb, hml, hown, hts⟩ (c_X5_in l D k (nI w) 0 3 H.size) (va_cwS 3 hts gX5_mark_X5_in rfl rfl rfl (by decide +kernel) ⟨Nat.le_of_ble_eq_true rfl, Nat.le_of_ble_eq_true rfl⟩) ⟨pr_blind, pr_at hN hPc hK hDc⟩ rfl rfl hl.1 rfl (lv_room (Nat.le_of_ble_eq_true rfl)) dX5_mark_15 ⟨Nat.le_of_ble_eq_true rfl, Nat.le_of_ble_eq_true rfl⟩) hP hD hS hA [] rfl (fun H locs hP hD hS => ?_)
    clear hPc hDc
    refine lv_if_ne (tgt := 25) hx hb dX5_mark_18 (by decide) (fun c_2 => ?_) (fun c_2 => ?_)
    · have c_2 := bI_ne.mp c_2
      refine lv_iconst (v := 0) hx hb dX5_mark_25 (by decide) ?_
      have hPc : va_P D vwCl (wMo k h th f asd sl kp sv (nI n) tx ln dg) H := hP.sub [0, 1, 2, 3, 4, 5, 6] rfl
      have hDc : va_D A (wMo k h th f asd sl kp sv (nI n) tx ln dg) := hD.sub [0, 1, 2, 3, 4, 5, 6] (by decide +kernel) rfl
      refine cl_i (va_runV (As := [.int 0]) (rest := []) ⟨hx, hb, hml, hown, hts⟩ (c_X5_holds l D k h th f asd sl kp sv (nI n) tx ln dg 0 H.size) (cwV 1 hts gX5_mark_X5_holds rfl rfl rfl (by decide +kernel) ⟨Nat.le_of_ble_eq_true rfl, Nat.le_of_ble_eq_true rfl⟩) ⟨pr_blind, va_recv hK hP (ci := 5) (q0 := 0) rfl rfl, pr_at hN hPc hK hDc⟩ rfl rfl hl.1 rfl (lv_room (Nat.le_of_ble_eq_true rfl)) dX5_mark_26 ⟨Nat.le_of_ble_eq_true rfl, Nat.le_of_ble_eq_true rfl⟩) hP hD hS hA [0, 1, 2, 3, 4, 5, 6] [] ([]) [h 0, h 1, h 2, h 3, h 4, h 5, h 6] 7 rfl (wn := wMo k h 0 f asd sl kp sv (nI n) tx ln dg) rfl rfl rfl rfl (by decide +kernel) rfl rfl (fun H locs hP hD hS => ?_)
      clear hPc hDc
      refine tp_e (y := 1) (by decide) ?_
      refine lv_if_eq (tgt := 44) hx hb dX5_mark_29 (by decide) (fun c_3 => ?_) (fun c_3 => ?_)
      · exact absurd c_3 (by decide)
      · refine lv_aload_n hx hb dX5_mark_32 rfl (lv_at hl 0 rfl) ?_
        refine lv_bipush (v := 18) hx hb dX5_mark_33 (by decide) ?_
        refine lv_iload_n hx hb dX5_mark_35 rfl (lv_at hl 1 rfl) ?_
        refine lv_iadd hx hb dX5_mark_36 ?_
        refine tp_e (y := (nI (18 + q))) (nI_add 18 q) ?_
        refine lv_iload_n hx hb dX5_mark_37 rfl (lv_at hl 2 rfl) ?_
        have hPc : va_P D vwCl (wMo k h 0 f asd sl kp sv (nI n) tx ln dg) H := hP.sub [0, 1, 2, 3, 4, 5, 6] rfl
        have hDc : va_D A (wMo k h 0 f asd sl kp sv (nI n) tx ln dg) := hD.sub [0, 1, 2, 3, 4, 5, 6] (by decide +kernel) rfl
        refine cl_i (va_runV (As := [.int (nI (18 + q)), .int (nI w)]) (rest := []) ⟨hx, hb, hml, hown, hts⟩ (c_X5_lays l D k h 0 f asd sl kp sv tx ln dg n (18 + q) (nI w) hn (by omega) H.size) (cwV 2 hts gX5_mark_X5_lays rfl rfl rfl (by decide +kernel) ⟨Nat.le_of_ble_eq_true rfl, Nat.le_of_ble_eq_true rfl⟩) ⟨pr_blind, va_recv hK hP (ci := 5) (q0 := 0) rfl rfl, pr_at hN hPc hK hDc⟩ rfl rfl hl.1 rfl (lv_room (Nat.le_of_ble_eq_true rfl)) dX5_mark_38 ⟨Nat.le_of_ble_eq_true rfl, Nat.le_of_ble_eq_true rfl⟩) hP hD hS hA [0, 1, 2, 3, 4, 5, 6] [] ([]) [h 0, h 1, h 2, h 3, h 4, h 5, h 6] 7 rfl (wn := wMo k h 0 (anM (upd f (18 + q) (nI w))) asd sl kp (svM sv f n) (nI (snM n)) tx ln dg) rfl rfl rfl rfl (by decide +kernel) rfl rfl (fun H locs hP hD hS => ?_)
        clear hPc hDc
        refine lv_goto (tgt := 45) hx hb dX5_mark_41 (by decide) ?_
        subst hQ
        exact rt_i hx hb hr hlocks hS dX5_mark_45 (hP) (rfl)
    · have c_2 := bI_eq.mp c_2
      exact absurd c_2 (by rw [(show inB (nI w) 0 3 = true from inB_n (a := 0) (b := 3) (by omega) (by omega) (by omega))]; decide)
  · have c_1 := bI_eq.mp c_1
    exact absurd c_1 (by rw [(show inB (nI q) 0 8 = true from inB_n (a := 0) (b := 8) (by omega) (by omega) (by omega))]; decide)

set_option maxHeartbeats 1000000 in
set_option maxRecDepth 100000 in
theorem c_X5_mark_x1 (l : Launch) (D : va_G) (k : Nat → ClassId) (h : Nat → Nat) (th : Int32) (f asd sl kp sv : Nat → Int32) (sm : Int32) (tx : Nat → Int32) (ln : Int32) (dg : Int64) (p0 p1 : Int32) (h1 : inB p0 0 8 = false) : MI l yX5_mark wsX5_mark ({ frames := 2, cells := 0, slots := 0, locals := 42 }) D k [.ref (h 0), .int p0, .int p1] (wMo k h th f asd sl kp sv sm tx ln dg) 0 (wMo k h 1 f asd sl kp sv sm tx ln dg) := by
  intro sz
  refine Met.ofW (cc := cX5_mark) (maxL := 3) (ret := (some .int)) (by decide) rfl ?_
  intro p e s m args below meth c s₁ B hml hv
  obtain ⟨rfl, hN, hsz, hP, hK, hD0⟩ := hv
  have hx := B.exec
  have hb := B.bytes
  have hr := B.returns
  have hts := atoms_spec (ws := wsX5_mark) B.pre
  have hown : s.vm.findClass RX5 = some m.cls := findClass_of_methodNamed B.named
  have hlocks := B.notSynchronized
  subst hsz
  have hD := hD0.self (sz := s.heap.size)
  generalize hAe : va_A (wMo k h th f asd sl kp sv sm tx ln dg) s.heap.size = A at hD ⊢
  have hA : ∀ q : Nat, s.heap.size ≤ q → A q := fun q h => by rw [← hAe]; exact Or.inr h
  have hS : va_S A s.heap s.heap [] := va_S.rf
  have hl := lv_entry ([.ref (h 0), .int p0, .int p1]) (n := 3) (Nat.le_of_ble_eq_true rfl)
  rw [lg_entry_eq]
  generalize (lg_sl ([.ref (h 0), .int p0, .int p1]) ++ List.replicate (3 - (lg_sl ([.ref (h 0), .int p0, .int p1])).length) Slot.unset).toArray = ls at hl ⊢
  have hl : lv_has ls 3 [(0, .ref (h 0)), (1, .int p0), (2, .int p1)] := hl
  obtain ⟨H, hHe⟩ : ∃ H, H = s.heap := ⟨_, rfl⟩
  have hP : va_P D vwCl (wMo k h th f asd sl kp sv sm tx ln dg) H := by rw [hHe]; exact hP
  have hS : va_S A s.heap H [] := by rw [hHe]; exact hS
  rw [← hHe]
  refine absQ (fun Q hQ => ?_)
  refine lv_aload_n hx hb dX5_mark_0 rfl (lv_at hl 0 rfl) ?_
  refine lv_iload_n hx hb dX5_mark_1 rfl (lv_at hl 1 rfl) ?_
  have hPc : va_P D vwCl ([]) H := hP.sub [] rfl
  have hDc : va_D A ([]) := hD.sub [] (by decide +kernel) rfl
  refine cl_i0 (va_runS (As := [.int p0]) (rest := [.ref (h 0)]) ⟨hx, hb, hml, hown, hts⟩ (c_X5_isPiece l D k p0 H.size) (va_cwS 1 hts gX5_mark_X5_isPiece rfl rfl rfl (by decide +kernel) ⟨Nat.le_of_ble_eq_true rfl, Nat.le_of_ble_eq_true rfl⟩) ⟨pr_blind, pr_at hN hPc hK hDc⟩ rfl rfl hl.1 rfl (lv_room (Nat.le_of_ble_eq_true rfl)) dX5_mark_2 ⟨Nat.le_of_ble_eq_true rfl, Nat.le_of_ble_eq_true rfl⟩) hP hD hS hA [] rfl (fun H locs hP hD hS => ?_)
  clear hPc hDc
  refine lv_if_ne (tgt := 12) hx hb dX5_mark_5 (by decide) (fun c_1 => ?_) (fun c_1 => ?_)
  · have c_1 := bI_ne.mp c_1
    exact absurd c_1 (by rw [h1]; decide)
  · have c_1 := bI_eq.mp c_1
    refine lv_iconst (v := 1) hx hb dX5_mark_8 (by decide) ?_
    refine lv_goto (tgt := 26) hx hb dX5_mark_9 (by decide) ?_
    have hPc : va_P D vwCl (wMo k h th f asd sl kp sv sm tx ln dg) H := hP.sub [0, 1, 2, 3, 4, 5, 6] rfl
    have hDc : va_D A (wMo k h th f asd sl kp sv sm tx ln dg) := hD.sub [0, 1, 2, 3, 4, 5, 6] (by decide +kernel) rfl
    refine cl_i (va_runV (As := [.int 1]) (rest := []) ⟨hx, hb, hml, hown, hts⟩ (c_X5_holds l D k h th f asd sl kp sv sm tx ln dg 1 H.size) (cwV 1 hts gX5_mark_X5_holds rfl rfl rfl (by decide +kernel) ⟨Nat.le_of_ble_eq_true rfl, Nat.le_of_ble_eq_true rfl⟩) ⟨pr_blind, va_recv hK hP (ci := 5) (q0 := 0) rfl rfl, pr_at hN hPc hK hDc⟩ rfl rfl hl.1 rfl (lv_room (Nat.le_of_ble_eq_true rfl)) dX5_mark_26 ⟨Nat.le_of_ble_eq_true rfl, Nat.le_of_ble_eq_true rfl⟩) hP hD hS hA [0, 1, 2, 3, 4, 5, 6] [] ([]) [h 0, h 1, h 2, h 3, h 4, h 5, h 6] 7 rfl (wn := wMo k h 1 f asd sl kp sv sm tx ln dg) rfl rfl rfl rfl (by decide +kernel) rfl rfl (fun H locs hP hD hS => ?_)
    clear hPc hDc
    refine tp_e (y := 0) (by decide) ?_
    refine lv_if_eq (tgt := 44) hx hb dX5_mark_29 (by decide) (fun c_2 => ?_) (fun c_2 => ?_)
    · refine lv_iconst (v := 0) hx hb dX5_mark_44 (by decide) ?_
      subst hQ
      exact rt_i hx hb hr hlocks hS dX5_mark_45 (hP) (rfl)
    · exact absurd c_2 (by decide)

set_option maxHeartbeats 1000000 in
set_option maxRecDepth 100000 in
theorem c_X5_mark_x2 (l : Launch) (D : va_G) (k : Nat → ClassId) (h : Nat → Nat) (th : Int32) (f asd sl kp sv : Nat → Int32) (sm : Int32) (tx : Nat → Int32) (ln : Int32) (dg : Int64) (p0 p1 : Int32) (h1 : inB p0 0 8 = true) (h2 : inB p1 0 3 = false) : MI l yX5_mark wsX5_mark ({ frames := 2, cells := 0, slots := 0, locals := 42 }) D k [.ref (h 0), .int p0, .int p1] (wMo k h th f asd sl kp sv sm tx ln dg) 0 (wMo k h 2 f asd sl kp sv sm tx ln dg) := by
  intro sz
  refine Met.ofW (cc := cX5_mark) (maxL := 3) (ret := (some .int)) (by decide) rfl ?_
  intro p e s m args below meth c s₁ B hml hv
  obtain ⟨rfl, hN, hsz, hP, hK, hD0⟩ := hv
  have hx := B.exec
  have hb := B.bytes
  have hr := B.returns
  have hts := atoms_spec (ws := wsX5_mark) B.pre
  have hown : s.vm.findClass RX5 = some m.cls := findClass_of_methodNamed B.named
  have hlocks := B.notSynchronized
  subst hsz
  have hD := hD0.self (sz := s.heap.size)
  generalize hAe : va_A (wMo k h th f asd sl kp sv sm tx ln dg) s.heap.size = A at hD ⊢
  have hA : ∀ q : Nat, s.heap.size ≤ q → A q := fun q h => by rw [← hAe]; exact Or.inr h
  have hS : va_S A s.heap s.heap [] := va_S.rf
  have hl := lv_entry ([.ref (h 0), .int p0, .int p1]) (n := 3) (Nat.le_of_ble_eq_true rfl)
  rw [lg_entry_eq]
  generalize (lg_sl ([.ref (h 0), .int p0, .int p1]) ++ List.replicate (3 - (lg_sl ([.ref (h 0), .int p0, .int p1])).length) Slot.unset).toArray = ls at hl ⊢
  have hl : lv_has ls 3 [(0, .ref (h 0)), (1, .int p0), (2, .int p1)] := hl
  obtain ⟨H, hHe⟩ : ∃ H, H = s.heap := ⟨_, rfl⟩
  have hP : va_P D vwCl (wMo k h th f asd sl kp sv sm tx ln dg) H := by rw [hHe]; exact hP
  have hS : va_S A s.heap H [] := by rw [hHe]; exact hS
  rw [← hHe]
  refine absQ (fun Q hQ => ?_)
  refine lv_aload_n hx hb dX5_mark_0 rfl (lv_at hl 0 rfl) ?_
  refine lv_iload_n hx hb dX5_mark_1 rfl (lv_at hl 1 rfl) ?_
  have hPc : va_P D vwCl ([]) H := hP.sub [] rfl
  have hDc : va_D A ([]) := hD.sub [] (by decide +kernel) rfl
  refine cl_i0 (va_runS (As := [.int p0]) (rest := [.ref (h 0)]) ⟨hx, hb, hml, hown, hts⟩ (c_X5_isPiece l D k p0 H.size) (va_cwS 1 hts gX5_mark_X5_isPiece rfl rfl rfl (by decide +kernel) ⟨Nat.le_of_ble_eq_true rfl, Nat.le_of_ble_eq_true rfl⟩) ⟨pr_blind, pr_at hN hPc hK hDc⟩ rfl rfl hl.1 rfl (lv_room (Nat.le_of_ble_eq_true rfl)) dX5_mark_2 ⟨Nat.le_of_ble_eq_true rfl, Nat.le_of_ble_eq_true rfl⟩) hP hD hS hA [] rfl (fun H locs hP hD hS => ?_)
  clear hPc hDc
  refine lv_if_ne (tgt := 12) hx hb dX5_mark_5 (by decide) (fun c_1 => ?_) (fun c_1 => ?_)
  · have c_1 := bI_ne.mp c_1
    refine lv_iload_n hx hb dX5_mark_12 rfl (lv_at hl 2 rfl) ?_
    refine lv_iconst (v := 0) hx hb dX5_mark_13 (by decide) ?_
    refine lv_iconst (v := 3) hx hb dX5_mark_14 (by decide) ?_
    have hPc : va_P D vwCl ([]) H := hP.sub [] rfl
    have hDc : va_D A ([]) := hD.sub [] (by decide +kernel) rfl
    refine cl_i0 (va_runS (As := [.int p1, .int 0, .int 3]) (rest := [.ref (h 0)]) ⟨hx, hb, hml, hown, hts⟩ (c_X5_in l D k p1 0 3 H.size) (va_cwS 3 hts gX5_mark_X5_in rfl rfl rfl (by decide +kernel) ⟨Nat.le_of_ble_eq_true rfl, Nat.le_of_ble_eq_true rfl⟩) ⟨pr_blind, pr_at hN hPc hK hDc⟩ rfl rfl hl.1 rfl (lv_room (Nat.le_of_ble_eq_true rfl)) dX5_mark_15 ⟨Nat.le_of_ble_eq_true rfl, Nat.le_of_ble_eq_true rfl⟩) hP hD hS hA [] rfl (fun H locs hP hD hS => ?_)
    clear hPc hDc
    refine lv_if_ne (tgt := 25) hx hb dX5_mark_18 (by decide) (fun c_2 => ?_) (fun c_2 => ?_)
    · have c_2 := bI_ne.mp c_2
      exact absurd c_2 (by rw [h2]; decide)
    · have c_2 := bI_eq.mp c_2
      refine lv_iconst (v := 2) hx hb dX5_mark_21 (by decide) ?_
      refine lv_goto (tgt := 26) hx hb dX5_mark_22 (by decide) ?_
      have hPc : va_P D vwCl (wMo k h th f asd sl kp sv sm tx ln dg) H := hP.sub [0, 1, 2, 3, 4, 5, 6] rfl
      have hDc : va_D A (wMo k h th f asd sl kp sv sm tx ln dg) := hD.sub [0, 1, 2, 3, 4, 5, 6] (by decide +kernel) rfl
      refine cl_i (va_runV (As := [.int 2]) (rest := []) ⟨hx, hb, hml, hown, hts⟩ (c_X5_holds l D k h th f asd sl kp sv sm tx ln dg 2 H.size) (cwV 1 hts gX5_mark_X5_holds rfl rfl rfl (by decide +kernel) ⟨Nat.le_of_ble_eq_true rfl, Nat.le_of_ble_eq_true rfl⟩) ⟨pr_blind, va_recv hK hP (ci := 5) (q0 := 0) rfl rfl, pr_at hN hPc hK hDc⟩ rfl rfl hl.1 rfl (lv_room (Nat.le_of_ble_eq_true rfl)) dX5_mark_26 ⟨Nat.le_of_ble_eq_true rfl, Nat.le_of_ble_eq_true rfl⟩) hP hD hS hA [0, 1, 2, 3, 4, 5, 6] [] ([]) [h 0, h 1, h 2, h 3, h 4, h 5, h 6] 7 rfl (wn := wMo k h 2 f asd sl kp sv sm tx ln dg) rfl rfl rfl rfl (by decide +kernel) rfl rfl (fun H locs hP hD hS => ?_)
      clear hPc hDc
      refine tp_e (y := 0) (by decide) ?_
      refine lv_if_eq (tgt := 44) hx hb dX5_mark_29 (by decide) (fun c_3 => ?_) (fun c_3 => ?_)
      · refine lv_iconst (v := 0) hx hb dX5_mark_44 (by decide) ?_
        subst hQ
        exact rt_i hx hb hr hlocks hS dX5_mark_45 (hP) (rfl)
      · exact absurd c_3 (by decide)
  · have c_1 := bI_eq.mp c_1
    exact absurd c_1 (by rw [h1]; decide)
