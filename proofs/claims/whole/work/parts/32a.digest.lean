def mxF (a b : Int64) : Int64 := 31 * a + b
/-- what a piece adds to the digest -/
def dgP (f : Nat → Int32) (q : Nat) (dg : Int64) : Int64 := [f (0 + q), f (9 + q), f (18 + q), jtM f (nI q) 9, mnF (f (27 + q)) 9, mnF (bmF f q (9 - (q + 1))) 9, wyF f (1 <<< (nI q &&& 31)) false 511, f (36 + q), bitv (f (27 + q)) 0, bitv (f (27 + q)) 1, bitv (f (27 + q)) 2, bitv (f (27 + q)) 3, bitv (f (27 + q)) 4, bitv (f (27 + q)) 5, bitv (f (27 + q)) 6, bitv (f (27 + q)) 7, bitv (f (27 + q)) 8].foldl (fun a (b : Int32) => mxF a b.toInt64) dg

set_option maxHeartbeats 1000000 in
set_option maxRecDepth 100000 in
theorem c_X5_digestOne (l : Launch) (D : va_G) (k : Nat → ClassId) (h : Nat → Nat) (th : Int32) (f asd sl kp sv : Nat → Int32) (sm : Int32) (tx : Nat → Int32) (ln : Int32) (dg : Int64) (x : Int64)  : MV l yX5_digestOne wsX5_digestOne ({ frames := 0, cells := 0, slots := 0, locals := 0 }) D k [.ref (h 0), .long x] (wMo k h th f asd sl kp sv sm tx ln dg) (wMo k h th f asd sl kp sv sm tx ln (mxF dg x)) := by
  intro sz
  refine Met.ofW (cc := cX5_digestOne) (maxL := 3) (ret := none) (by decide) rfl ?_
  intro p e s m args below meth c s₁ B hml hv
  obtain ⟨rfl, hN, hsz, hP, hK, hD0⟩ := hv
  have hx := B.exec
  have hb := B.bytes
  have hr := B.returns
  have hts := atoms_spec (ws := wsX5_digestOne) B.pre
  have hown : s.vm.findClass RX5 = some m.cls := findClass_of_methodNamed B.named
  have hlocks := B.notSynchronized
  subst hsz
  have hD := hD0.self (sz := s.heap.size)
  generalize hAe : va_A (wMo k h th f asd sl kp sv sm tx ln dg) s.heap.size = A at hD ⊢
  have hA : ∀ q : Nat, s.heap.size ≤ q → A q := fun q h => by rw [← hAe]; exact Or.inr h
  have hS : va_S A s.heap s.heap [] := va_S.rf
  have hl := lv_entry ([.ref (h 0), .long x]) (n := 3) (Nat.le_of_ble_eq_true rfl)
  rw [lg_entry_eq]
  generalize (lg_sl ([.ref (h 0), .long x]) ++ List.replicate (3 - (lg_sl ([.ref (h 0), .long x])).length) Slot.unset).toArray = ls at hl ⊢
  have hl : lv_has ls 3 [(0, .ref (h 0)), (1, .long x)] := hl
  obtain ⟨H, hHe⟩ : ∃ H, H = s.heap := ⟨_, rfl⟩
  have hP : va_P D vwCl (wMo k h th f asd sl kp sv sm tx ln dg) H := by rw [hHe]; exact hP
  have hS : va_S A s.heap H [] := by rw [hHe]; exact hS
  rw [← hHe]
  refine absQ (fun Q hQ => ?_)
  refine lv_aload_n hx hb dX5_digestOne_0 rfl (lv_at hl 0 rfl) ?_
  refine lv_ldc2 hx hb hown (hts (.constantLong RX5 166 31) (List.mem_of_getElem? (i := 1) rfl)) dX5_digestOne_1 ?_
  refine lv_aload_n hx hb dX5_digestOne_4 rfl (lv_at hl 0 rfl) ?_
  refine va_get (D := D) (ci := 5) (v := .long dg) (C := RX5) (T := TX5) (N := 10) hx hb hts (fun _ h9 => (List.mem_cons_of_mem _ (List.mem_append_right _ h9))) hown hK hP 0 rfl rfl 9 (by decide) (hts _ (List.mem_of_getElem? (i := 2) rfl)) (fun _ h9 => h9) rfl dX5_digestOne_5 ?_
  refine lv_lmul hx hb dX5_digestOne_8 ?_
  refine lv_lload_n hx hb dX5_digestOne_9 rfl (lv_at hl 1 rfl) ?_
  refine lv_ladd hx hb dX5_digestOne_10 ?_
  refine va_put (D := D) (ci := 5) (v := .long ((31 * dg) + x)) (ty := tyX5 9) (C := RX5) (T := TX5) (N := 10) hx hb hts (fun _ h9 => (List.mem_cons_of_mem _ (List.mem_append_right _ h9))) tyX5 tyX5_ok nmX5 hown hK hP hD hS 0 rfl rfl 9 (by decide) (hts _ (List.mem_of_getElem? (i := 2) rfl)) (fun _ h9 => h9) rfl (tyX5_ok 9 (by decide)) rfl rfl (Nat.le_of_ble_eq_true rfl) dX5_digestOne_11 (fun H locs hP hD hS => ?_)
  have hP : va_P D vwCl ([(h 0, .inr (5, [.int th, .ref (h 1), .ref (h 2), .ref (h 3), .ref (h 4), .ref (h 5), .int sm, .ref (h 6), .int ln, .long ((31 * dg) + x)])), (h 1, .inl (k 0, 72, .inl f)), (h 2, .inl (k 0, 72, .inl asd)), (h 3, .inl (k 0, 144, .inl sl)), (h 4, .inl (k 1, 2, .inl kp)), (h 5, .inl (k 0, 432, .inl sv)), (h 6, .inl (k 0, 60, .inl tx))]) H := hP
  have hD : va_D A ([(h 0, .inr (5, [.int th, .ref (h 1), .ref (h 2), .ref (h 3), .ref (h 4), .ref (h 5), .int sm, .ref (h 6), .int ln, .long ((31 * dg) + x)])), (h 1, .inl (k 0, 72, .inl f)), (h 2, .inl (k 0, 72, .inl asd)), (h 3, .inl (k 0, 144, .inl sl)), (h 4, .inl (k 1, 2, .inl kp)), (h 5, .inl (k 0, 432, .inl sv)), (h 6, .inl (k 0, 60, .inl tx))]) := hD
  subst hQ
  exact rt_v hx hb hr hlocks hS dX5_digestOne_14 (hP)

set_option maxHeartbeats 1000000 in
set_option maxRecDepth 100000 in
theorem c_X5_digestPiece (l : Launch) (D : va_G) (k : Nat → ClassId) (h : Nat → Nat) (th : Int32) (f asd sl kp sv : Nat → Int32) (sm : Int32) (tx : Nat → Int32) (ln : Int32) (dg : Int64) (q : Nat) (hq : q < 9) : MV l yX5_digestPiece wsX5_digestPiece ({ frames := 4, cells := 0, slots := 0, locals := 93 }) D k [.ref (h 0), .int (nI q)] (wMo k h th f asd sl kp sv sm tx ln dg) (wMo k h th f asd sl kp sv sm tx ln (dgP f q dg)) := by
  intro sz
  refine Met.ofW (cc := cX5_digestPiece) (maxL := 3) (ret := none) (by decide) rfl ?_
  intro p e s m args below meth c s₁ B hml hv
  obtain ⟨rfl, hN, hsz, hP, hK, hD0⟩ := hv
  have hx := B.exec
  have hb := B.bytes
  have hr := B.returns
  have hts := atoms_spec (ws := wsX5_digestPiece) B.pre
  have hown : s.vm.findClass RX5 = some m.cls := findClass_of_methodNamed B.named
  have hlocks := B.notSynchronized
  subst hsz
  have hD := hD0.self (sz := s.heap.size)
  generalize hAe : va_A (wMo k h th f asd sl kp sv sm tx ln dg) s.heap.size = A at hD ⊢
  have hA : ∀ q : Nat, s.heap.size ≤ q → A q := fun q h => by rw [← hAe]; exact Or.inr h
  have hS : va_S A s.heap s.heap [] := va_S.rf
  have hl := lv_entry ([.ref (h 0), .int (nI q)]) (n := 3) (Nat.le_of_ble_eq_true rfl)
  rw [lg_entry_eq]
  generalize (lg_sl ([.ref (h 0), .int (nI q)]) ++ List.replicate (3 - (lg_sl ([.ref (h 0), .int (nI q)])).length) Slot.unset).toArray = ls at hl ⊢
  have hl : lv_has ls 3 [(0, .ref (h 0)), (1, .int (nI q))] := hl
  obtain ⟨H, hHe⟩ : ∃ H, H = s.heap := ⟨_, rfl⟩
  have hP : va_P D vwCl (wMo k h th f asd sl kp sv sm tx ln dg) H := by rw [hHe]; exact hP
  have hS : va_S A s.heap H [] := by rw [hHe]; exact hS
  rw [← hHe]
  refine absQ (fun Q hQ => ?_)
  refine lv_iconst (v := 0) hx hb dX5_digestPiece_0 (by decide) ?_
  refine lv_istore_n (lv' := [(2, .int 0), (0, .ref (h 0)), (1, .int (nI q))]) hx hb dX5_digestPiece_1 rfl hl (by decide) rfl (fun ls hl => ?_)
  refine lv_iload_n hx hb dX5_digestPiece_2 rfl (lv_at hl 0 rfl) ?_
  refine lv_bipush (v := 8) hx hb dX5_digestPiece_3 (by decide) ?_
  refine lv_icmp_ge (tgt := 25) hx hb dX5_digestPiece_5 (by decide) (fun c_1 => ?_) (fun c_1 => ?_)
  · exact absurd c_1 (by decide)
  · refine lv_aload_n hx hb dX5_digestPiece_8 rfl (lv_at hl 1 rfl) ?_
    refine lv_aload_n hx hb dX5_digestPiece_9 rfl (lv_at hl 1 rfl) ?_
    refine lv_iload_n hx hb dX5_digestPiece_10 rfl (lv_at hl 2 rfl) ?_
    refine lv_iload_n hx hb dX5_digestPiece_11 rfl (lv_at hl 0 rfl) ?_
    have hPc : va_P D vwCl (wMo k h th f asd sl kp sv sm tx ln dg) H := hP.sub [0, 1, 2, 3, 4, 5, 6] rfl
    have hDc : va_D A (wMo k h th f asd sl kp sv sm tx ln dg) := hD.sub [0, 1, 2, 3, 4, 5, 6] (by decide +kernel) rfl
    refine cl_i0 (va_runV (As := [.int (nI q), .int 0]) (rest := [.ref (h 0)]) ⟨hx, hb, hml, hown, hts⟩ (c_X5_property_0 l D k h th f asd sl kp sv sm tx ln dg q hq H.size) (cwV 2 hts gX5_digestPiece_X5_property rfl rfl rfl (by decide +kernel) ⟨Nat.le_of_ble_eq_true rfl, Nat.le_of_ble_eq_true rfl⟩) ⟨pr_blind, va_recv hK hP (ci := 5) (q0 := 0) rfl rfl, pr_at hN hPc hK hDc⟩ rfl rfl hl.1 rfl (lv_room (Nat.le_of_ble_eq_true rfl)) dX5_digestPiece_12 ⟨Nat.le_of_ble_eq_true rfl, Nat.le_of_ble_eq_true rfl⟩) hP hD hS hA [0, 1, 2, 3, 4, 5, 6] rfl (fun H locs hP hD hS => ?_)
    clear hPc hDc
    refine lv_i2l hx hb dX5_digestPiece_15 rfl ?_
    have hPc : va_P D vwCl (wMo k h th f asd sl kp sv sm tx ln dg) H := hP.sub [0, 1, 2, 3, 4, 5, 6] rfl
    have hDc : va_D A (wMo k h th f asd sl kp sv sm tx ln dg) := hD.sub [0, 1, 2, 3, 4, 5, 6] (by decide +kernel) rfl
    refine cl_v (va_runV (As := [.long (((f (0 + q))).toInt64)]) (rest := []) ⟨hx, hb, hml, hown, hts⟩ (c_X5_digestOne l D k h th f asd sl kp sv sm tx ln dg (((f (0 + q))).toInt64) H.size) (cwV 1 hts gX5_digestPiece_X5_digestOne rfl rfl rfl (by decide +kernel) ⟨Nat.le_of_ble_eq_true rfl, Nat.le_of_ble_eq_true rfl⟩) ⟨pr_blind, va_recv hK hP (ci := 5) (q0 := 0) rfl rfl, pr_at hN hPc hK hDc⟩ rfl rfl hl.1 rfl (lv_room (Nat.le_of_ble_eq_true rfl)) dX5_digestPiece_16 ⟨Nat.le_of_ble_eq_true rfl, Nat.le_of_ble_eq_true rfl⟩) hP hD hS hA [0, 1, 2, 3, 4, 5, 6] [] ([]) [h 0, h 1, h 2, h 3, h 4, h 5, h 6] 7 rfl (wn := wMo k h th f asd sl kp sv sm tx ln (mxF dg (((f (0 + q))).toInt64))) rfl rfl rfl rfl (by decide +kernel) rfl rfl (fun H locs hP hD hS => ?_)
    clear hPc hDc
    refine lv_iinc (v := 1) (lv' := [(2, .int 1), (0, .ref (h 0)), (1, .int (nI q))]) hx hb dX5_digestPiece_19 hl (k := 0) rfl rfl (by decide) rfl (fun ls hl => ?_)
    refine lv_goto (tgt := 2) hx hb dX5_digestPiece_22 (by decide) ?_
    refine lv_iload_n hx hb dX5_digestPiece_2 rfl (lv_at hl 0 rfl) ?_
    refine lv_bipush (v := 8) hx hb dX5_digestPiece_3 (by decide) ?_
    refine lv_icmp_ge (tgt := 25) hx hb dX5_digestPiece_5 (by decide) (fun c_2 => ?_) (fun c_2 => ?_)
    · exact absurd c_2 (by decide)
    · refine lv_aload_n hx hb dX5_digestPiece_8 rfl (lv_at hl 1 rfl) ?_
      refine lv_aload_n hx hb dX5_digestPiece_9 rfl (lv_at hl 1 rfl) ?_
      refine lv_iload_n hx hb dX5_digestPiece_10 rfl (lv_at hl 2 rfl) ?_
      refine lv_iload_n hx hb dX5_digestPiece_11 rfl (lv_at hl 0 rfl) ?_
      have hPc : va_P D vwCl (wMo k h th f asd sl kp sv sm tx ln (mxF dg (((f (0 + q))).toInt64))) H := hP.sub [0, 1, 2, 3, 4, 5, 6] rfl
      have hDc : va_D A (wMo k h th f asd sl kp sv sm tx ln (mxF dg (((f (0 + q))).toInt64))) := hD.sub [0, 1, 2, 3, 4, 5, 6] (by decide +kernel) rfl
      refine cl_i0 (va_runV (As := [.int (nI q), .int 1]) (rest := [.ref (h 0)]) ⟨hx, hb, hml, hown, hts⟩ (c_X5_property_1 l D k h th f asd sl kp sv sm tx ln (mxF dg (((f (0 + q))).toInt64)) q hq H.size) (cwV 2 hts gX5_digestPiece_X5_property rfl rfl rfl (by decide +kernel) ⟨Nat.le_of_ble_eq_true rfl, Nat.le_of_ble_eq_true rfl⟩) ⟨pr_blind, va_recv hK hP (ci := 5) (q0 := 0) rfl rfl, pr_at hN hPc hK hDc⟩ rfl rfl hl.1 rfl (lv_room (Nat.le_of_ble_eq_true rfl)) dX5_digestPiece_12 ⟨Nat.le_of_ble_eq_true rfl, Nat.le_of_ble_eq_true rfl⟩) hP hD hS hA [0, 1, 2, 3, 4, 5, 6] rfl (fun H locs hP hD hS => ?_)
      clear hPc hDc
      refine lv_i2l hx hb dX5_digestPiece_15 rfl ?_
      have hPc : va_P D vwCl (wMo k h th f asd sl kp sv sm tx ln (mxF dg (((f (0 + q))).toInt64))) H := hP.sub [0, 1, 2, 3, 4, 5, 6] rfl
      have hDc : va_D A (wMo k h th f asd sl kp sv sm tx ln (mxF dg (((f (0 + q))).toInt64))) := hD.sub [0, 1, 2, 3, 4, 5, 6] (by decide +kernel) rfl
      refine cl_v (va_runV (As := [.long (((f (9 + q))).toInt64)]) (rest := []) ⟨hx, hb, hml, hown, hts⟩ (c_X5_digestOne l D k h th f asd sl kp sv sm tx ln (mxF dg (((f (0 + q))).toInt64)) (((f (9 + q))).toInt64) H.size) (cwV 1 hts gX5_digestPiece_X5_digestOne rfl rfl rfl (by decide +kernel) ⟨Nat.le_of_ble_eq_true rfl, Nat.le_of_ble_eq_true rfl⟩) ⟨pr_blind, va_recv hK hP (ci := 5) (q0 := 0) rfl rfl, pr_at hN hPc hK hDc⟩ rfl rfl hl.1 rfl (lv_room (Nat.le_of_ble_eq_true rfl)) dX5_digestPiece_16 ⟨Nat.le_of_ble_eq_true rfl, Nat.le_of_ble_eq_true rfl⟩) hP hD hS hA [0, 1, 2, 3, 4, 5, 6] [] ([]) [h 0, h 1, h 2, h 3, h 4, h 5, h 6] 7 rfl (wn := wMo k h th f asd sl kp sv sm tx ln (mxF (mxF dg (((f (0 + q))).toInt64)) (((f (9 + q))).toInt64))) rfl rfl rfl rfl (by decide +kernel) rfl rfl (fun H locs hP hD hS => ?_)
      clear hPc hDc
      refine lv_iinc (v := 2) (lv' := [(2, .int 2), (0, .ref (h 0)), (1, .int (nI q))]) hx hb dX5_digestPiece_19 hl (k := 0) rfl rfl (by decide) rfl (fun ls hl => ?_)
      refine lv_goto (tgt := 2) hx hb dX5_digestPiece_22 (by decide) ?_
      refine lv_iload_n hx hb dX5_digestPiece_2 rfl (lv_at hl 0 rfl) ?_
      refine lv_bipush (v := 8) hx hb dX5_digestPiece_3 (by decide) ?_
      refine lv_icmp_ge (tgt := 25) hx hb dX5_digestPiece_5 (by decide) (fun c_3 => ?_) (fun c_3 => ?_)
      · exact absurd c_3 (by decide)
      · refine lv_aload_n hx hb dX5_digestPiece_8 rfl (lv_at hl 1 rfl) ?_
        refine lv_aload_n hx hb dX5_digestPiece_9 rfl (lv_at hl 1 rfl) ?_
        refine lv_iload_n hx hb dX5_digestPiece_10 rfl (lv_at hl 2 rfl) ?_
        refine lv_iload_n hx hb dX5_digestPiece_11 rfl (lv_at hl 0 rfl) ?_
        have hPc : va_P D vwCl (wMo k h th f asd sl kp sv sm tx ln (mxF (mxF dg (((f (0 + q))).toInt64)) (((f (9 + q))).toInt64))) H := hP.sub [0, 1, 2, 3, 4, 5, 6] rfl
        have hDc : va_D A (wMo k h th f asd sl kp sv sm tx ln (mxF (mxF dg (((f (0 + q))).toInt64)) (((f (9 + q))).toInt64))) := hD.sub [0, 1, 2, 3, 4, 5, 6] (by decide +kernel) rfl
        refine cl_i0 (va_runV (As := [.int (nI q), .int 2]) (rest := [.ref (h 0)]) ⟨hx, hb, hml, hown, hts⟩ (c_X5_property_2 l D k h th f asd sl kp sv sm tx ln (mxF (mxF dg (((f (0 + q))).toInt64)) (((f (9 + q))).toInt64)) q hq H.size) (cwV 2 hts gX5_digestPiece_X5_property rfl rfl rfl (by decide +kernel) ⟨Nat.le_of_ble_eq_true rfl, Nat.le_of_ble_eq_true rfl⟩) ⟨pr_blind, va_recv hK hP (ci := 5) (q0 := 0) rfl rfl, pr_at hN hPc hK hDc⟩ rfl rfl hl.1 rfl (lv_room (Nat.le_of_ble_eq_true rfl)) dX5_digestPiece_12 ⟨Nat.le_of_ble_eq_true rfl, Nat.le_of_ble_eq_true rfl⟩) hP hD hS hA [0, 1, 2, 3, 4, 5, 6] rfl (fun H locs hP hD hS => ?_)
        clear hPc hDc
        refine lv_i2l hx hb dX5_digestPiece_15 rfl ?_
        have hPc : va_P D vwCl (wMo k h th f asd sl kp sv sm tx ln (mxF (mxF dg (((f (0 + q))).toInt64)) (((f (9 + q))).toInt64))) H := hP.sub [0, 1, 2, 3, 4, 5, 6] rfl
        have hDc : va_D A (wMo k h th f asd sl kp sv sm tx ln (mxF (mxF dg (((f (0 + q))).toInt64)) (((f (9 + q))).toInt64))) := hD.sub [0, 1, 2, 3, 4, 5, 6] (by decide +kernel) rfl
        refine cl_v (va_runV (As := [.long (((f (18 + q))).toInt64)]) (rest := []) ⟨hx, hb, hml, hown, hts⟩ (c_X5_digestOne l D k h th f asd sl kp sv sm tx ln (mxF (mxF dg (((f (0 + q))).toInt64)) (((f (9 + q))).toInt64)) (((f (18 + q))).toInt64) H.size) (cwV 1 hts gX5_digestPiece_X5_digestOne rfl rfl rfl (by decide +kernel) ⟨Nat.le_of_ble_eq_true rfl, Nat.le_of_ble_eq_true rfl⟩) ⟨pr_blind, va_recv hK hP (ci := 5) (q0 := 0) rfl rfl, pr_at hN hPc hK hDc⟩ rfl rfl hl.1 rfl (lv_room (Nat.le_of_ble_eq_true rfl)) dX5_digestPiece_16 ⟨Nat.le_of_ble_eq_true rfl, Nat.le_of_ble_eq_true rfl⟩) hP hD hS hA [0, 1, 2, 3, 4, 5, 6] [] ([]) [h 0, h 1, h 2, h 3, h 4, h 5, h 6] 7 rfl (wn := wMo k h th f asd sl kp sv sm tx ln (mxF (mxF (mxF dg (((f (0 + q))).toInt64)) (((f (9 + q))).toInt64)) (((f (18 + q))).toInt64))) rfl rfl rfl rfl (by decide +kernel) rfl rfl (fun H locs hP hD hS => ?_)
        clear hPc hDc
        refine lv_iinc (v := 3) (lv' := [(2, .int 3), (0, .ref (h 0)), (1, .int (nI q))]) hx hb dX5_digestPiece_19 hl (k := 0) rfl rfl (by decide) rfl (fun ls hl => ?_)
        refine lv_goto (tgt := 2) hx hb dX5_digestPiece_22 (by decide) ?_
        refine lv_iload_n hx hb dX5_digestPiece_2 rfl (lv_at hl 0 rfl) ?_
        refine lv_bipush (v := 8) hx hb dX5_digestPiece_3 (by decide) ?_
        refine lv_icmp_ge (tgt := 25) hx hb dX5_digestPiece_5 (by decide) (fun c_4 => ?_) (fun c_4 => ?_)
        · exact absurd c_4 (by decide)
        · refine lv_aload_n hx hb dX5_digestPiece_8 rfl (lv_at hl 1 rfl) ?_
          refine lv_aload_n hx hb dX5_digestPiece_9 rfl (lv_at hl 1 rfl) ?_
          refine lv_iload_n hx hb dX5_digestPiece_10 rfl (lv_at hl 2 rfl) ?_
          refine lv_iload_n hx hb dX5_digestPiece_11 rfl (lv_at hl 0 rfl) ?_
          have hPc : va_P D vwCl (wMo k h th f asd sl kp sv sm tx ln (mxF (mxF (mxF dg (((f (0 + q))).toInt64)) (((f (9 + q))).toInt64)) (((f (18 + q))).toInt64))) H := hP.sub [0, 1, 2, 3, 4, 5, 6] rfl
          have hDc : va_D A (wMo k h th f asd sl kp sv sm tx ln (mxF (mxF (mxF dg (((f (0 + q))).toInt64)) (((f (9 + q))).toInt64)) (((f (18 + q))).toInt64))) := hD.sub [0, 1, 2, 3, 4, 5, 6] (by decide +kernel) rfl
          refine cl_i0 (va_runV (As := [.int (nI q), .int 3]) (rest := [.ref (h 0)]) ⟨hx, hb, hml, hown, hts⟩ (c_X5_property_3 l D k h th f asd sl kp sv sm tx ln (mxF (mxF (mxF dg (((f (0 + q))).toInt64)) (((f (9 + q))).toInt64)) (((f (18 + q))).toInt64)) q hq H.size) (cwV 2 hts gX5_digestPiece_X5_property rfl rfl rfl (by decide +kernel) ⟨Nat.le_of_ble_eq_true rfl, Nat.le_of_ble_eq_true rfl⟩) ⟨pr_blind, va_recv hK hP (ci := 5) (q0 := 0) rfl rfl, pr_at hN hPc hK hDc⟩ rfl rfl hl.1 rfl (lv_room (Nat.le_of_ble_eq_true rfl)) dX5_digestPiece_12 ⟨Nat.le_of_ble_eq_true rfl, Nat.le_of_ble_eq_true rfl⟩) hP hD hS hA [0, 1, 2, 3, 4, 5, 6] rfl (fun H locs hP hD hS => ?_)
          clear hPc hDc
          refine lv_i2l hx hb dX5_digestPiece_15 rfl ?_
          have hPc : va_P D vwCl (wMo k h th f asd sl kp sv sm tx ln (mxF (mxF (mxF dg (((f (0 + q))).toInt64)) (((f (9 + q))).toInt64)) (((f (18 + q))).toInt64))) H := hP.sub [0, 1, 2, 3, 4, 5, 6] rfl
          have hDc : va_D A (wMo k h th f asd sl kp sv sm tx ln (mxF (mxF (mxF dg (((f (0 + q))).toInt64)) (((f (9 + q))).toInt64)) (((f (18 + q))).toInt64))) := hD.sub [0, 1, 2, 3, 4, 5, 6] (by decide +kernel) rfl
          refine cl_v (va_runV (As := [.long (((jtM f (nI q) 9)).toInt64)]) (rest := []) ⟨hx, hb, hml, hown, hts⟩ (c_X5_digestOne l D k h th f asd sl kp sv sm tx ln (mxF (mxF (mxF dg (((f (0 + q))).toInt64)) (((f (9 + q))).toInt64)) (((f (18 + q))).toInt64)) (((jtM f (nI q) 9)).toInt64) H.size) (cwV 1 hts gX5_digestPiece_X5_digestOne rfl rfl rfl (by decide +kernel) ⟨Nat.le_of_ble_eq_true rfl, Nat.le_of_ble_eq_true rfl⟩) ⟨pr_blind, va_recv hK hP (ci := 5) (q0 := 0) rfl rfl, pr_at hN hPc hK hDc⟩ rfl rfl hl.1 rfl (lv_room (Nat.le_of_ble_eq_true rfl)) dX5_digestPiece_16 ⟨Nat.le_of_ble_eq_true rfl, Nat.le_of_ble_eq_true rfl⟩) hP hD hS hA [0, 1, 2, 3, 4, 5, 6] [] ([]) [h 0, h 1, h 2, h 3, h 4, h 5, h 6] 7 rfl (wn := wMo k h th f asd sl kp sv sm tx ln (mxF (mxF (mxF (mxF dg (((f (0 + q))).toInt64)) (((f (9 + q))).toInt64)) (((f (18 + q))).toInt64)) (((jtM f (nI q) 9)).toInt64))) rfl rfl rfl rfl (by decide +kernel) rfl rfl (fun H locs hP hD hS => ?_)
          clear hPc hDc
          refine lv_iinc (v := 4) (lv' := [(2, .int 4), (0, .ref (h 0)), (1, .int (nI q))]) hx hb dX5_digestPiece_19 hl (k := 0) rfl rfl (by decide) rfl (fun ls hl => ?_)
          refine lv_goto (tgt := 2) hx hb dX5_digestPiece_22 (by decide) ?_
          refine lv_iload_n hx hb dX5_digestPiece_2 rfl (lv_at hl 0 rfl) ?_
          refine lv_bipush (v := 8) hx hb dX5_digestPiece_3 (by decide) ?_
          refine lv_icmp_ge (tgt := 25) hx hb dX5_digestPiece_5 (by decide) (fun c_5 => ?_) (fun c_5 => ?_)
          · exact absurd c_5 (by decide)
          · refine lv_aload_n hx hb dX5_digestPiece_8 rfl (lv_at hl 1 rfl) ?_
            refine lv_aload_n hx hb dX5_digestPiece_9 rfl (lv_at hl 1 rfl) ?_
            refine lv_iload_n hx hb dX5_digestPiece_10 rfl (lv_at hl 2 rfl) ?_
            refine lv_iload_n hx hb dX5_digestPiece_11 rfl (lv_at hl 0 rfl) ?_
            have hPc : va_P D vwCl (wMo k h th f asd sl kp sv sm tx ln (mxF (mxF (mxF (mxF dg (((f (0 + q))).toInt64)) (((f (9 + q))).toInt64)) (((f (18 + q))).toInt64)) (((jtM f (nI q) 9)).toInt64))) H := hP.sub [0, 1, 2, 3, 4, 5, 6] rfl
            have hDc : va_D A (wMo k h th f asd sl kp sv sm tx ln (mxF (mxF (mxF (mxF dg (((f (0 + q))).toInt64)) (((f (9 + q))).toInt64)) (((f (18 + q))).toInt64)) (((jtM f (nI q) 9)).toInt64))) := hD.sub [0, 1, 2, 3, 4, 5, 6] (by decide +kernel) rfl
            refine cl_i0 (va_runV (As := [.int (nI q), .int 4]) (rest := [.ref (h 0)]) ⟨hx, hb, hml, hown, hts⟩ (c_X5_property_4 l D k h th f asd sl kp sv sm tx ln (mxF (mxF (mxF (mxF dg (((f (0 + q))).toInt64)) (((f (9 + q))).toInt64)) (((f (18 + q))).toInt64)) (((jtM f (nI q) 9)).toInt64)) q hq H.size) (cwV 2 hts gX5_digestPiece_X5_property rfl rfl rfl (by decide +kernel) ⟨Nat.le_of_ble_eq_true rfl, Nat.le_of_ble_eq_true rfl⟩) ⟨pr_blind, va_recv hK hP (ci := 5) (q0 := 0) rfl rfl, pr_at hN hPc hK hDc⟩ rfl rfl hl.1 rfl (lv_room (Nat.le_of_ble_eq_true rfl)) dX5_digestPiece_12 ⟨Nat.le_of_ble_eq_true rfl, Nat.le_of_ble_eq_true rfl⟩) hP hD hS hA [0, 1, 2, 3, 4, 5, 6] rfl (fun H locs hP hD hS => ?_)
            clear hPc hDc
            refine lv_i2l hx hb dX5_digestPiece_15 rfl ?_
            have hPc : va_P D vwCl (wMo k h th f asd sl kp sv sm tx ln (mxF (mxF (mxF (mxF dg (((f (0 + q))).toInt64)) (((f (9 + q))).toInt64)) (((f (18 + q))).toInt64)) (((jtM f (nI q) 9)).toInt64))) H := hP.sub [0, 1, 2, 3, 4, 5, 6] rfl
            have hDc : va_D A (wMo k h th f asd sl kp sv sm tx ln (mxF (mxF (mxF (mxF dg (((f (0 + q))).toInt64)) (((f (9 + q))).toInt64)) (((f (18 + q))).toInt64)) (((jtM f (nI q) 9)).toInt64))) := hD.sub [0, 1, 2, 3, 4, 5, 6] (by decide +kernel) rfl
            refine cl_v (va_runV (As := [.long (((mnF (f (27 + q)) 9)).toInt64)]) (rest := []) ⟨hx, hb, hml, hown, hts⟩ (c_X5_digestOne l D k h th f asd sl kp sv sm tx ln (mxF (mxF (mxF (mxF dg (((f (0 + q))).toInt64)) (((f (9 + q))).toInt64)) (((f (18 + q))).toInt64)) (((jtM f (nI q) 9)).toInt64)) (((mnF (f (27 + q)) 9)).toInt64) H.size) (cwV 1 hts gX5_digestPiece_X5_digestOne rfl rfl rfl (by decide +kernel) ⟨Nat.le_of_ble_eq_true rfl, Nat.le_of_ble_eq_true rfl⟩) ⟨pr_blind, va_recv hK hP (ci := 5) (q0 := 0) rfl rfl, pr_at hN hPc hK hDc⟩ rfl rfl hl.1 rfl (lv_room (Nat.le_of_ble_eq_true rfl)) dX5_digestPiece_16 ⟨Nat.le_of_ble_eq_true rfl, Nat.le_of_ble_eq_true rfl⟩) hP hD hS hA [0, 1, 2, 3, 4, 5, 6] [] ([]) [h 0, h 1, h 2, h 3, h 4, h 5, h 6] 7 rfl (wn := wMo k h th f asd sl kp sv sm tx ln (mxF (mxF (mxF (mxF (mxF dg (((f (0 + q))).toInt64)) (((f (9 + q))).toInt64)) (((f (18 + q))).toInt64)) (((jtM f (nI q) 9)).toInt64)) (((mnF (f (27 + q)) 9)).toInt64))) rfl rfl rfl rfl (by decide +kernel) rfl rfl (fun H locs hP hD hS => ?_)
            clear hPc hDc
            refine lv_iinc (v := 5) (lv' := [(2, .int 5), (0, .ref (h 0)), (1, .int (nI q))]) hx hb dX5_digestPiece_19 hl (k := 0) rfl rfl (by decide) rfl (fun ls hl => ?_)
            refine lv_goto (tgt := 2) hx hb dX5_digestPiece_22 (by decide) ?_
            refine lv_iload_n hx hb dX5_digestPiece_2 rfl (lv_at hl 0 rfl) ?_
            refine lv_bipush (v := 8) hx hb dX5_digestPiece_3 (by decide) ?_
            refine lv_icmp_ge (tgt := 25) hx hb dX5_digestPiece_5 (by decide) (fun c_6 => ?_) (fun c_6 => ?_)
            · exact absurd c_6 (by decide)
            · refine lv_aload_n hx hb dX5_digestPiece_8 rfl (lv_at hl 1 rfl) ?_
              refine lv_aload_n hx hb dX5_digestPiece_9 rfl (lv_at hl 1 rfl) ?_
              refine lv_iload_n hx hb dX5_digestPiece_10 rfl (lv_at hl 2 rfl) ?_
              refine lv_iload_n hx hb dX5_digestPiece_11 rfl (lv_at hl 0 rfl) ?_
              have hPc : va_P D vwCl (wMo k h th f asd sl kp sv sm tx ln (mxF (mxF (mxF (mxF (mxF dg (((f (0 + q))).toInt64)) (((f (9 + q))).toInt64)) (((f (18 + q))).toInt64)) (((jtM f (nI q) 9)).toInt64)) (((mnF (f (27 + q)) 9)).toInt64))) H := hP.sub [0, 1, 2, 3, 4, 5, 6] rfl
              have hDc : va_D A (wMo k h th f asd sl kp sv sm tx ln (mxF (mxF (mxF (mxF (mxF dg (((f (0 + q))).toInt64)) (((f (9 + q))).toInt64)) (((f (18 + q))).toInt64)) (((jtM f (nI q) 9)).toInt64)) (((mnF (f (27 + q)) 9)).toInt64))) := hD.sub [0, 1, 2, 3, 4, 5, 6] (by decide +kernel) rfl
              refine cl_i0 (va_runV (As := [.int (nI q), .int 5]) (rest := [.ref (h 0)]) ⟨hx, hb, hml, hown, hts⟩ (c_X5_property_5 l D k h th f asd sl kp sv sm tx ln (mxF (mxF (mxF (mxF (mxF dg (((f (0 + q))).toInt64)) (((f (9 + q))).toInt64)) (((f (18 + q))).toInt64)) (((jtM f (nI q) 9)).toInt64)) (((mnF (f (27 + q)) 9)).toInt64)) q hq H.size) (cwV 2 hts gX5_digestPiece_X5_property rfl rfl rfl (by decide +kernel) ⟨Nat.le_of_ble_eq_true rfl, Nat.le_of_ble_eq_true rfl⟩) ⟨pr_blind, va_recv hK hP (ci := 5) (q0 := 0) rfl rfl, pr_at hN hPc hK hDc⟩ rfl rfl hl.1 rfl (lv_room (Nat.le_of_ble_eq_true rfl)) dX5_digestPiece_12 ⟨Nat.le_of_ble_eq_true rfl, Nat.le_of_ble_eq_true rfl⟩) hP hD hS hA [0, 1, 2, 3, 4, 5, 6] rfl (fun H locs hP hD hS => ?_)
              clear hPc hDc
              refine lv_i2l hx hb dX5_digestPiece_15 rfl ?_
              have hPc : va_P D vwCl (wMo k h th f asd sl kp sv sm tx ln (mxF (mxF (mxF (mxF (mxF dg (((f (0 + q))).toInt64)) (((f (9 + q))).toInt64)) (((f (18 + q))).toInt64)) (((jtM f (nI q) 9)).toInt64)) (((mnF (f (27 + q)) 9)).toInt64))) H := hP.sub [0, 1, 2, 3, 4, 5, 6] rfl
              have hDc : va_D A (wMo k h th f asd sl kp sv sm tx ln (mxF (mxF (mxF (mxF (mxF dg (((f (0 + q))).toInt64)) (((f (9 + q))).toInt64)) (((f (18 + q))).toInt64)) (((jtM f (nI q) 9)).toInt64)) (((mnF (f (27 + q)) 9)).toInt64))) := hD.sub [0, 1, 2, 3, 4, 5, 6] (by decide +kernel) rfl
              refine cl_v (va_runV (As := [.long (((mnF (bmF f q (9 - (q + 1))) 9)).toInt64)]) (rest := []) ⟨hx, hb, hml, hown, hts⟩ (c_X5_digestOne l D k h th f asd sl kp sv sm tx ln (mxF (mxF (mxF (mxF (mxF dg (((f (0 + q))).toInt64)) (((f (9 + q))).toInt64)) (((f (18 + q))).toInt64)) (((jtM f (nI q) 9)).toInt64)) (((mnF (f (27 + q)) 9)).toInt64)) (((mnF (bmF f q (9 - (q + 1))) 9)).toInt64) H.size) (cwV 1 hts gX5_digestPiece_X5_digestOne rfl rfl rfl (by decide +kernel) ⟨Nat.le_of_ble_eq_true rfl, Nat.le_of_ble_eq_true rfl⟩) ⟨pr_blind, va_recv hK hP (ci := 5) (q0 := 0) rfl rfl, pr_at hN hPc hK hDc⟩ rfl rfl hl.1 rfl (lv_room (Nat.le_of_ble_eq_true rfl)) dX5_digestPiece_16 ⟨Nat.le_of_ble_eq_true rfl, Nat.le_of_ble_eq_true rfl⟩) hP hD hS hA [0, 1, 2, 3, 4, 5, 6] [] ([]) [h 0, h 1, h 2, h 3, h 4, h 5, h 6] 7 rfl (wn := wMo k h th f asd sl kp sv sm tx ln (mxF (mxF (mxF (mxF (mxF (mxF dg (((f (0 + q))).toInt64)) (((f (9 + q))).toInt64)) (((f (18 + q))).toInt64)) (((jtM f (nI q) 9)).toInt64)) (((mnF (f (27 + q)) 9)).toInt64)) (((mnF (bmF f q (9 - (q + 1))) 9)).toInt64))) rfl rfl rfl rfl (by decide +kernel) rfl rfl (fun H locs hP hD hS => ?_)
              clear hPc hDc
              refine lv_iinc (v := 6) (lv' := [(2, .int 6), (0, .ref (h 0)), (1, .int (nI q))]) hx hb dX5_digestPiece_19 hl (k := 0) rfl rfl (by decide) rfl (fun ls hl => ?_)
              refine lv_goto (tgt := 2) hx hb dX5_digestPiece_22 (by decide) ?_
              refine lv_iload_n hx hb dX5_digestPiece_2 rfl (lv_at hl 0 rfl) ?_
              refine lv_bipush (v := 8) hx hb dX5_digestPiece_3 (by decide) ?_
              refine lv_icmp_ge (tgt := 25) hx hb dX5_digestPiece_5 (by decide) (fun c_7 => ?_) (fun c_7 => ?_)
              · exact absurd c_7 (by decide)
              · refine lv_aload_n hx hb dX5_digestPiece_8 rfl (lv_at hl 1 rfl) ?_
                refine lv_aload_n hx hb dX5_digestPiece_9 rfl (lv_at hl 1 rfl) ?_
                refine lv_iload_n hx hb dX5_digestPiece_10 rfl (lv_at hl 2 rfl) ?_
                refine lv_iload_n hx hb dX5_digestPiece_11 rfl (lv_at hl 0 rfl) ?_
                have hPc : va_P D vwCl (wMo k h th f asd sl kp sv sm tx ln (mxF (mxF (mxF (mxF (mxF (mxF dg (((f (0 + q))).toInt64)) (((f (9 + q))).toInt64)) (((f (18 + q))).toInt64)) (((jtM f (nI q) 9)).toInt64)) (((mnF (f (27 + q)) 9)).toInt64)) (((mnF (bmF f q (9 - (q + 1))) 9)).toInt64))) H := hP.sub [0, 1, 2, 3, 4, 5, 6] rfl
                have hDc : va_D A (wMo k h th f asd sl kp sv sm tx ln (mxF (mxF (mxF (mxF (mxF (mxF dg (((f (0 + q))).toInt64)) (((f (9 + q))).toInt64)) (((f (18 + q))).toInt64)) (((jtM f (nI q) 9)).toInt64)) (((mnF (f (27 + q)) 9)).toInt64)) (((mnF (bmF f q (9 - (q + 1))) 9)).toInt64))) := hD.sub [0, 1, 2, 3, 4, 5, 6] (by decide +kernel) rfl
                refine cl_i0 (va_runV (As := [.int (nI q), .int 6]) (rest := [.ref (h 0)]) ⟨hx, hb, hml, hown, hts⟩ (c_X5_property_6 l D k h th f asd sl kp sv sm tx ln (mxF (mxF (mxF (mxF (mxF (mxF dg (((f (0 + q))).toInt64)) (((f (9 + q))).toInt64)) (((f (18 + q))).toInt64)) (((jtM f (nI q) 9)).toInt64)) (((mnF (f (27 + q)) 9)).toInt64)) (((mnF (bmF f q (9 - (q + 1))) 9)).toInt64)) q hq H.size) (cwV 2 hts gX5_digestPiece_X5_property rfl rfl rfl (by decide +kernel) ⟨Nat.le_of_ble_eq_true rfl, Nat.le_of_ble_eq_true rfl⟩) ⟨pr_blind, va_recv hK hP (ci := 5) (q0 := 0) rfl rfl, pr_at hN hPc hK hDc⟩ rfl rfl hl.1 rfl (lv_room (Nat.le_of_ble_eq_true rfl)) dX5_digestPiece_12 ⟨Nat.le_of_ble_eq_true rfl, Nat.le_of_ble_eq_true rfl⟩) hP hD hS hA [0, 1, 2, 3, 4, 5, 6] rfl (fun H locs hP hD hS => ?_)
                clear hPc hDc
                refine lv_i2l hx hb dX5_digestPiece_15 rfl ?_
                have hPc : va_P D vwCl (wMo k h th f asd sl kp sv sm tx ln (mxF (mxF (mxF (mxF (mxF (mxF dg (((f (0 + q))).toInt64)) (((f (9 + q))).toInt64)) (((f (18 + q))).toInt64)) (((jtM f (nI q) 9)).toInt64)) (((mnF (f (27 + q)) 9)).toInt64)) (((mnF (bmF f q (9 - (q + 1))) 9)).toInt64))) H := hP.sub [0, 1, 2, 3, 4, 5, 6] rfl
                have hDc : va_D A (wMo k h th f asd sl kp sv sm tx ln (mxF (mxF (mxF (mxF (mxF (mxF dg (((f (0 + q))).toInt64)) (((f (9 + q))).toInt64)) (((f (18 + q))).toInt64)) (((jtM f (nI q) 9)).toInt64)) (((mnF (f (27 + q)) 9)).toInt64)) (((mnF (bmF f q (9 - (q + 1))) 9)).toInt64))) := hD.sub [0, 1, 2, 3, 4, 5, 6] (by decide +kernel) rfl
                refine cl_v (va_runV (As := [.long (((wyF f (1 <<< (nI q &&& 31)) false 511)).toInt64)]) (rest := []) ⟨hx, hb, hml, hown, hts⟩ (c_X5_digestOne l D k h th f asd sl kp sv sm tx ln (mxF (mxF (mxF (mxF (mxF (mxF dg (((f (0 + q))).toInt64)) (((f (9 + q))).toInt64)) (((f (18 + q))).toInt64)) (((jtM f (nI q) 9)).toInt64)) (((mnF (f (27 + q)) 9)).toInt64)) (((mnF (bmF f q (9 - (q + 1))) 9)).toInt64)) (((wyF f (1 <<< (nI q &&& 31)) false 511)).toInt64) H.size) (cwV 1 hts gX5_digestPiece_X5_digestOne rfl rfl rfl (by decide +kernel) ⟨Nat.le_of_ble_eq_true rfl, Nat.le_of_ble_eq_true rfl⟩) ⟨pr_blind, va_recv hK hP (ci := 5) (q0 := 0) rfl rfl, pr_at hN hPc hK hDc⟩ rfl rfl hl.1 rfl (lv_room (Nat.le_of_ble_eq_true rfl)) dX5_digestPiece_16 ⟨Nat.le_of_ble_eq_true rfl, Nat.le_of_ble_eq_true rfl⟩) hP hD hS hA [0, 1, 2, 3, 4, 5, 6] [] ([]) [h 0, h 1, h 2, h 3, h 4, h 5, h 6] 7 rfl (wn := wMo k h th f asd sl kp sv sm tx ln (mxF (mxF (mxF (mxF (mxF (mxF (mxF dg (((f (0 + q))).toInt64)) (((f (9 + q))).toInt64)) (((f (18 + q))).toInt64)) (((jtM f (nI q) 9)).toInt64)) (((mnF (f (27 + q)) 9)).toInt64)) (((mnF (bmF f q (9 - (q + 1))) 9)).toInt64)) (((wyF f (1 <<< (nI q &&& 31)) false 511)).toInt64))) rfl rfl rfl rfl (by decide +kernel) rfl rfl (fun H locs hP hD hS => ?_)
                clear hPc hDc
                refine lv_iinc (v := 7) (lv' := [(2, .int 7), (0, .ref (h 0)), (1, .int (nI q))]) hx hb dX5_digestPiece_19 hl (k := 0) rfl rfl (by decide) rfl (fun ls hl => ?_)
                refine lv_goto (tgt := 2) hx hb dX5_digestPiece_22 (by decide) ?_
                refine lv_iload_n hx hb dX5_digestPiece_2 rfl (lv_at hl 0 rfl) ?_
                refine lv_bipush (v := 8) hx hb dX5_digestPiece_3 (by decide) ?_
                refine lv_icmp_ge (tgt := 25) hx hb dX5_digestPiece_5 (by decide) (fun c_8 => ?_) (fun c_8 => ?_)
                · exact absurd c_8 (by decide)
                · refine lv_aload_n hx hb dX5_digestPiece_8 rfl (lv_at hl 1 rfl) ?_
                  refine lv_aload_n hx hb dX5_digestPiece_9 rfl (lv_at hl 1 rfl) ?_
                  refine lv_iload_n hx hb dX5_digestPiece_10 rfl (lv_at hl 2 rfl) ?_
                  refine lv_iload_n hx hb dX5_digestPiece_11 rfl (lv_at hl 0 rfl) ?_
                  have hPc : va_P D vwCl (wMo k h th f asd sl kp sv sm tx ln (mxF (mxF (mxF (mxF (mxF (mxF (mxF dg (((f (0 + q))).toInt64)) (((f (9 + q))).toInt64)) (((f (18 + q))).toInt64)) (((jtM f (nI q) 9)).toInt64)) (((mnF (f (27 + q)) 9)).toInt64)) (((mnF (bmF f q (9 - (q + 1))) 9)).toInt64)) (((wyF f (1 <<< (nI q &&& 31)) false 511)).toInt64))) H := hP.sub [0, 1, 2, 3, 4, 5, 6] rfl
                  have hDc : va_D A (wMo k h th f asd sl kp sv sm tx ln (mxF (mxF (mxF (mxF (mxF (mxF (mxF dg (((f (0 + q))).toInt64)) (((f (9 + q))).toInt64)) (((f (18 + q))).toInt64)) (((jtM f (nI q) 9)).toInt64)) (((mnF (f (27 + q)) 9)).toInt64)) (((mnF (bmF f q (9 - (q + 1))) 9)).toInt64)) (((wyF f (1 <<< (nI q &&& 31)) false 511)).toInt64))) := hD.sub [0, 1, 2, 3, 4, 5, 6] (by decide +kernel) rfl
                  refine cl_i0 (va_runV (As := [.int (nI q), .int 7]) (rest := [.ref (h 0)]) ⟨hx, hb, hml, hown, hts⟩ (c_X5_property_7 l D k h th f asd sl kp sv sm tx ln (mxF (mxF (mxF (mxF (mxF (mxF (mxF dg (((f (0 + q))).toInt64)) (((f (9 + q))).toInt64)) (((f (18 + q))).toInt64)) (((jtM f (nI q) 9)).toInt64)) (((mnF (f (27 + q)) 9)).toInt64)) (((mnF (bmF f q (9 - (q + 1))) 9)).toInt64)) (((wyF f (1 <<< (nI q &&& 31)) false 511)).toInt64)) q hq H.size) (cwV 2 hts gX5_digestPiece_X5_property rfl rfl rfl (by decide +kernel) ⟨Nat.le_of_ble_eq_true rfl, Nat.le_of_ble_eq_true rfl⟩) ⟨pr_blind, va_recv hK hP (ci := 5) (q0 := 0) rfl rfl, pr_at hN hPc hK hDc⟩ rfl rfl hl.1 rfl (lv_room (Nat.le_of_ble_eq_true rfl)) dX5_digestPiece_12 ⟨Nat.le_of_ble_eq_true rfl, Nat.le_of_ble_eq_true rfl⟩) hP hD hS hA [0, 1, 2, 3, 4, 5, 6] rfl (fun H locs hP hD hS => ?_)
                  clear hPc hDc
                  refine lv_i2l hx hb dX5_digestPiece_15 rfl ?_
                  have hPc : va_P D vwCl (wMo k h th f asd sl kp sv sm tx ln (mxF (mxF (mxF (mxF (mxF (mxF (mxF dg (((f (0 + q))).toInt64)) (((f (9 + q))).toInt64)) (((f (18 + q))).toInt64)) (((jtM f (nI q) 9)).toInt64)) (((mnF (f (27 + q)) 9)).toInt64)) (((mnF (bmF f q (9 - (q + 1))) 9)).toInt64)) (((wyF f (1 <<< (nI q &&& 31)) false 511)).toInt64))) H := hP.sub [0, 1, 2, 3, 4, 5, 6] rfl
                  have hDc : va_D A (wMo k h th f asd sl kp sv sm tx ln (mxF (mxF (mxF (mxF (mxF (mxF (mxF dg (((f (0 + q))).toInt64)) (((f (9 + q))).toInt64)) (((f (18 + q))).toInt64)) (((jtM f (nI q) 9)).toInt64)) (((mnF (f (27 + q)) 9)).toInt64)) (((mnF (bmF f q (9 - (q + 1))) 9)).toInt64)) (((wyF f (1 <<< (nI q &&& 31)) false 511)).toInt64))) := hD.sub [0, 1, 2, 3, 4, 5, 6] (by decide +kernel) rfl
                  refine cl_v (va_runV (As := [.long (((f (36 + q))).toInt64)]) (rest := []) ⟨hx, hb, hml, hown, hts⟩ (c_X5_digestOne l D k h th f asd sl kp sv sm tx ln (mxF (mxF (mxF (mxF (mxF (mxF (mxF dg (((f (0 + q))).toInt64)) (((f (9 + q))).toInt64)) (((f (18 + q))).toInt64)) (((jtM f (nI q) 9)).toInt64)) (((mnF (f (27 + q)) 9)).toInt64)) (((mnF (bmF f q (9 - (q + 1))) 9)).toInt64)) (((wyF f (1 <<< (nI q &&& 31)) false 511)).toInt64)) (((f (36 + q))).toInt64) H.size) (cwV 1 hts gX5_digestPiece_X5_digestOne rfl rfl rfl (by decide +kernel) ⟨Nat.le_of_ble_eq_true rfl, Nat.le_of_ble_eq_true rfl⟩) ⟨pr_blind, va_recv hK hP (ci := 5) (q0 := 0) rfl rfl, pr_at hN hPc hK hDc⟩ rfl rfl hl.1 rfl (lv_room (Nat.le_of_ble_eq_true rfl)) dX5_digestPiece_16 ⟨Nat.le_of_ble_eq_true rfl, Nat.le_of_ble_eq_true rfl⟩) hP hD hS hA [0, 1, 2, 3, 4, 5, 6] [] ([]) [h 0, h 1, h 2, h 3, h 4, h 5, h 6] 7 rfl (wn := wMo k h th f asd sl kp sv sm tx ln (mxF (mxF (mxF (mxF (mxF (mxF (mxF (mxF dg (((f (0 + q))).toInt64)) (((f (9 + q))).toInt64)) (((f (18 + q))).toInt64)) (((jtM f (nI q) 9)).toInt64)) (((mnF (f (27 + q)) 9)).toInt64)) (((mnF (bmF f q (9 - (q + 1))) 9)).toInt64)) (((wyF f (1 <<< (nI q &&& 31)) false 511)).toInt64)) (((f (36 + q))).toInt64))) rfl rfl rfl rfl (by decide +kernel) rfl rfl (fun H locs hP hD hS => ?_)
                  clear hPc hDc
                  refine lv_iinc (v := 8) (lv' := [(2, .int 8), (0, .ref (h 0)), (1, .int (nI q))]) hx hb dX5_digestPiece_19 hl (k := 0) rfl rfl (by decide) rfl (fun ls hl => ?_)
                  refine lv_goto (tgt := 2) hx hb dX5_digestPiece_22 (by decide) ?_
                  refine lv_iload_n hx hb dX5_digestPiece_2 rfl (lv_at hl 0 rfl) ?_
                  refine lv_bipush (v := 8) hx hb dX5_digestPiece_3 (by decide) ?_
                  refine lv_icmp_ge (tgt := 25) hx hb dX5_digestPiece_5 (by decide) (fun c_9 => ?_) (fun c_9 => ?_)
                  · refine lv_iconst (v := 0) hx hb dX5_digestPiece_25 (by decide) ?_
                    refine lv_istore_n (lv' := [(2, .int 0), (0, .ref (h 0)), (1, .int (nI q))]) hx hb dX5_digestPiece_26 rfl hl (by decide) rfl (fun ls hl => ?_)
                    refine lv_iload_n hx hb dX5_digestPiece_27 rfl (lv_at hl 0 rfl) ?_
                    refine lv_bipush (v := 9) hx hb dX5_digestPiece_28 (by decide) ?_
                    refine lv_icmp_ge (tgt := 57) hx hb dX5_digestPiece_30 (by decide) (fun c_10 => ?_) (fun c_10 => ?_)
                    · exact absurd c_10 (by decide)
                    · refine lv_aload_n hx hb dX5_digestPiece_33 rfl (lv_at hl 1 rfl) ?_
                      refine lv_aload_n hx hb dX5_digestPiece_34 rfl (lv_at hl 1 rfl) ?_
                      refine va_get (D := D) (ci := 5) (v := .ref (h 1)) (C := RX5) (T := TX5) (N := 10) hx hb hts (fun _ h9 => (List.mem_cons_of_mem _ (List.mem_append_right _ h9))) hown hK hP 0 rfl rfl 1 (by decide) (hts _ (List.mem_of_getElem? (i := 1) rfl)) (fun _ h9 => h9) rfl dX5_digestPiece_35 ?_
                      refine lv_bipush (v := 27) hx hb dX5_digestPiece_38 (by decide) ?_
                      refine lv_iload_n hx hb dX5_digestPiece_40 rfl (lv_at hl 2 rfl) ?_
                      refine lv_iadd hx hb dX5_digestPiece_41 ?_
                      refine tp_e (y := (nI (27 + q))) (nI_add 27 q) ?_
                      refine ar_ld hx hb hK hP 1 rfl (27 + q) (nI_clamp (by omega)) (vp_in_nI (by omega) (by omega)) dX5_digestPiece_42 ?_
                      refine lv_iload_n hx hb dX5_digestPiece_43 rfl (lv_at hl 0 rfl) ?_
                      refine lv_ishr hx hb dX5_digestPiece_44 ?_
                      refine lv_iconst (v := 1) hx hb dX5_digestPiece_45 (by decide) ?_
                      refine lv_iand hx hb dX5_digestPiece_46 ?_
                      refine lv_i2l hx hb dX5_digestPiece_47 rfl ?_
                      have hPc : va_P D vwCl (wMo k h th f asd sl kp sv sm tx ln (mxF (mxF (mxF (mxF (mxF (mxF (mxF (mxF dg (((f (0 + q))).toInt64)) (((f (9 + q))).toInt64)) (((f (18 + q))).toInt64)) (((jtM f (nI q) 9)).toInt64)) (((mnF (f (27 + q)) 9)).toInt64)) (((mnF (bmF f q (9 - (q + 1))) 9)).toInt64)) (((wyF f (1 <<< (nI q &&& 31)) false 511)).toInt64)) (((f (36 + q))).toInt64))) H := hP.sub [0, 1, 2, 3, 4, 5, 6] rfl
                      have hDc : va_D A (wMo k h th f asd sl kp sv sm tx ln (mxF (mxF (mxF (mxF (mxF (mxF (mxF (mxF dg (((f (0 + q))).toInt64)) (((f (9 + q))).toInt64)) (((f (18 + q))).toInt64)) (((jtM f (nI q) 9)).toInt64)) (((mnF (f (27 + q)) 9)).toInt64)) (((mnF (bmF f q (9 - (q + 1))) 9)).toInt64)) (((wyF f (1 <<< (nI q &&& 31)) false 511)).toInt64)) (((f (36 + q))).toInt64))) := hD.sub [0, 1, 2, 3, 4, 5, 6] (by decide +kernel) rfl
                      refine cl_v (va_runV (As := [.long (((((f (27 + q)) >>> (0 &&& 31)) &&& 1)).toInt64)]) (rest := []) ⟨hx, hb, hml, hown, hts⟩ (c_X5_digestOne l D k h th f asd sl kp sv sm tx ln (mxF (mxF (mxF (mxF (mxF (mxF (mxF (mxF dg (((f (0 + q))).toInt64)) (((f (9 + q))).toInt64)) (((f (18 + q))).toInt64)) (((jtM f (nI q) 9)).toInt64)) (((mnF (f (27 + q)) 9)).toInt64)) (((mnF (bmF f q (9 - (q + 1))) 9)).toInt64)) (((wyF f (1 <<< (nI q &&& 31)) false 511)).toInt64)) (((f (36 + q))).toInt64)) (((((f (27 + q)) >>> (0 &&& 31)) &&& 1)).toInt64) H.size) (cwV 1 hts gX5_digestPiece_X5_digestOne rfl rfl rfl (by decide +kernel) ⟨Nat.le_of_ble_eq_true rfl, Nat.le_of_ble_eq_true rfl⟩) ⟨pr_blind, va_recv hK hP (ci := 5) (q0 := 0) rfl rfl, pr_at hN hPc hK hDc⟩ rfl rfl hl.1 rfl (lv_room (Nat.le_of_ble_eq_true rfl)) dX5_digestPiece_48 ⟨Nat.le_of_ble_eq_true rfl, Nat.le_of_ble_eq_true rfl⟩) hP hD hS hA [0, 1, 2, 3, 4, 5, 6] [] ([]) [h 0, h 1, h 2, h 3, h 4, h 5, h 6] 7 rfl (wn := wMo k h th f asd sl kp sv sm tx ln (mxF (mxF (mxF (mxF (mxF (mxF (mxF (mxF (mxF dg (((f (0 + q))).toInt64)) (((f (9 + q))).toInt64)) (((f (18 + q))).toInt64)) (((jtM f (nI q) 9)).toInt64)) (((mnF (f (27 + q)) 9)).toInt64)) (((mnF (bmF f q (9 - (q + 1))) 9)).toInt64)) (((wyF f (1 <<< (nI q &&& 31)) false 511)).toInt64)) (((f (36 + q))).toInt64)) (((((f (27 + q)) >>> (0 &&& 31)) &&& 1)).toInt64))) rfl rfl rfl rfl (by decide +kernel) rfl rfl (fun H locs hP hD hS => ?_)
                      clear hPc hDc
                      refine lv_iinc (v := 1) (lv' := [(2, .int 1), (0, .ref (h 0)), (1, .int (nI q))]) hx hb dX5_digestPiece_51 hl (k := 0) rfl rfl (by decide) rfl (fun ls hl => ?_)
                      refine lv_goto (tgt := 27) hx hb dX5_digestPiece_54 (by decide) ?_
                      refine lv_iload_n hx hb dX5_digestPiece_27 rfl (lv_at hl 0 rfl) ?_
                      refine lv_bipush (v := 9) hx hb dX5_digestPiece_28 (by decide) ?_
                      refine lv_icmp_ge (tgt := 57) hx hb dX5_digestPiece_30 (by decide) (fun c_11 => ?_) (fun c_11 => ?_)
                      · exact absurd c_11 (by decide)
                      · refine lv_aload_n hx hb dX5_digestPiece_33 rfl (lv_at hl 1 rfl) ?_
                        refine lv_aload_n hx hb dX5_digestPiece_34 rfl (lv_at hl 1 rfl) ?_
                        refine va_get (D := D) (ci := 5) (v := .ref (h 1)) (C := RX5) (T := TX5) (N := 10) hx hb hts (fun _ h9 => (List.mem_cons_of_mem _ (List.mem_append_right _ h9))) hown hK hP 0 rfl rfl 1 (by decide) (hts _ (List.mem_of_getElem? (i := 1) rfl)) (fun _ h9 => h9) rfl dX5_digestPiece_35 ?_
                        refine lv_bipush (v := 27) hx hb dX5_digestPiece_38 (by decide) ?_
                        refine lv_iload_n hx hb dX5_digestPiece_40 rfl (lv_at hl 2 rfl) ?_
                        refine lv_iadd hx hb dX5_digestPiece_41 ?_
                        refine tp_e (y := (nI (27 + q))) (nI_add 27 q) ?_
                        refine ar_ld hx hb hK hP 1 rfl (27 + q) (nI_clamp (by omega)) (vp_in_nI (by omega) (by omega)) dX5_digestPiece_42 ?_
                        refine lv_iload_n hx hb dX5_digestPiece_43 rfl (lv_at hl 0 rfl) ?_
                        refine lv_ishr hx hb dX5_digestPiece_44 ?_
                        refine lv_iconst (v := 1) hx hb dX5_digestPiece_45 (by decide) ?_
                        refine lv_iand hx hb dX5_digestPiece_46 ?_
                        refine lv_i2l hx hb dX5_digestPiece_47 rfl ?_
                        have hPc : va_P D vwCl (wMo k h th f asd sl kp sv sm tx ln (mxF (mxF (mxF (mxF (mxF (mxF (mxF (mxF (mxF dg (((f (0 + q))).toInt64)) (((f (9 + q))).toInt64)) (((f (18 + q))).toInt64)) (((jtM f (nI q) 9)).toInt64)) (((mnF (f (27 + q)) 9)).toInt64)) (((mnF (bmF f q (9 - (q + 1))) 9)).toInt64)) (((wyF f (1 <<< (nI q &&& 31)) false 511)).toInt64)) (((f (36 + q))).toInt64)) (((((f (27 + q)) >>> (0 &&& 31)) &&& 1)).toInt64))) H := hP.sub [0, 1, 2, 3, 4, 5, 6] rfl
                        have hDc : va_D A (wMo k h th f asd sl kp sv sm tx ln (mxF (mxF (mxF (mxF (mxF (mxF (mxF (mxF (mxF dg (((f (0 + q))).toInt64)) (((f (9 + q))).toInt64)) (((f (18 + q))).toInt64)) (((jtM f (nI q) 9)).toInt64)) (((mnF (f (27 + q)) 9)).toInt64)) (((mnF (bmF f q (9 - (q + 1))) 9)).toInt64)) (((wyF f (1 <<< (nI q &&& 31)) false 511)).toInt64)) (((f (36 + q))).toInt64)) (((((f (27 + q)) >>> (0 &&& 31)) &&& 1)).toInt64))) := hD.sub [0, 1, 2, 3, 4, 5, 6] (by decide +kernel) rfl
                        refine cl_v (va_runV (As := [.long (((((f (27 + q)) >>> (1 &&& 31)) &&& 1)).toInt64)]) (rest := []) ⟨hx, hb, hml, hown, hts⟩ (c_X5_digestOne l D k h th f asd sl kp sv sm tx ln (mxF (mxF (mxF (mxF (mxF (mxF (mxF (mxF (mxF dg (((f (0 + q))).toInt64)) (((f (9 + q))).toInt64)) (((f (18 + q))).toInt64)) (((jtM f (nI q) 9)).toInt64)) (((mnF (f (27 + q)) 9)).toInt64)) (((mnF (bmF f q (9 - (q + 1))) 9)).toInt64)) (((wyF f (1 <<< (nI q &&& 31)) false 511)).toInt64)) (((f (36 + q))).toInt64)) (((((f (27 + q)) >>> (0 &&& 31)) &&& 1)).toInt64)) (((((f (27 + q)) >>> (1 &&& 31)) &&& 1)).toInt64) H.size) (cwV 1 hts gX5_digestPiece_X5_digestOne rfl rfl rfl (by decide +kernel) ⟨Nat.le_of_ble_eq_true rfl, Nat.le_of_ble_eq_true rfl⟩) ⟨pr_blind, va_recv hK hP (ci := 5) (q0 := 0) rfl rfl, pr_at hN hPc hK hDc⟩ rfl rfl hl.1 rfl (lv_room (Nat.le_of_ble_eq_true rfl)) dX5_digestPiece_48 ⟨Nat.le_of_ble_eq_true rfl, Nat.le_of_ble_eq_true rfl⟩) hP hD hS hA [0, 1, 2, 3, 4, 5, 6] [] ([]) [h 0, h 1, h 2, h 3, h 4, h 5, h 6] 7 rfl (wn := wMo k h th f asd sl kp sv sm tx ln (mxF (mxF (mxF (mxF (mxF (mxF (mxF (mxF (mxF (mxF dg (((f (0 + q))).toInt64)) (((f (9 + q))).toInt64)) (((f (18 + q))).toInt64)) (((jtM f (nI q) 9)).toInt64)) (((mnF (f (27 + q)) 9)).toInt64)) (((mnF (bmF f q (9 - (q + 1))) 9)).toInt64)) (((wyF f (1 <<< (nI q &&& 31)) false 511)).toInt64)) (((f (36 + q))).toInt64)) (((((f (27 + q)) >>> (0 &&& 31)) &&& 1)).toInt64)) (((((f (27 + q)) >>> (1 &&& 31)) &&& 1)).toInt64))) rfl rfl rfl rfl (by decide +kernel) rfl rfl (fun H locs hP hD hS => ?_)
                        clear hPc hDc
                        refine lv_iinc (v := 2) (lv' := [(2, .int 2), (0, .ref (h 0)), (1, .int (nI q))]) hx hb dX5_digestPiece_51 hl (k := 0) rfl rfl (by decide) rfl (fun ls hl => ?_)
                        refine lv_goto (tgt := 27) hx hb dX5_digestPiece_54 (by decide) ?_
                        refine lv_iload_n hx hb dX5_digestPiece_27 rfl (lv_at hl 0 rfl) ?_
                        refine lv_bipush (v := 9) hx hb dX5_digestPiece_28 (by decide) ?_
                        refine lv_icmp_ge (tgt := 57) hx hb dX5_digestPiece_30 (by decide) (fun c_12 => ?_) (fun c_12 => ?_)
                        · exact absurd c_12 (by decide)
                        · refine lv_aload_n hx hb dX5_digestPiece_33 rfl (lv_at hl 1 rfl) ?_
                          refine lv_aload_n hx hb dX5_digestPiece_34 rfl (lv_at hl 1 rfl) ?_
                          refine va_get (D := D) (ci := 5) (v := .ref (h 1)) (C := RX5) (T := TX5) (N := 10) hx hb hts (fun _ h9 => (List.mem_cons_of_mem _ (List.mem_append_right _ h9))) hown hK hP 0 rfl rfl 1 (by decide) (hts _ (List.mem_of_getElem? (i := 1) rfl)) (fun _ h9 => h9) rfl dX5_digestPiece_35 ?_
                          refine lv_bipush (v := 27) hx hb dX5_digestPiece_38 (by decide) ?_
                          refine lv_iload_n hx hb dX5_digestPiece_40 rfl (lv_at hl 2 rfl) ?_
                          refine lv_iadd hx hb dX5_digestPiece_41 ?_
                          refine tp_e (y := (nI (27 + q))) (nI_add 27 q) ?_
                          refine ar_ld hx hb hK hP 1 rfl (27 + q) (nI_clamp (by omega)) (vp_in_nI (by omega) (by omega)) dX5_digestPiece_42 ?_
                          refine lv_iload_n hx hb dX5_digestPiece_43 rfl (lv_at hl 0 rfl) ?_
                          refine lv_ishr hx hb dX5_digestPiece_44 ?_
                          refine lv_iconst (v := 1) hx hb dX5_digestPiece_45 (by decide) ?_
                          refine lv_iand hx hb dX5_digestPiece_46 ?_
                          refine lv_i2l hx hb dX5_digestPiece_47 rfl ?_
                          have hPc : va_P D vwCl (wMo k h th f asd sl kp sv sm tx ln (mxF (mxF (mxF (mxF (mxF (mxF (mxF (mxF (mxF (mxF dg (((f (0 + q))).toInt64)) (((f (9 + q))).toInt64)) (((f (18 + q))).toInt64)) (((jtM f (nI q) 9)).toInt64)) (((mnF (f (27 + q)) 9)).toInt64)) (((mnF (bmF f q (9 - (q + 1))) 9)).toInt64)) (((wyF f (1 <<< (nI q &&& 31)) false 511)).toInt64)) (((f (36 + q))).toInt64)) (((((f (27 + q)) >>> (0 &&& 31)) &&& 1)).toInt64)) (((((f (27 + q)) >>> (1 &&& 31)) &&& 1)).toInt64))) H := hP.sub [0, 1, 2, 3, 4, 5, 6] rfl
                          have hDc : va_D A (wMo k h th f asd sl kp sv sm tx ln (mxF (mxF (mxF (mxF (mxF (mxF (mxF (mxF (mxF (mxF dg (((f (0 + q))).toInt64)) (((f (9 + q))).toInt64)) (((f (18 + q))).toInt64)) (((jtM f (nI q) 9)).toInt64)) (((mnF (f (27 + q)) 9)).toInt64)) (((mnF (bmF f q (9 - (q + 1))) 9)).toInt64)) (((wyF f (1 <<< (nI q &&& 31)) false 511)).toInt64)) (((f (36 + q))).toInt64)) (((((f (27 + q)) >>> (0 &&& 31)) &&& 1)).toInt64)) (((((f (27 + q)) >>> (1 &&& 31)) &&& 1)).toInt64))) := hD.sub [0, 1, 2, 3, 4, 5, 6] (by decide +kernel) rfl
                          refine cl_v (va_runV (As := [.long (((((f (27 + q)) >>> (2 &&& 31)) &&& 1)).toInt64)]) (rest := []) ⟨hx, hb, hml, hown, hts⟩ (c_X5_digestOne l D k h th f asd sl kp sv sm tx ln (mxF (mxF (mxF (mxF (mxF (mxF (mxF (mxF (mxF (mxF dg (((f (0 + q))).toInt64)) (((f (9 + q))).toInt64)) (((f (18 + q))).toInt64)) (((jtM f (nI q) 9)).toInt64)) (((mnF (f (27 + q)) 9)).toInt64)) (((mnF (bmF f q (9 - (q + 1))) 9)).toInt64)) (((wyF f (1 <<< (nI q &&& 31)) false 511)).toInt64)) (((f (36 + q))).toInt64)) (((((f (27 + q)) >>> (0 &&& 31)) &&& 1)).toInt64)) (((((f (27 + q)) >>> (1 &&& 31)) &&& 1)).toInt64)) (((((f (27 + q)) >>> (2 &&& 31)) &&& 1)).toInt64) H.size) (cwV 1 hts gX5_digestPiece_X5_digestOne rfl rfl rfl (by decide +kernel) ⟨Nat.le_of_ble_eq_true rfl, Nat.le_of_ble_eq_true rfl⟩) ⟨pr_blind, va_recv hK hP (ci := 5) (q0 := 0) rfl rfl, pr_at hN hPc hK hDc⟩ rfl rfl hl.1 rfl (lv_room (Nat.le_of_ble_eq_true rfl)) dX5_digestPiece_48 ⟨Nat.le_of_ble_eq_true rfl, Nat.le_of_ble_eq_true rfl⟩) hP hD hS hA [0, 1, 2, 3, 4, 5, 6] [] ([]) [h 0, h 1, h 2, h 3, h 4, h 5, h 6] 7 rfl (wn := wMo k h th f asd sl kp sv sm tx ln (mxF (mxF (mxF (mxF (mxF (mxF (mxF (mxF (mxF (mxF (mxF dg (((f (0 + q))).toInt64)) (((f (9 + q))).toInt64)) (((f (18 + q))).toInt64)) (((jtM f (nI q) 9)).toInt64)) (((mnF (f (27 + q)) 9)).toInt64)) (((mnF (bmF f q (9 - (q + 1))) 9)).toInt64)) (((wyF f (1 <<< (nI q &&& 31)) false 511)).toInt64)) (((f (36 + q))).toInt64)) (((((f (27 + q)) >>> (0 &&& 31)) &&& 1)).toInt64)) (((((f (27 + q)) >>> (1 &&& 31)) &&& 1)).toInt64)) (((((f (27 + q)) >>> (2 &&& 31)) &&& 1)).toInt64))) rfl rfl rfl rfl (by decide +kernel) rfl rfl (fun H locs hP hD hS => ?_)
                          clear hPc hDc
                          refine lv_iinc (v := 3) (lv' := [(2, .int 3), (0, .ref (h 0)), (1, .int (nI q))]) hx hb dX5_digestPiece_51 hl (k := 0) rfl rfl (by decide) rfl (fun ls hl => ?_)
                          refine lv_goto (tgt := 27) hx hb dX5_digestPiece_54 (by decide) ?_
                          refine lv_iload_n hx hb dX5_digestPiece_27 rfl (lv_at hl 0 rfl) ?_
                          refine lv_bipush (v := 9) hx hb dX5_digestPiece_28 (by decide) ?_
                          refine lv_icmp_ge (tgt := 57) hx hb dX5_digestPiece_30 (by decide) (fun c_13 => ?_) (fun c_13 => ?_)
                          · exact absurd c_13 (by decide)
                          · refine lv_aload_n hx hb dX5_digestPiece_33 rfl (lv_at hl 1 rfl) ?_
                            refine lv_aload_n hx hb dX5_digestPiece_34 rfl (lv_at hl 1 rfl) ?_
                            refine va_get (D := D) (ci := 5) (v := .ref (h 1)) (C := RX5) (T := TX5) (N := 10) hx hb hts (fun _ h9 => (List.mem_cons_of_mem _ (List.mem_append_right _ h9))) hown hK hP 0 rfl rfl 1 (by decide) (hts _ (List.mem_of_getElem? (i := 1) rfl)) (fun _ h9 => h9) rfl dX5_digestPiece_35 ?_
                            refine lv_bipush (v := 27) hx hb dX5_digestPiece_38 (by decide) ?_
                            refine lv_iload_n hx hb dX5_digestPiece_40 rfl (lv_at hl 2 rfl) ?_
                            refine lv_iadd hx hb dX5_digestPiece_41 ?_
                            refine tp_e (y := (nI (27 + q))) (nI_add 27 q) ?_
                            refine ar_ld hx hb hK hP 1 rfl (27 + q) (nI_clamp (by omega)) (vp_in_nI (by omega) (by omega)) dX5_digestPiece_42 ?_
                            refine lv_iload_n hx hb dX5_digestPiece_43 rfl (lv_at hl 0 rfl) ?_
                            refine lv_ishr hx hb dX5_digestPiece_44 ?_
                            refine lv_iconst (v := 1) hx hb dX5_digestPiece_45 (by decide) ?_
                            refine lv_iand hx hb dX5_digestPiece_46 ?_
                            refine lv_i2l hx hb dX5_digestPiece_47 rfl ?_
                            have hPc : va_P D vwCl (wMo k h th f asd sl kp sv sm tx ln (mxF (mxF (mxF (mxF (mxF (mxF (mxF (mxF (mxF (mxF (mxF dg (((f (0 + q))).toInt64)) (((f (9 + q))).toInt64)) (((f (18 + q))).toInt64)) (((jtM f (nI q) 9)).toInt64)) (((mnF (f (27 + q)) 9)).toInt64)) (((mnF (bmF f q (9 - (q + 1))) 9)).toInt64)) (((wyF f (1 <<< (nI q &&& 31)) false 511)).toInt64)) (((f (36 + q))).toInt64)) (((((f (27 + q)) >>> (0 &&& 31)) &&& 1)).toInt64)) (((((f (27 + q)) >>> (1 &&& 31)) &&& 1)).toInt64)) (((((f (27 + q)) >>> (2 &&& 31)) &&& 1)).toInt64))) H := hP.sub [0, 1, 2, 3, 4, 5, 6] rfl
                            have hDc : va_D A (wMo k h th f asd sl kp sv sm tx ln (mxF (mxF (mxF (mxF (mxF (mxF (mxF (mxF (mxF (mxF (mxF dg (((f (0 + q))).toInt64)) (((f (9 + q))).toInt64)) (((f (18 + q))).toInt64)) (((jtM f (nI q) 9)).toInt64)) (((mnF (f (27 + q)) 9)).toInt64)) (((mnF (bmF f q (9 - (q + 1))) 9)).toInt64)) (((wyF f (1 <<< (nI q &&& 31)) false 511)).toInt64)) (((f (36 + q))).toInt64)) (((((f (27 + q)) >>> (0 &&& 31)) &&& 1)).toInt64)) (((((f (27 + q)) >>> (1 &&& 31)) &&& 1)).toInt64)) (((((f (27 + q)) >>> (2 &&& 31)) &&& 1)).toInt64))) := hD.sub [0, 1, 2, 3, 4, 5, 6] (by decide +kernel) rfl
                            refine cl_v (va_runV (As := [.long (((((f (27 + q)) >>> (3 &&& 31)) &&& 1)).toInt64)]) (rest := []) ⟨hx, hb, hml, hown, hts⟩ (c_X5_digestOne l D k h th f asd sl kp sv sm tx ln (mxF (mxF (mxF (mxF (mxF (mxF (mxF (mxF (mxF (mxF (mxF dg (((f (0 + q))).toInt64)) (((f (9 + q))).toInt64)) (((f (18 + q))).toInt64)) (((jtM f (nI q) 9)).toInt64)) (((mnF (f (27 + q)) 9)).toInt64)) (((mnF (bmF f q (9 - (q + 1))) 9)).toInt64)) (((wyF f (1 <<< (nI q &&& 31)) false 511)).toInt64)) (((f (36 + q))).toInt64)) (((((f (27 + q)) >>> (0 &&& 31)) &&& 1)).toInt64)) (((((f (27 + q)) >>> (1 &&& 31)) &&& 1)).toInt64)) (((((f (27 + q)) >>> (2 &&& 31)) &&& 1)).toInt64)) (((((f (27 + q)) >>> (3 &&& 31)) &&& 1)).toInt64) H.size) (cwV 1 hts gX5_digestPiece_X5_digestOne rfl rfl rfl (by decide +kernel) ⟨Nat.le_of_ble_eq_true rfl, Nat.le_of_ble_eq_true rfl⟩) ⟨pr_blind, va_recv hK hP (ci := 5) (q0 := 0) rfl rfl, pr_at hN hPc hK hDc⟩ rfl rfl hl.1 rfl (lv_room (Nat.le_of_ble_eq_true rfl)) dX5_digestPiece_48 ⟨Nat.le_of_ble_eq_true rfl, Nat.le_of_ble_eq_true rfl⟩) hP hD hS hA [0, 1, 2, 3, 4, 5, 6] [] ([]) [h 0, h 1, h 2, h 3, h 4, h 5, h 6] 7 rfl (wn := wMo k h th f asd sl kp sv sm tx ln (mxF (mxF (mxF (mxF (mxF (mxF (mxF (mxF (mxF (mxF (mxF (mxF dg (((f (0 + q))).toInt64)) (((f (9 + q))).toInt64)) (((f (18 + q))).toInt64)) (((jtM f (nI q) 9)).toInt64)) (((mnF (f (27 + q)) 9)).toInt64)) (((mnF (bmF f q (9 - (q + 1))) 9)).toInt64)) (((wyF f (1 <<< (nI q &&& 31)) false 511)).toInt64)) (((f (36 + q))).toInt64)) (((((f (27 + q)) >>> (0 &&& 31)) &&& 1)).toInt64)) (((((f (27 + q)) >>> (1 &&& 31)) &&& 1)).toInt64)) (((((f (27 + q)) >>> (2 &&& 31)) &&& 1)).toInt64)) (((((f (27 + q)) >>> (3 &&& 31)) &&& 1)).toInt64))) rfl rfl rfl rfl (by decide +kernel) rfl rfl (fun H locs hP hD hS => ?_)
                            clear hPc hDc
                            refine lv_iinc (v := 4) (lv' := [(2, .int 4), (0, .ref (h 0)), (1, .int (nI q))]) hx hb dX5_digestPiece_51 hl (k := 0) rfl rfl (by decide) rfl (fun ls hl => ?_)
                            refine lv_goto (tgt := 27) hx hb dX5_digestPiece_54 (by decide) ?_
                            refine lv_iload_n hx hb dX5_digestPiece_27 rfl (lv_at hl 0 rfl) ?_
                            refine lv_bipush (v := 9) hx hb dX5_digestPiece_28 (by decide) ?_
                            refine lv_icmp_ge (tgt := 57) hx hb dX5_digestPiece_30 (by decide) (fun c_14 => ?_) (fun c_14 => ?_)
                            · exact absurd c_14 (by decide)
                            · refine lv_aload_n hx hb dX5_digestPiece_33 rfl (lv_at hl 1 rfl) ?_
                              refine lv_aload_n hx hb dX5_digestPiece_34 rfl (lv_at hl 1 rfl) ?_
                              refine va_get (D := D) (ci := 5) (v := .ref (h 1)) (C := RX5) (T := TX5) (N := 10) hx hb hts (fun _ h9 => (List.mem_cons_of_mem _ (List.mem_append_right _ h9))) hown hK hP 0 rfl rfl 1 (by decide) (hts _ (List.mem_of_getElem? (i := 1) rfl)) (fun _ h9 => h9) rfl dX5_digestPiece_35 ?_
                              refine lv_bipush (v := 27) hx hb dX5_digestPiece_38 (by decide) ?_
                              refine lv_iload_n hx hb dX5_digestPiece_40 rfl (lv_at hl 2 rfl) ?_
                              refine lv_iadd hx hb dX5_digestPiece_41 ?_
                              refine tp_e (y := (nI (27 + q))) (nI_add 27 q) ?_
                              refine ar_ld hx hb hK hP 1 rfl (27 + q) (nI_clamp (by omega)) (vp_in_nI (by omega) (by omega)) dX5_digestPiece_42 ?_
                              refine lv_iload_n hx hb dX5_digestPiece_43 rfl (lv_at hl 0 rfl) ?_
                              refine lv_ishr hx hb dX5_digestPiece_44 ?_
                              refine lv_iconst (v := 1) hx hb dX5_digestPiece_45 (by decide) ?_
                              refine lv_iand hx hb dX5_digestPiece_46 ?_
                              refine lv_i2l hx hb dX5_digestPiece_47 rfl ?_
                              have hPc : va_P D vwCl (wMo k h th f asd sl kp sv sm tx ln (mxF (mxF (mxF (mxF (mxF (mxF (mxF (mxF (mxF (mxF (mxF (mxF dg (((f (0 + q))).toInt64)) (((f (9 + q))).toInt64)) (((f (18 + q))).toInt64)) (((jtM f (nI q) 9)).toInt64)) (((mnF (f (27 + q)) 9)).toInt64)) (((mnF (bmF f q (9 - (q + 1))) 9)).toInt64)) (((wyF f (1 <<< (nI q &&& 31)) false 511)).toInt64)) (((f (36 + q))).toInt64)) (((((f (27 + q)) >>> (0 &&& 31)) &&& 1)).toInt64)) (((((f (27 + q)) >>> (1 &&& 31)) &&& 1)).toInt64)) (((((f (27 + q)) >>> (2 &&& 31)) &&& 1)).toInt64)) (((((f (27 + q)) >>> (3 &&& 31)) &&& 1)).toInt64))) H := hP.sub [0, 1, 2, 3, 4, 5, 6] rfl
                              have hDc : va_D A (wMo k h th f asd sl kp sv sm tx ln (mxF (mxF (mxF (mxF (mxF (mxF (mxF (mxF (mxF (mxF (mxF (mxF dg (((f (0 + q))).toInt64)) (((f (9 + q))).toInt64)) (((f (18 + q))).toInt64)) (((jtM f (nI q) 9)).toInt64)) (((mnF (f (27 + q)) 9)).toInt64)) (((mnF (bmF f q (9 - (q + 1))) 9)).toInt64)) (((wyF f (1 <<< (nI q &&& 31)) false 511)).toInt64)) (((f (36 + q))).toInt64)) (((((f (27 + q)) >>> (0 &&& 31)) &&& 1)).toInt64)) (((((f (27 + q)) >>> (1 &&& 31)) &&& 1)).toInt64)) (((((f (27 + q)) >>> (2 &&& 31)) &&& 1)).toInt64)) (((((f (27 + q)) >>> (3 &&& 31)) &&& 1)).toInt64))) := hD.sub [0, 1, 2, 3, 4, 5, 6] (by decide +kernel) rfl
                              refine cl_v (va_runV (As := [.long (((((f (27 + q)) >>> (4 &&& 31)) &&& 1)).toInt64)]) (rest := []) ⟨hx, hb, hml, hown, hts⟩ (c_X5_digestOne l D k h th f asd sl kp sv sm tx ln (mxF (mxF (mxF (mxF (mxF (mxF (mxF (mxF (mxF (mxF (mxF (mxF dg (((f (0 + q))).toInt64)) (((f (9 + q))).toInt64)) (((f (18 + q))).toInt64)) (((jtM f (nI q) 9)).toInt64)) (((mnF (f (27 + q)) 9)).toInt64)) (((mnF (bmF f q (9 - (q + 1))) 9)).toInt64)) (((wyF f (1 <<< (nI q &&& 31)) false 511)).toInt64)) (((f (36 + q))).toInt64)) (((((f (27 + q)) >>> (0 &&& 31)) &&& 1)).toInt64)) (((((f (27 + q)) >>> (1 &&& 31)) &&& 1)).toInt64)) (((((f (27 + q)) >>> (2 &&& 31)) &&& 1)).toInt64)) (((((f (27 + q)) >>> (3 &&& 31)) &&& 1)).toInt64)) (((((f (27 + q)) >>> (4 &&& 31)) &&& 1)).toInt64) H.size) (cwV 1 hts gX5_digestPiece_X5_digestOne rfl rfl rfl (by decide +kernel) ⟨Nat.le_of_ble_eq_true rfl, Nat.le_of_ble_eq_true rfl⟩) ⟨pr_blind, va_recv hK hP (ci := 5) (q0 := 0) rfl rfl, pr_at hN hPc hK hDc⟩ rfl rfl hl.1 rfl (lv_room (Nat.le_of_ble_eq_true rfl)) dX5_digestPiece_48 ⟨Nat.le_of_ble_eq_true rfl, Nat.le_of_ble_eq_true rfl⟩) hP hD hS hA [0, 1, 2, 3, 4, 5, 6] [] ([]) [h 0, h 1, h 2, h 3, h 4, h 5, h 6] 7 rfl (wn := wMo k h th f asd sl kp sv sm tx ln (mxF (mxF (mxF (mxF (mxF (mxF (mxF (mxF (mxF (mxF (mxF (mxF (mxF dg (((f (0 + q))).toInt64)) (((f (9 + q))).toInt64)) (((f (18 + q))).toInt64)) (((jtM f (nI q) 9)).toInt64)) (((mnF (f (27 + q)) 9)).toInt64)) (((mnF (bmF f q (9 - (q + 1))) 9)).toInt64)) (((wyF f (1 <<< (nI q &&& 31)) false 511)).toInt64)) (((f (36 + q))).toInt64)) (((((f (27 + q)) >>> (0 &&& 31)) &&& 1)).toInt64)) (((((f (27 + q)) >>> (1 &&& 31)) &&& 1)).toInt64)) (((((f (27 + q)) >>> (2 &&& 31)) &&& 1)).toInt64)) (((((f (27 + q)) >>> (3 &&& 31)) &&& 1)).toInt64)) (((((f (27 + q)) >>> (4 &&& 31)) &&& 1)).toInt64))) rfl rfl rfl rfl (by decide +kernel) rfl rfl (fun H locs hP hD hS => ?_)
                              clear hPc hDc
                              refine lv_iinc (v := 5) (lv' := [(2, .int 5), (0, .ref (h 0)), (1, .int (nI q))]) hx hb dX5_digestPiece_51 hl (k := 0) rfl rfl (by decide) rfl (fun ls hl => ?_)
                              refine lv_goto (tgt := 27) hx hb dX5_digestPiece_54 (by decide) ?_
                              refine lv_iload_n hx hb dX5_digestPiece_27 rfl (lv_at hl 0 rfl) ?_
                              refine lv_bipush (v := 9) hx hb dX5_digestPiece_28 (by decide) ?_
                              refine lv_icmp_ge (tgt := 57) hx hb dX5_digestPiece_30 (by decide) (fun c_15 => ?_) (fun c_15 => ?_)
                              · exact absurd c_15 (by decide)
                              · refine lv_aload_n hx hb dX5_digestPiece_33 rfl (lv_at hl 1 rfl) ?_
                                refine lv_aload_n hx hb dX5_digestPiece_34 rfl (lv_at hl 1 rfl) ?_
                                refine va_get (D := D) (ci := 5) (v := .ref (h 1)) (C := RX5) (T := TX5) (N := 10) hx hb hts (fun _ h9 => (List.mem_cons_of_mem _ (List.mem_append_right _ h9))) hown hK hP 0 rfl rfl 1 (by decide) (hts _ (List.mem_of_getElem? (i := 1) rfl)) (fun _ h9 => h9) rfl dX5_digestPiece_35 ?_
                                refine lv_bipush (v := 27) hx hb dX5_digestPiece_38 (by decide) ?_
                                refine lv_iload_n hx hb dX5_digestPiece_40 rfl (lv_at hl 2 rfl) ?_
                                refine lv_iadd hx hb dX5_digestPiece_41 ?_
                                refine tp_e (y := (nI (27 + q))) (nI_add 27 q) ?_
                                refine ar_ld hx hb hK hP 1 rfl (27 + q) (nI_clamp (by omega)) (vp_in_nI (by omega) (by omega)) dX5_digestPiece_42 ?_
                                refine lv_iload_n hx hb dX5_digestPiece_43 rfl (lv_at hl 0 rfl) ?_
                                refine lv_ishr hx hb dX5_digestPiece_44 ?_
                                refine lv_iconst (v := 1) hx hb dX5_digestPiece_45 (by decide) ?_
                                refine lv_iand hx hb dX5_digestPiece_46 ?_
                                refine lv_i2l hx hb dX5_digestPiece_47 rfl ?_
                                have hPc : va_P D vwCl (wMo k h th f asd sl kp sv sm tx ln (mxF (mxF (mxF (mxF (mxF (mxF (mxF (mxF (mxF (mxF (mxF (mxF (mxF dg (((f (0 + q))).toInt64)) (((f (9 + q))).toInt64)) (((f (18 + q))).toInt64)) (((jtM f (nI q) 9)).toInt64)) (((mnF (f (27 + q)) 9)).toInt64)) (((mnF (bmF f q (9 - (q + 1))) 9)).toInt64)) (((wyF f (1 <<< (nI q &&& 31)) false 511)).toInt64)) (((f (36 + q))).toInt64)) (((((f (27 + q)) >>> (0 &&& 31)) &&& 1)).toInt64)) (((((f (27 + q)) >>> (1 &&& 31)) &&& 1)).toInt64)) (((((f (27 + q)) >>> (2 &&& 31)) &&& 1)).toInt64)) (((((f (27 + q)) >>> (3 &&& 31)) &&& 1)).toInt64)) (((((f (27 + q)) >>> (4 &&& 31)) &&& 1)).toInt64))) H := hP.sub [0, 1, 2, 3, 4, 5, 6] rfl
                                have hDc : va_D A (wMo k h th f asd sl kp sv sm tx ln (mxF (mxF (mxF (mxF (mxF (mxF (mxF (mxF (mxF (mxF (mxF (mxF (mxF dg (((f (0 + q))).toInt64)) (((f (9 + q))).toInt64)) (((f (18 + q))).toInt64)) (((jtM f (nI q) 9)).toInt64)) (((mnF (f (27 + q)) 9)).toInt64)) (((mnF (bmF f q (9 - (q + 1))) 9)).toInt64)) (((wyF f (1 <<< (nI q &&& 31)) false 511)).toInt64)) (((f (36 + q))).toInt64)) (((((f (27 + q)) >>> (0 &&& 31)) &&& 1)).toInt64)) (((((f (27 + q)) >>> (1 &&& 31)) &&& 1)).toInt64)) (((((f (27 + q)) >>> (2 &&& 31)) &&& 1)).toInt64)) (((((f (27 + q)) >>> (3 &&& 31)) &&& 1)).toInt64)) (((((f (27 + q)) >>> (4 &&& 31)) &&& 1)).toInt64))) := hD.sub [0, 1, 2, 3, 4, 5, 6] (by decide +kernel) rfl
                                refine cl_v (va_runV (As := [.long (((((f (27 + q)) >>> (5 &&& 31)) &&& 1)).toInt64)]) (rest := []) ⟨hx, hb, hml, hown, hts⟩ (c_X5_digestOne l D k h th f asd sl kp sv sm tx ln (mxF (mxF (mxF (mxF (mxF (mxF (mxF (mxF (mxF (mxF (mxF (mxF (mxF dg (((f (0 + q))).toInt64)) (((f (9 + q))).toInt64)) (((f (18 + q))).toInt64)) (((jtM f (nI q) 9)).toInt64)) (((mnF (f (27 + q)) 9)).toInt64)) (((mnF (bmF f q (9 - (q + 1))) 9)).toInt64)) (((wyF f (1 <<< (nI q &&& 31)) false 511)).toInt64)) (((f (36 + q))).toInt64)) (((((f (27 + q)) >>> (0 &&& 31)) &&& 1)).toInt64)) (((((f (27 + q)) >>> (1 &&& 31)) &&& 1)).toInt64)) (((((f (27 + q)) >>> (2 &&& 31)) &&& 1)).toInt64)) (((((f (27 + q)) >>> (3 &&& 31)) &&& 1)).toInt64)) (((((f (27 + q)) >>> (4 &&& 31)) &&& 1)).toInt64)) (((((f (27 + q)) >>> (5 &&& 31)) &&& 1)).toInt64) H.size) (cwV 1 hts gX5_digestPiece_X5_digestOne rfl rfl rfl (by decide +kernel) ⟨Nat.le_of_ble_eq_true rfl, Nat.le_of_ble_eq_true rfl⟩) ⟨pr_blind, va_recv hK hP (ci := 5) (q0 := 0) rfl rfl, pr_at hN hPc hK hDc⟩ rfl rfl hl.1 rfl (lv_room (Nat.le_of_ble_eq_true rfl)) dX5_digestPiece_48 ⟨Nat.le_of_ble_eq_true rfl, Nat.le_of_ble_eq_true rfl⟩) hP hD hS hA [0, 1, 2, 3, 4, 5, 6] [] ([]) [h 0, h 1, h 2, h 3, h 4, h 5, h 6] 7 rfl (wn := wMo k h th f asd sl kp sv sm tx ln (mxF (mxF (mxF (mxF (mxF (mxF (mxF (mxF (mxF (mxF (mxF (mxF (mxF (mxF dg (((f (0 + q))).toInt64)) (((f (9 + q))).toInt64)) (((f (18 + q))).toInt64)) (((jtM f (nI q) 9)).toInt64)) (((mnF (f (27 + q)) 9)).toInt64)) (((mnF (bmF f q (9 - (q + 1))) 9)).toInt64)) (((wyF f (1 <<< (nI q &&& 31)) false 511)).toInt64)) (((f (36 + q))).toInt64)) (((((f (27 + q)) >>> (0 &&& 31)) &&& 1)).toInt64)) (((((f (27 + q)) >>> (1 &&& 31)) &&& 1)).toInt64)) (((((f (27 + q)) >>> (2 &&& 31)) &&& 1)).toInt64)) (((((f (27 + q)) >>> (3 &&& 31)) &&& 1)).toInt64)) (((((f (27 + q)) >>> (4 &&& 31)) &&& 1)).toInt64)) (((((f (27 + q)) >>> (5 &&& 31)) &&& 1)).toInt64))) rfl rfl rfl rfl (by decide +kernel) rfl rfl (fun H locs hP hD hS => ?_)
                                clear hPc hDc
                                refine lv_iinc (v := 6) (lv' := [(2, .int 6), (0, .ref (h 0)), (1, .int (nI q))]) hx hb dX5_digestPiece_51 hl (k := 0) rfl rfl (by decide) rfl (fun ls hl => ?_)
                                refine lv_goto (tgt := 27) hx hb dX5_digestPiece_54 (by decide) ?_
                                refine lv_iload_n hx hb dX5_digestPiece_27 rfl (lv_at hl 0 rfl) ?_
                                refine lv_bipush (v := 9) hx hb dX5_digestPiece_28 (by decide) ?_
                                refine lv_icmp_ge (tgt := 57) hx hb dX5_digestPiece_30 (by decide) (fun c_16 => ?_) (fun c_16 => ?_)
                                · exact absurd c_16 (by decide)
                                · refine lv_aload_n hx hb dX5_digestPiece_33 rfl (lv_at hl 1 rfl) ?_
                                  refine lv_aload_n hx hb dX5_digestPiece_34 rfl (lv_at hl 1 rfl) ?_
                                  refine va_get (D := D) (ci := 5) (v := .ref (h 1)) (C := RX5) (T := TX5) (N := 10) hx hb hts (fun _ h9 => (List.mem_cons_of_mem _ (List.mem_append_right _ h9))) hown hK hP 0 rfl rfl 1 (by decide) (hts _ (List.mem_of_getElem? (i := 1) rfl)) (fun _ h9 => h9) rfl dX5_digestPiece_35 ?_
                                  refine lv_bipush (v := 27) hx hb dX5_digestPiece_38 (by decide) ?_
                                  refine lv_iload_n hx hb dX5_digestPiece_40 rfl (lv_at hl 2 rfl) ?_
                                  refine lv_iadd hx hb dX5_digestPiece_41 ?_
                                  refine tp_e (y := (nI (27 + q))) (nI_add 27 q) ?_
                                  refine ar_ld hx hb hK hP 1 rfl (27 + q) (nI_clamp (by omega)) (vp_in_nI (by omega) (by omega)) dX5_digestPiece_42 ?_
                                  refine lv_iload_n hx hb dX5_digestPiece_43 rfl (lv_at hl 0 rfl) ?_
                                  refine lv_ishr hx hb dX5_digestPiece_44 ?_
                                  refine lv_iconst (v := 1) hx hb dX5_digestPiece_45 (by decide) ?_
                                  refine lv_iand hx hb dX5_digestPiece_46 ?_
                                  refine lv_i2l hx hb dX5_digestPiece_47 rfl ?_
                                  have hPc : va_P D vwCl (wMo k h th f asd sl kp sv sm tx ln (mxF (mxF (mxF (mxF (mxF (mxF (mxF (mxF (mxF (mxF (mxF (mxF (mxF (mxF dg (((f (0 + q))).toInt64)) (((f (9 + q))).toInt64)) (((f (18 + q))).toInt64)) (((jtM f (nI q) 9)).toInt64)) (((mnF (f (27 + q)) 9)).toInt64)) (((mnF (bmF f q (9 - (q + 1))) 9)).toInt64)) (((wyF f (1 <<< (nI q &&& 31)) false 511)).toInt64)) (((f (36 + q))).toInt64)) (((((f (27 + q)) >>> (0 &&& 31)) &&& 1)).toInt64)) (((((f (27 + q)) >>> (1 &&& 31)) &&& 1)).toInt64)) (((((f (27 + q)) >>> (2 &&& 31)) &&& 1)).toInt64)) (((((f (27 + q)) >>> (3 &&& 31)) &&& 1)).toInt64)) (((((f (27 + q)) >>> (4 &&& 31)) &&& 1)).toInt64)) (((((f (27 + q)) >>> (5 &&& 31)) &&& 1)).toInt64))) H := hP.sub [0, 1, 2, 3, 4, 5, 6] rfl
                                  have hDc : va_D A (wMo k h th f asd sl kp sv sm tx ln (mxF (mxF (mxF (mxF (mxF (mxF (mxF (mxF (mxF (mxF (mxF (mxF (mxF (mxF dg (((f (0 + q))).toInt64)) (((f (9 + q))).toInt64)) (((f (18 + q))).toInt64)) (((jtM f (nI q) 9)).toInt64)) (((mnF (f (27 + q)) 9)).toInt64)) (((mnF (bmF f q (9 - (q + 1))) 9)).toInt64)) (((wyF f (1 <<< (nI q &&& 31)) false 511)).toInt64)) (((f (36 + q))).toInt64)) (((((f (27 + q)) >>> (0 &&& 31)) &&& 1)).toInt64)) (((((f (27 + q)) >>> (1 &&& 31)) &&& 1)).toInt64)) (((((f (27 + q)) >>> (2 &&& 31)) &&& 1)).toInt64)) (((((f (27 + q)) >>> (3 &&& 31)) &&& 1)).toInt64)) (((((f (27 + q)) >>> (4 &&& 31)) &&& 1)).toInt64)) (((((f (27 + q)) >>> (5 &&& 31)) &&& 1)).toInt64))) := hD.sub [0, 1, 2, 3, 4, 5, 6] (by decide +kernel) rfl
                                  refine cl_v (va_runV (As := [.long (((((f (27 + q)) >>> (6 &&& 31)) &&& 1)).toInt64)]) (rest := []) ⟨hx, hb, hml, hown, hts⟩ (c_X5_digestOne l D k h th f asd sl kp sv sm tx ln (mxF (mxF (mxF (mxF (mxF (mxF (mxF (mxF (mxF (mxF (mxF (mxF (mxF (mxF dg (((f (0 + q))).toInt64)) (((f (9 + q))).toInt64)) (((f (18 + q))).toInt64)) (((jtM f (nI q) 9)).toInt64)) (((mnF (f (27 + q)) 9)).toInt64)) (((mnF (bmF f q (9 - (q + 1))) 9)).toInt64)) (((wyF f (1 <<< (nI q &&& 31)) false 511)).toInt64)) (((f (36 + q))).toInt64)) (((((f (27 + q)) >>> (0 &&& 31)) &&& 1)).toInt64)) (((((f (27 + q)) >>> (1 &&& 31)) &&& 1)).toInt64)) (((((f (27 + q)) >>> (2 &&& 31)) &&& 1)).toInt64)) (((((f (27 + q)) >>> (3 &&& 31)) &&& 1)).toInt64)) (((((f (27 + q)) >>> (4 &&& 31)) &&& 1)).toInt64)) (((((f (27 + q)) >>> (5 &&& 31)) &&& 1)).toInt64)) (((((f (27 + q)) >>> (6 &&& 31)) &&& 1)).toInt64) H.size) (cwV 1 hts gX5_digestPiece_X5_digestOne rfl rfl rfl (by decide +kernel) ⟨Nat.le_of_ble_eq_true rfl, Nat.le_of_ble_eq_true rfl⟩) ⟨pr_blind, va_recv hK hP (ci := 5) (q0 := 0) rfl rfl, pr_at hN hPc hK hDc⟩ rfl rfl hl.1 rfl (lv_room (Nat.le_of_ble_eq_true rfl)) dX5_digestPiece_48 ⟨Nat.le_of_ble_eq_true rfl, Nat.le_of_ble_eq_true rfl⟩) hP hD hS hA [0, 1, 2, 3, 4, 5, 6] [] ([]) [h 0, h 1, h 2, h 3, h 4, h 5, h 6] 7 rfl (wn := wMo k h th f asd sl kp sv sm tx ln (mxF (mxF (mxF (mxF (mxF (mxF (mxF (mxF (mxF (mxF (mxF (mxF (mxF (mxF (mxF dg (((f (0 + q))).toInt64)) (((f (9 + q))).toInt64)) (((f (18 + q))).toInt64)) (((jtM f (nI q) 9)).toInt64)) (((mnF (f (27 + q)) 9)).toInt64)) (((mnF (bmF f q (9 - (q + 1))) 9)).toInt64)) (((wyF f (1 <<< (nI q &&& 31)) false 511)).toInt64)) (((f (36 + q))).toInt64)) (((((f (27 + q)) >>> (0 &&& 31)) &&& 1)).toInt64)) (((((f (27 + q)) >>> (1 &&& 31)) &&& 1)).toInt64)) (((((f (27 + q)) >>> (2 &&& 31)) &&& 1)).toInt64)) (((((f (27 + q)) >>> (3 &&& 31)) &&& 1)).toInt64)) (((((f (27 + q)) >>> (4 &&& 31)) &&& 1)).toInt64)) (((((f (27 + q)) >>> (5 &&& 31)) &&& 1)).toInt64)) (((((f (27 + q)) >>> (6 &&& 31)) &&& 1)).toInt64))) rfl rfl rfl rfl (by decide +kernel) rfl rfl (fun H locs hP hD hS => ?_)
                                  clear hPc hDc
                                  refine lv_iinc (v := 7) (lv' := [(2, .int 7), (0, .ref (h 0)), (1, .int (nI q))]) hx hb dX5_digestPiece_51 hl (k := 0) rfl rfl (by decide) rfl (fun ls hl => ?_)
                                  refine lv_goto (tgt := 27) hx hb dX5_digestPiece_54 (by decide) ?_
                                  refine lv_iload_n hx hb dX5_digestPiece_27 rfl (lv_at hl 0 rfl) ?_
                                  refine lv_bipush (v := 9) hx hb dX5_digestPiece_28 (by decide) ?_
                                  refine lv_icmp_ge (tgt := 57) hx hb dX5_digestPiece_30 (by decide) (fun c_17 => ?_) (fun c_17 => ?_)
                                  · exact absurd c_17 (by decide)
                                  · refine lv_aload_n hx hb dX5_digestPiece_33 rfl (lv_at hl 1 rfl) ?_
                                    refine lv_aload_n hx hb dX5_digestPiece_34 rfl (lv_at hl 1 rfl) ?_
                                    refine va_get (D := D) (ci := 5) (v := .ref (h 1)) (C := RX5) (T := TX5) (N := 10) hx hb hts (fun _ h9 => (List.mem_cons_of_mem _ (List.mem_append_right _ h9))) hown hK hP 0 rfl rfl 1 (by decide) (hts _ (List.mem_of_getElem? (i := 1) rfl)) (fun _ h9 => h9) rfl dX5_digestPiece_35 ?_
                                    refine lv_bipush (v := 27) hx hb dX5_digestPiece_38 (by decide) ?_
                                    refine lv_iload_n hx hb dX5_digestPiece_40 rfl (lv_at hl 2 rfl) ?_
                                    refine lv_iadd hx hb dX5_digestPiece_41 ?_
                                    refine tp_e (y := (nI (27 + q))) (nI_add 27 q) ?_
                                    refine ar_ld hx hb hK hP 1 rfl (27 + q) (nI_clamp (by omega)) (vp_in_nI (by omega) (by omega)) dX5_digestPiece_42 ?_
                                    refine lv_iload_n hx hb dX5_digestPiece_43 rfl (lv_at hl 0 rfl) ?_
                                    refine lv_ishr hx hb dX5_digestPiece_44 ?_
                                    refine lv_iconst (v := 1) hx hb dX5_digestPiece_45 (by decide) ?_
                                    refine lv_iand hx hb dX5_digestPiece_46 ?_
                                    refine lv_i2l hx hb dX5_digestPiece_47 rfl ?_
                                    have hPc : va_P D vwCl (wMo k h th f asd sl kp sv sm tx ln (mxF (mxF (mxF (mxF (mxF (mxF (mxF (mxF (mxF (mxF (mxF (mxF (mxF (mxF (mxF dg (((f (0 + q))).toInt64)) (((f (9 + q))).toInt64)) (((f (18 + q))).toInt64)) (((jtM f (nI q) 9)).toInt64)) (((mnF (f (27 + q)) 9)).toInt64)) (((mnF (bmF f q (9 - (q + 1))) 9)).toInt64)) (((wyF f (1 <<< (nI q &&& 31)) false 511)).toInt64)) (((f (36 + q))).toInt64)) (((((f (27 + q)) >>> (0 &&& 31)) &&& 1)).toInt64)) (((((f (27 + q)) >>> (1 &&& 31)) &&& 1)).toInt64)) (((((f (27 + q)) >>> (2 &&& 31)) &&& 1)).toInt64)) (((((f (27 + q)) >>> (3 &&& 31)) &&& 1)).toInt64)) (((((f (27 + q)) >>> (4 &&& 31)) &&& 1)).toInt64)) (((((f (27 + q)) >>> (5 &&& 31)) &&& 1)).toInt64)) (((((f (27 + q)) >>> (6 &&& 31)) &&& 1)).toInt64))) H := hP.sub [0, 1, 2, 3, 4, 5, 6] rfl
                                    have hDc : va_D A (wMo k h th f asd sl kp sv sm tx ln (mxF (mxF (mxF (mxF (mxF (mxF (mxF (mxF (mxF (mxF (mxF (mxF (mxF (mxF (mxF dg (((f (0 + q))).toInt64)) (((f (9 + q))).toInt64)) (((f (18 + q))).toInt64)) (((jtM f (nI q) 9)).toInt64)) (((mnF (f (27 + q)) 9)).toInt64)) (((mnF (bmF f q (9 - (q + 1))) 9)).toInt64)) (((wyF f (1 <<< (nI q &&& 31)) false 511)).toInt64)) (((f (36 + q))).toInt64)) (((((f (27 + q)) >>> (0 &&& 31)) &&& 1)).toInt64)) (((((f (27 + q)) >>> (1 &&& 31)) &&& 1)).toInt64)) (((((f (27 + q)) >>> (2 &&& 31)) &&& 1)).toInt64)) (((((f (27 + q)) >>> (3 &&& 31)) &&& 1)).toInt64)) (((((f (27 + q)) >>> (4 &&& 31)) &&& 1)).toInt64)) (((((f (27 + q)) >>> (5 &&& 31)) &&& 1)).toInt64)) (((((f (27 + q)) >>> (6 &&& 31)) &&& 1)).toInt64))) := hD.sub [0, 1, 2, 3, 4, 5, 6] (by decide +kernel) rfl
                                    refine cl_v (va_runV (As := [.long (((((f (27 + q)) >>> (7 &&& 31)) &&& 1)).toInt64)]) (rest := []) ⟨hx, hb, hml, hown, hts⟩ (c_X5_digestOne l D k h th f asd sl kp sv sm tx ln (mxF (mxF (mxF (mxF (mxF (mxF (mxF (mxF (mxF (mxF (mxF (mxF (mxF (mxF (mxF dg (((f (0 + q))).toInt64)) (((f (9 + q))).toInt64)) (((f (18 + q))).toInt64)) (((jtM f (nI q) 9)).toInt64)) (((mnF (f (27 + q)) 9)).toInt64)) (((mnF (bmF f q (9 - (q + 1))) 9)).toInt64)) (((wyF f (1 <<< (nI q &&& 31)) false 511)).toInt64)) (((f (36 + q))).toInt64)) (((((f (27 + q)) >>> (0 &&& 31)) &&& 1)).toInt64)) (((((f (27 + q)) >>> (1 &&& 31)) &&& 1)).toInt64)) (((((f (27 + q)) >>> (2 &&& 31)) &&& 1)).toInt64)) (((((f (27 + q)) >>> (3 &&& 31)) &&& 1)).toInt64)) (((((f (27 + q)) >>> (4 &&& 31)) &&& 1)).toInt64)) (((((f (27 + q)) >>> (5 &&& 31)) &&& 1)).toInt64)) (((((f (27 + q)) >>> (6 &&& 31)) &&& 1)).toInt64)) (((((f (27 + q)) >>> (7 &&& 31)) &&& 1)).toInt64) H.size) (cwV 1 hts gX5_digestPiece_X5_digestOne rfl rfl rfl (by decide +kernel) ⟨Nat.le_of_ble_eq_true rfl, Nat.le_of_ble_eq_true rfl⟩) ⟨pr_blind, va_recv hK hP (ci := 5) (q0 := 0) rfl rfl, pr_at hN hPc hK hDc⟩ rfl rfl hl.1 rfl (lv_room (Nat.le_of_ble_eq_true rfl)) dX5_digestPiece_48 ⟨Nat.le_of_ble_eq_true rfl, Nat.le_of_ble_eq_true rfl⟩) hP hD hS hA [0, 1, 2, 3, 4, 5, 6] [] ([]) [h 0, h 1, h 2, h 3, h 4, h 5, h 6] 7 rfl (wn := wMo k h th f asd sl kp sv sm tx ln (mxF (mxF (mxF (mxF (mxF (mxF (mxF (mxF (mxF (mxF (mxF (mxF (mxF (mxF (mxF (mxF dg (((f (0 + q))).toInt64)) (((f (9 + q))).toInt64)) (((f (18 + q))).toInt64)) (((jtM f (nI q) 9)).toInt64)) (((mnF (f (27 + q)) 9)).toInt64)) (((mnF (bmF f q (9 - (q + 1))) 9)).toInt64)) (((wyF f (1 <<< (nI q &&& 31)) false 511)).toInt64)) (((f (36 + q))).toInt64)) (((((f (27 + q)) >>> (0 &&& 31)) &&& 1)).toInt64)) (((((f (27 + q)) >>> (1 &&& 31)) &&& 1)).toInt64)) (((((f (27 + q)) >>> (2 &&& 31)) &&& 1)).toInt64)) (((((f (27 + q)) >>> (3 &&& 31)) &&& 1)).toInt64)) (((((f (27 + q)) >>> (4 &&& 31)) &&& 1)).toInt64)) (((((f (27 + q)) >>> (5 &&& 31)) &&& 1)).toInt64)) (((((f (27 + q)) >>> (6 &&& 31)) &&& 1)).toInt64)) (((((f (27 + q)) >>> (7 &&& 31)) &&& 1)).toInt64))) rfl rfl rfl rfl (by decide +kernel) rfl rfl (fun H locs hP hD hS => ?_)
                                    clear hPc hDc
                                    refine lv_iinc (v := 8) (lv' := [(2, .int 8), (0, .ref (h 0)), (1, .int (nI q))]) hx hb dX5_digestPiece_51 hl (k := 0) rfl rfl (by decide) rfl (fun ls hl => ?_)
                                    refine lv_goto (tgt := 27) hx hb dX5_digestPiece_54 (by decide) ?_
                                    refine lv_iload_n hx hb dX5_digestPiece_27 rfl (lv_at hl 0 rfl) ?_
                                    refine lv_bipush (v := 9) hx hb dX5_digestPiece_28 (by decide) ?_
                                    refine lv_icmp_ge (tgt := 57) hx hb dX5_digestPiece_30 (by decide) (fun c_18 => ?_) (fun c_18 => ?_)
                                    · exact absurd c_18 (by decide)
                                    · refine lv_aload_n hx hb dX5_digestPiece_33 rfl (lv_at hl 1 rfl) ?_
                                      refine lv_aload_n hx hb dX5_digestPiece_34 rfl (lv_at hl 1 rfl) ?_
                                      refine va_get (D := D) (ci := 5) (v := .ref (h 1)) (C := RX5) (T := TX5) (N := 10) hx hb hts (fun _ h9 => (List.mem_cons_of_mem _ (List.mem_append_right _ h9))) hown hK hP 0 rfl rfl 1 (by decide) (hts _ (List.mem_of_getElem? (i := 1) rfl)) (fun _ h9 => h9) rfl dX5_digestPiece_35 ?_
                                      refine lv_bipush (v := 27) hx hb dX5_digestPiece_38 (by decide) ?_
                                      refine lv_iload_n hx hb dX5_digestPiece_40 rfl (lv_at hl 2 rfl) ?_
                                      refine lv_iadd hx hb dX5_digestPiece_41 ?_
                                      refine tp_e (y := (nI (27 + q))) (nI_add 27 q) ?_
                                      refine ar_ld hx hb hK hP 1 rfl (27 + q) (nI_clamp (by omega)) (vp_in_nI (by omega) (by omega)) dX5_digestPiece_42 ?_
                                      refine lv_iload_n hx hb dX5_digestPiece_43 rfl (lv_at hl 0 rfl) ?_
                                      refine lv_ishr hx hb dX5_digestPiece_44 ?_
                                      refine lv_iconst (v := 1) hx hb dX5_digestPiece_45 (by decide) ?_
                                      refine lv_iand hx hb dX5_digestPiece_46 ?_
                                      refine lv_i2l hx hb dX5_digestPiece_47 rfl ?_
                                      have hPc : va_P D vwCl (wMo k h th f asd sl kp sv sm tx ln (mxF (mxF (mxF (mxF (mxF (mxF (mxF (mxF (mxF (mxF (mxF (mxF (mxF (mxF (mxF (mxF dg (((f (0 + q))).toInt64)) (((f (9 + q))).toInt64)) (((f (18 + q))).toInt64)) (((jtM f (nI q) 9)).toInt64)) (((mnF (f (27 + q)) 9)).toInt64)) (((mnF (bmF f q (9 - (q + 1))) 9)).toInt64)) (((wyF f (1 <<< (nI q &&& 31)) false 511)).toInt64)) (((f (36 + q))).toInt64)) (((((f (27 + q)) >>> (0 &&& 31)) &&& 1)).toInt64)) (((((f (27 + q)) >>> (1 &&& 31)) &&& 1)).toInt64)) (((((f (27 + q)) >>> (2 &&& 31)) &&& 1)).toInt64)) (((((f (27 + q)) >>> (3 &&& 31)) &&& 1)).toInt64)) (((((f (27 + q)) >>> (4 &&& 31)) &&& 1)).toInt64)) (((((f (27 + q)) >>> (5 &&& 31)) &&& 1)).toInt64)) (((((f (27 + q)) >>> (6 &&& 31)) &&& 1)).toInt64)) (((((f (27 + q)) >>> (7 &&& 31)) &&& 1)).toInt64))) H := hP.sub [0, 1, 2, 3, 4, 5, 6] rfl
                                      have hDc : va_D A (wMo k h th f asd sl kp sv sm tx ln (mxF (mxF (mxF (mxF (mxF (mxF (mxF (mxF (mxF (mxF (mxF (mxF (mxF (mxF (mxF (mxF dg (((f (0 + q))).toInt64)) (((f (9 + q))).toInt64)) (((f (18 + q))).toInt64)) (((jtM f (nI q) 9)).toInt64)) (((mnF (f (27 + q)) 9)).toInt64)) (((mnF (bmF f q (9 - (q + 1))) 9)).toInt64)) (((wyF f (1 <<< (nI q &&& 31)) false 511)).toInt64)) (((f (36 + q))).toInt64)) (((((f (27 + q)) >>> (0 &&& 31)) &&& 1)).toInt64)) (((((f (27 + q)) >>> (1 &&& 31)) &&& 1)).toInt64)) (((((f (27 + q)) >>> (2 &&& 31)) &&& 1)).toInt64)) (((((f (27 + q)) >>> (3 &&& 31)) &&& 1)).toInt64)) (((((f (27 + q)) >>> (4 &&& 31)) &&& 1)).toInt64)) (((((f (27 + q)) >>> (5 &&& 31)) &&& 1)).toInt64)) (((((f (27 + q)) >>> (6 &&& 31)) &&& 1)).toInt64)) (((((f (27 + q)) >>> (7 &&& 31)) &&& 1)).toInt64))) := hD.sub [0, 1, 2, 3, 4, 5, 6] (by decide +kernel) rfl
                                      refine cl_v (va_runV (As := [.long (((((f (27 + q)) >>> (8 &&& 31)) &&& 1)).toInt64)]) (rest := []) ⟨hx, hb, hml, hown, hts⟩ (c_X5_digestOne l D k h th f asd sl kp sv sm tx ln (mxF (mxF (mxF (mxF (mxF (mxF (mxF (mxF (mxF (mxF (mxF (mxF (mxF (mxF (mxF (mxF dg (((f (0 + q))).toInt64)) (((f (9 + q))).toInt64)) (((f (18 + q))).toInt64)) (((jtM f (nI q) 9)).toInt64)) (((mnF (f (27 + q)) 9)).toInt64)) (((mnF (bmF f q (9 - (q + 1))) 9)).toInt64)) (((wyF f (1 <<< (nI q &&& 31)) false 511)).toInt64)) (((f (36 + q))).toInt64)) (((((f (27 + q)) >>> (0 &&& 31)) &&& 1)).toInt64)) (((((f (27 + q)) >>> (1 &&& 31)) &&& 1)).toInt64)) (((((f (27 + q)) >>> (2 &&& 31)) &&& 1)).toInt64)) (((((f (27 + q)) >>> (3 &&& 31)) &&& 1)).toInt64)) (((((f (27 + q)) >>> (4 &&& 31)) &&& 1)).toInt64)) (((((f (27 + q)) >>> (5 &&& 31)) &&& 1)).toInt64)) (((((f (27 + q)) >>> (6 &&& 31)) &&& 1)).toInt64)) (((((f (27 + q)) >>> (7 &&& 31)) &&& 1)).toInt64)) (((((f (27 + q)) >>> (8 &&& 31)) &&& 1)).toInt64) H.size) (cwV 1 hts gX5_digestPiece_X5_digestOne rfl rfl rfl (by decide +kernel) ⟨Nat.le_of_ble_eq_true rfl, Nat.le_of_ble_eq_true rfl⟩) ⟨pr_blind, va_recv hK hP (ci := 5) (q0 := 0) rfl rfl, pr_at hN hPc hK hDc⟩ rfl rfl hl.1 rfl (lv_room (Nat.le_of_ble_eq_true rfl)) dX5_digestPiece_48 ⟨Nat.le_of_ble_eq_true rfl, Nat.le_of_ble_eq_true rfl⟩) hP hD hS hA [0, 1, 2, 3, 4, 5, 6] [] ([]) [h 0, h 1, h 2, h 3, h 4, h 5, h 6] 7 rfl (wn := wMo k h th f asd sl kp sv sm tx ln (mxF (mxF (mxF (mxF (mxF (mxF (mxF (mxF (mxF (mxF (mxF (mxF (mxF (mxF (mxF (mxF (mxF dg (((f (0 + q))).toInt64)) (((f (9 + q))).toInt64)) (((f (18 + q))).toInt64)) (((jtM f (nI q) 9)).toInt64)) (((mnF (f (27 + q)) 9)).toInt64)) (((mnF (bmF f q (9 - (q + 1))) 9)).toInt64)) (((wyF f (1 <<< (nI q &&& 31)) false 511)).toInt64)) (((f (36 + q))).toInt64)) (((((f (27 + q)) >>> (0 &&& 31)) &&& 1)).toInt64)) (((((f (27 + q)) >>> (1 &&& 31)) &&& 1)).toInt64)) (((((f (27 + q)) >>> (2 &&& 31)) &&& 1)).toInt64)) (((((f (27 + q)) >>> (3 &&& 31)) &&& 1)).toInt64)) (((((f (27 + q)) >>> (4 &&& 31)) &&& 1)).toInt64)) (((((f (27 + q)) >>> (5 &&& 31)) &&& 1)).toInt64)) (((((f (27 + q)) >>> (6 &&& 31)) &&& 1)).toInt64)) (((((f (27 + q)) >>> (7 &&& 31)) &&& 1)).toInt64)) (((((f (27 + q)) >>> (8 &&& 31)) &&& 1)).toInt64))) rfl rfl rfl rfl (by decide +kernel) rfl rfl (fun H locs hP hD hS => ?_)
                                      clear hPc hDc
                                      refine lv_iinc (v := 9) (lv' := [(2, .int 9), (0, .ref (h 0)), (1, .int (nI q))]) hx hb dX5_digestPiece_51 hl (k := 0) rfl rfl (by decide) rfl (fun ls hl => ?_)
                                      refine lv_goto (tgt := 27) hx hb dX5_digestPiece_54 (by decide) ?_
                                      refine lv_iload_n hx hb dX5_digestPiece_27 rfl (lv_at hl 0 rfl) ?_
                                      refine lv_bipush (v := 9) hx hb dX5_digestPiece_28 (by decide) ?_
                                      refine lv_icmp_ge (tgt := 57) hx hb dX5_digestPiece_30 (by decide) (fun c_19 => ?_) (fun c_19 => ?_)
                                      · subst hQ
                                        exact rt_v hx hb hr hlocks hS dX5_digestPiece_57 (hP)
                                      · exact absurd c_19 (by decide)
                  · exact absurd c_9 (by decide)
