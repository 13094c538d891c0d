def feM (tx : Nat → Int32) (ln : Nat) : Int32 := if wrM tx ln 0 = -1 then nI ln else wrM tx ln 0
/-- the number that stands from place a on, of n digits -/
def nuM (tx : Nat → Int32) (ln a : Nat) : Nat → Int32
  | 0 => 0
  | n + 1 => 10 * nuM tx ln a n + dgM tx ln (a + n)
theorem upd_2 (f : Nat → Int32) (q : Nat) (v w : Int32) : upd (upd f q v) q w = upd f q w := by
  funext j
  unfold upd
  split <;> rfl
theorem upd_at (f : Nat → Int32) (q : Nat) (v : Int32) : upd f q v q = v := if_pos rfl

set_option maxHeartbeats 1000000 in
set_option maxRecDepth 100000 in
theorem c_X5_firstError (l : Launch) (D : va_G) (k : Nat → ClassId) (h : Nat → Nat) (th : Int32) (f asd sl kp sv : Nat → Int32) (sm : Int32) (tx : Nat → Int32) (ln : Nat) (dg : Int64) (hln : ln ≤ 60) : MI l yX5_firstError wsX5_firstError ({ frames := 5, cells := 0, slots := 0, locals := 109 }) D k [.ref (h 0)] (wMo k h th f asd sl kp sv sm tx (nI ln) dg) (feM tx ln) (wMo k h 0 f asd sl kp sv sm tx (nI ln) dg) := by
  intro sz
  refine Met.ofW (cc := cX5_firstError) (maxL := 1) (ret := (some .int)) (by decide) rfl ?_
  intro p e s m args below meth c s₁ B hml hv
  obtain ⟨rfl, hN, hsz, hP, hK, hD0⟩ := hv
  have hx := B.exec
  have hb := B.bytes
  have hr := B.returns
  have hts := atoms_spec (ws := wsX5_firstError) B.pre
  have hown : s.vm.findClass RX5 = some m.cls := findClass_of_methodNamed B.named
  have hlocks := B.notSynchronized
  subst hsz
  have hD := hD0.self (sz := s.heap.size)
  generalize hAe : va_A (wMo k h th f asd sl kp sv sm tx (nI ln) dg) s.heap.size = A at hD ⊢
  have hA : ∀ q : Nat, s.heap.size ≤ q → A q := fun q h => by rw [← hAe]; exact Or.inr h
  have hS : va_S A s.heap s.heap [] := va_S.rf
  have hl := lv_entry ([.ref (h 0)]) (n := 1) (Nat.le_of_ble_eq_true rfl)
  rw [lg_entry_eq]
  generalize (lg_sl ([.ref (h 0)]) ++ List.replicate (1 - (lg_sl ([.ref (h 0)])).length) Slot.unset).toArray = ls at hl ⊢
  have hl : lv_has ls 1 [(0, .ref (h 0))] := hl
  obtain ⟨H, hHe⟩ : ∃ H, H = s.heap := ⟨_, rfl⟩
  have hP : va_P D vwCl (wMo k h th f asd sl kp sv sm tx (nI ln) dg) H := by rw [hHe]; exact hP
  have hS : va_S A s.heap H [] := by rw [hHe]; exact hS
  rw [← hHe]
  refine absQ (fun Q hQ => ?_)
  refine lv_aload_n hx hb dX5_firstError_0 rfl (lv_at hl 0 rfl) ?_
  refine lv_iconst (v := 0) hx hb dX5_firstError_1 (by decide) ?_
  refine va_put (D := D) (ci := 5) (v := .int 0) (ty := tyX5 0) (C := RX5) (T := TX5) (N := 10) hx hb hts (fun _ h9 => (List.mem_cons_of_mem _ (List.mem_append_right _ h9))) tyX5 tyX5_ok nmX5 hown hK hP hD hS 0 rfl rfl 0 (by decide) (hts _ (List.mem_of_getElem? (i := 1) rfl)) (fun _ h9 => h9) rfl (tyX5_ok 0 (by decide)) rfl rfl (Nat.le_of_ble_eq_true rfl) dX5_firstError_2 (fun H locs hP hD hS => ?_)
  have hP : va_P D vwCl ([(h 0, .inr (5, [.int 0, .ref (h 1), .ref (h 2), .ref (h 3), .ref (h 4), .ref (h 5), .int sm, .ref (h 6), .int (nI ln), .long dg])), (h 1, .inl (k 0, 72, .inl f)), (h 2, .inl (k 0, 72, .inl asd)), (h 3, .inl (k 0, 144, .inl sl)), (h 4, .inl (k 1, 2, .inl kp)), (h 5, .inl (k 0, 432, .inl sv)), (h 6, .inl (k 0, 60, .inl tx))]) H := hP
  have hD : va_D A ([(h 0, .inr (5, [.int 0, .ref (h 1), .ref (h 2), .ref (h 3), .ref (h 4), .ref (h 5), .int sm, .ref (h 6), .int (nI ln), .long dg])), (h 1, .inl (k 0, 72, .inl f)), (h 2, .inl (k 0, 72, .inl asd)), (h 3, .inl (k 0, 144, .inl sl)), (h 4, .inl (k 1, 2, .inl kp)), (h 5, .inl (k 0, 432, .inl sv)), (h 6, .inl (k 0, 60, .inl tx))]) := hD
  refine lv_aload_n hx hb dX5_firstError_5 rfl (lv_at hl 0 rfl) ?_
  have hPc : va_P D vwCl (wMo k h 0 f asd sl kp sv sm tx (nI ln) dg) H := hP.sub [0, 1, 2, 3, 4, 5, 6] rfl
  have hDc : va_D A (wMo k h 0 f asd sl kp sv sm tx (nI ln) dg) := hD.sub [0, 1, 2, 3, 4, 5, 6] (by decide +kernel) rfl
  refine cl_i0 (va_runV (As := []) (rest := []) ⟨hx, hb, hml, hown, hts⟩ (c_X5_wrong l D k h 0 f asd sl kp sv sm tx ln dg hln H.size) (cwV 0 hts gX5_firstError_X5_wrong rfl rfl rfl (by decide +kernel) ⟨Nat.le_of_ble_eq_true rfl, Nat.le_of_ble_eq_true rfl⟩) ⟨pr_blind, va_recv hK hP (ci := 5) (q0 := 0) rfl rfl, pr_at hN hPc hK hDc⟩ rfl rfl hl.1 rfl (lv_room (Nat.le_of_ble_eq_true rfl)) dX5_firstError_6 ⟨Nat.le_of_ble_eq_true rfl, Nat.le_of_ble_eq_true rfl⟩) hP hD hS hA [0, 1, 2, 3, 4, 5, 6] rfl (fun H locs hP hD hS => ?_)
  clear hPc hDc
  refine lv_iconst (v := (-1)) hx hb dX5_firstError_9 (by decide) ?_
  refine lv_icmp_ne (tgt := 20) hx hb dX5_firstError_10 (by decide) (fun c_1 => ?_) (fun c_1 => ?_)
  · refine lv_aload_n hx hb dX5_firstError_20 rfl (lv_at hl 0 rfl) ?_
    have hPc : va_P D vwCl (wMo k h 0 f asd sl kp sv sm tx (nI ln) dg) H := hP.sub [0, 1, 2, 3, 4, 5, 6] rfl
    have hDc : va_D A (wMo k h 0 f asd sl kp sv sm tx (nI ln) dg) := hD.sub [0, 1, 2, 3, 4, 5, 6] (by decide +kernel) rfl
    refine cl_i0 (va_runV (As := []) (rest := []) ⟨hx, hb, hml, hown, hts⟩ (c_X5_wrong l D k h 0 f asd sl kp sv sm tx ln dg hln H.size) (cwV 0 hts gX5_firstError_X5_wrong rfl rfl rfl (by decide +kernel) ⟨Nat.le_of_ble_eq_true rfl, Nat.le_of_ble_eq_true rfl⟩) ⟨pr_blind, va_recv hK hP (ci := 5) (q0 := 0) rfl rfl, pr_at hN hPc hK hDc⟩ rfl rfl hl.1 rfl (lv_room (Nat.le_of_ble_eq_true rfl)) dX5_firstError_21 ⟨Nat.le_of_ble_eq_true rfl, Nat.le_of_ble_eq_true rfl⟩) hP hD hS hA [0, 1, 2, 3, 4, 5, 6] rfl (fun H locs hP hD hS => ?_)
    clear hPc hDc
    subst hQ
    exact rt_i hx hb hr hlocks hS dX5_firstError_24 (hP) (by rw [feM, if_neg c_1])
  · refine lv_aload_n hx hb dX5_firstError_13 rfl (lv_at hl 0 rfl) ?_
    refine va_get (D := D) (ci := 5) (v := .int (nI ln)) (C := RX5) (T := TX5) (N := 10) hx hb hts (fun _ h9 => (List.mem_cons_of_mem _ (List.mem_append_right _ h9))) hown hK hP 0 rfl rfl 8 (by decide) (hts _ (List.mem_of_getElem? (i := 2) rfl)) (fun _ h9 => h9) rfl dX5_firstError_14 ?_
    refine lv_goto (tgt := 24) hx hb dX5_firstError_17 (by decide) ?_
    subst hQ
    exact rt_i hx hb hr hlocks hS dX5_firstError_24 (hP) (by rw [feM, if_pos c_1])

set_option maxHeartbeats 1000000 in
set_option maxRecDepth 100000 in
theorem c_X5_takes_99 (l : Launch) (D : va_G) (k : Nat → ClassId) (h : Nat → Nat) (th : Int32) (f asd sl kp sv : Nat → Int32) (sm : Int32) (tx : Nat → Int32) (ln : Nat) (dg : Int64) (i q z : Nat) (hln : ln ≤ 60) (hi : i < 60) (hq : q < 9) (hq1 : dgM tx ln (i + 1) = nI q) (hz : i + 3 ≤ z) (hz2 : z ≤ 60) (htx : tx i = 99) : MV l yX5_takes wsX5_takes ({ frames := 2, cells := 0, slots := 0, locals := 42 }) D k [.ref (h 0), .int (nI i), .int (nI z)] (wMo k h th f asd sl kp sv sm tx (nI ln) dg) (wMo k h th (upd f (0 + q) (nuM tx ln (i + 3) (z - (i + 3)))) asd sl kp sv sm tx (nI ln) dg) := by
  intro sz
  refine Met.ofW (cc := cX5_takes) (maxL := 6) (ret := none) (by decide) rfl ?_
  intro p e s m args below meth c s₁ B hml hv
  obtain ⟨rfl, hN, hsz, hP, hK, hD0⟩ := hv
  have hx := B.exec
  have hb := B.bytes
  have hr := B.returns
  have hts := atoms_spec (ws := wsX5_takes) B.pre
  have hown : s.vm.findClass RX5 = some m.cls := findClass_of_methodNamed B.named
  have hlocks := B.notSynchronized
  subst hsz
  have hD := hD0.self (sz := s.heap.size)
  generalize hAe : va_A (wMo k h th f asd sl kp sv sm tx (nI ln) dg) s.heap.size = A at hD ⊢
  have hA : ∀ q : Nat, s.heap.size ≤ q → A q := fun q h => by rw [← hAe]; exact Or.inr h
  have hS : va_S A s.heap s.heap [] := va_S.rf
  have hl := lv_entry ([.ref (h 0), .int (nI i), .int (nI z)]) (n := 6) (Nat.le_of_ble_eq_true rfl)
  rw [lg_entry_eq]
  generalize (lg_sl ([.ref (h 0), .int (nI i), .int (nI z)]) ++ List.replicate (6 - (lg_sl ([.ref (h 0), .int (nI i), .int (nI z)])).length) Slot.unset).toArray = ls at hl ⊢
  have hl : lv_has ls 6 [(0, .ref (h 0)), (1, .int (nI i)), (2, .int (nI z))] := hl
  obtain ⟨H, hHe⟩ : ∃ H, H = s.heap := ⟨_, rfl⟩
  have hP : va_P D vwCl (wMo k h th f asd sl kp sv sm tx (nI ln) dg) H := by rw [hHe]; exact hP
  have hS : va_S A s.heap H [] := by rw [hHe]; exact hS
  rw [← hHe]
  refine absQ (fun Q hQ => ?_)
  refine lv_aload_n hx hb dX5_takes_0 rfl (lv_at hl 0 rfl) ?_
  refine lv_iload_n hx hb dX5_takes_1 rfl (lv_at hl 1 rfl) ?_
  refine lv_iconst (v := 1) hx hb dX5_takes_2 (by decide) ?_
  refine lv_iadd hx hb dX5_takes_3 ?_
  refine tp_e (y := (nI (i + 1))) (nI_add i 1) ?_
  have hPc : va_P D vwCl (wMo k h th f asd sl kp sv sm tx (nI ln) dg) H := hP.sub [0, 1, 2, 3, 4, 5, 6] rfl
  have hDc : va_D A (wMo k h th f asd sl kp sv sm tx (nI ln) dg) := hD.sub [0, 1, 2, 3, 4, 5, 6] (by decide +kernel) rfl
  refine cl_i0 (va_runV (As := [.int (nI (i + 1))]) (rest := []) ⟨hx, hb, hml, hown, hts⟩ (c_X5_digitAt l D k h th f asd sl kp sv sm tx ln dg (i + 1) hln (by omega) H.size) (cwV 1 hts gX5_takes_X5_digitAt rfl rfl rfl (by decide +kernel) ⟨Nat.le_of_ble_eq_true rfl, Nat.le_of_ble_eq_true rfl⟩) ⟨pr_blind, va_recv hK hP (ci := 5) (q0 := 0) rfl rfl, pr_at hN hPc hK hDc⟩ rfl rfl hl.1 rfl (lv_room (Nat.le_of_ble_eq_true rfl)) dX5_takes_4 ⟨Nat.le_of_ble_eq_true rfl, Nat.le_of_ble_eq_true rfl⟩) hP hD hS hA [0, 1, 2, 3, 4, 5, 6] rfl (fun H locs hP hD hS => ?_)
  clear hPc hDc
  refine tp_e (y := (nI q)) hq1 ?_
  refine lv_istore_n (lv' := [(3, .int (nI q)), (0, .ref (h 0)), (1, .int (nI i)), (2, .int (nI z))]) hx hb dX5_takes_7 rfl hl (by decide) rfl (fun ls hl => ?_)
  refine lv_aload_n hx hb dX5_takes_8 rfl (lv_at hl 1 rfl) ?_
  refine lv_iload_n hx hb dX5_takes_9 rfl (lv_at hl 2 rfl) ?_
  refine lv_iconst (v := 2) hx hb dX5_takes_10 (by decide) ?_
  refine lv_iadd hx hb dX5_takes_11 ?_
  refine tp_e (y := (nI (i + 2))) (nI_add i 2) ?_
  have hPc : va_P D vwCl (wMo k h th f asd sl kp sv sm tx (nI ln) dg) H := hP.sub [0, 1, 2, 3, 4, 5, 6] rfl
  have hDc : va_D A (wMo k h th f asd sl kp sv sm tx (nI ln) dg) := hD.sub [0, 1, 2, 3, 4, 5, 6] (by decide +kernel) rfl
  refine cl_i0 (va_runV (As := [.int (nI (i + 2))]) (rest := []) ⟨hx, hb, hml, hown, hts⟩ (c_X5_digitAt l D k h th f asd sl kp sv sm tx ln dg (i + 2) hln (by omega) H.size) (cwV 1 hts gX5_takes_X5_digitAt rfl rfl rfl (by decide +kernel) ⟨Nat.le_of_ble_eq_true rfl, Nat.le_of_ble_eq_true rfl⟩) ⟨pr_blind, va_recv hK hP (ci := 5) (q0 := 0) rfl rfl, pr_at hN hPc hK hDc⟩ rfl rfl hl.1 rfl (lv_room (Nat.le_of_ble_eq_true rfl)) dX5_takes_12 ⟨Nat.le_of_ble_eq_true rfl, Nat.le_of_ble_eq_true rfl⟩) hP hD hS hA [0, 1, 2, 3, 4, 5, 6] rfl (fun H locs hP hD hS => ?_)
  clear hPc hDc
  refine lv_istore (lv' := [(4, .int (dgM tx ln (i + 2))), (3, .int (nI q)), (0, .ref (h 0)), (1, .int (nI i)), (2, .int (nI z))]) hx hb dX5_takes_15 hl (by decide) rfl (fun ls hl => ?_)
  refine lv_aload_n hx hb dX5_takes_17 rfl (lv_at hl 2 rfl) ?_
  refine va_get (D := D) (ci := 5) (v := .ref (h 6)) (C := RX5) (T := TX5) (N := 10) hx hb hts (fun _ h9 => (List.mem_cons_of_mem _ (List.mem_append_right _ h9))) hown hK hP 0 rfl rfl 7 (by decide) (hts _ (List.mem_of_getElem? (i := 1) rfl)) (fun _ h9 => h9) rfl dX5_takes_18 ?_
  refine lv_iload_n hx hb dX5_takes_21 rfl (lv_at hl 3 rfl) ?_
  refine ar_ld hx hb hK hP 6 rfl i (nI_clamp (by omega)) (vp_in_nI (by omega) (by omega)) dX5_takes_22 ?_
  refine tp_e (y := 99) (htx) ?_
  refine lv_lookup (off := 41) (tgt := 64) hx hb dX5_takes_23 (by decide) (by decide) (by decide) ?_
  refine lv_aload_n hx hb dX5_takes_64 rfl (lv_at hl 2 rfl) ?_
  refine va_get (D := D) (ci := 5) (v := .ref (h 1)) (C := RX5) (T := TX5) (N := 10) hx hb hts (fun _ h9 => (List.mem_cons_of_mem _ (List.mem_append_right _ h9))) hown hK hP 0 rfl rfl 1 (by decide) (hts _ (List.mem_of_getElem? (i := 2) rfl)) (fun _ h9 => h9) rfl dX5_takes_65 ?_
  refine lv_iconst (v := 0) hx hb dX5_takes_68 (by decide) ?_
  refine lv_iload_n hx hb dX5_takes_69 rfl (lv_at hl 1 rfl) ?_
  refine lv_iadd hx hb dX5_takes_70 ?_
  refine tp_e (y := (nI (0 + q))) (nI_add 0 q) ?_
  refine lv_iconst (v := 0) hx hb dX5_takes_71 (by decide) ?_
  refine ar_st hx hb hK hP hD hS 1 rfl (0 + q) (nI_clamp (by omega)) (vp_in_nI (by omega) (by omega)) dX5_takes_72 (wn := [(h 0, .inr (5, [.int th, .ref (h 1), .ref (h 2), .ref (h 3), .ref (h 4), .ref (h 5), .int sm, .ref (h 6), .int (nI ln), .long dg])), (h 1, .inl (k 0, 72, .inl (upd f (0 + q) 0))), (h 2, .inl (k 0, 72, .inl asd)), (h 3, .inl (k 0, 144, .inl sl)), (h 4, .inl (k 1, 2, .inl kp)), (h 5, .inl (k 0, 432, .inl sv)), (h 6, .inl (k 0, 60, .inl tx))]) rfl (fun H locs hP hD hS => ?_)
  refine lv_iload_n hx hb dX5_takes_73 rfl (lv_at hl 3 rfl) ?_
  refine lv_iconst (v := 3) hx hb dX5_takes_74 (by decide) ?_
  refine lv_iadd hx hb dX5_takes_75 ?_
  refine tp_e (y := (nI (i + 3))) (nI_add i 3) ?_
  refine lv_istore (lv' := [(5, .int (nI (i + 3))), (4, .int (dgM tx ln (i + 2))), (3, .int (nI q)), (0, .ref (h 0)), (1, .int (nI i)), (2, .int (nI z))]) hx hb dX5_takes_76 hl (by decide) rfl (fun ls hl => ?_)
  suffices LOOP_j : ∀ (fu_j j : Nat) (g : Nat → Int32), z - j < fu_j → j ≤ z → g = upd f (0 + q) (nuM tx ln (i + 3) (j - (i + 3))) → ((i + 3) ≤ j) → ∀ (H : Heap) (locs : List Loc) (ls : Array Slot), va_P D vwCl ([(h 0, .inr (5, [.int th, .ref (h 1), .ref (h 2), .ref (h 3), .ref (h 4), .ref (h 5), .int sm, .ref (h 6), .int (nI ln), .long dg])), (h 1, .inl (k 0, 72, .inl g)), (h 2, .inl (k 0, 72, .inl asd)), (h 3, .inl (k 0, 144, .inl sl)), (h 4, .inl (k 1, 2, .inl kp)), (h 5, .inl (k 0, 432, .inl sv)), (h 6, .inl (k 0, 60, .inl tx))]) H → va_D A ([(h 0, .inr (5, [.int th, .ref (h 1), .ref (h 2), .ref (h 3), .ref (h 4), .ref (h 5), .int sm, .ref (h 6), .int (nI ln), .long dg])), (h 1, .inl (k 0, 72, .inl g)), (h 2, .inl (k 0, 72, .inl asd)), (h 3, .inl (k 0, 144, .inl sl)), (h 4, .inl (k 1, 2, .inl kp)), (h 5, .inl (k 0, 432, .inl sv)), (h 6, .inl (k 0, 60, .inl tx))]) → va_S A s.heap H locs → lv_has ls 6 [(5, .int (nI j)), (4, .int (dgM tx ln (i + 2))), (3, .int (nI q)), (0, .ref (h 0)), (1, .int (nI i)), (2, .int (nI z))] → W p l e ({ frames := 2, cells := 0, slots := 0, locals := 42 } : Room) s m ([.ref (h 0), .int (nI i), .int (nI z)] : List Value).toArray below meth c H locs 0 0 Q (F0 m 78 ls []) from LOOP_j (z + 1) (i + 3) (upd f (0 + q) 0) (by omega) (by omega) (by rw [Nat.sub_self]; rfl) (by omega) _ _ _ hP hD hS (lv_sub hl [0, 1, 2, 3, 4, 5] rfl)
  clear hP hD hS hl hHe
  intro fu_j
  induction fu_j with
  | zero => intro j g hn_j; omega
  | succ fu_j ih_j =>
    intro j g hn_j hle_j e_g hlo_j H locs ls hP hD hS hl
    refine lv_iload hx hb dX5_takes_78 (lv_at hl 0 rfl) ?_
    refine lv_iload_n hx hb dX5_takes_80 rfl (lv_at hl 5 rfl) ?_
    refine lv_icmp_ge (tgt := 116) hx hb dX5_takes_81 (by decide) (fun c_1 => ?_) (fun c_1 => ?_)
    · have c_1 : z ≤ j := (nI_leI (a := z) (b := j) (by omega) (by omega)).mp c_1
      have hz_j : z = j := by omega
      subst hz_j
      subst e_g
      refine lv_goto (tgt := 202) hx hb dX5_takes_116 (by decide) ?_
      subst hQ
      exact rt_v hx hb hr hlocks hS dX5_takes_202 (hP)
    · have c_1 : ¬ (z ≤ j) := fun h9 => c_1 ((nI_leI (a := z) (b := j) (by omega) (by omega)).mpr h9)
      refine lv_aload_n hx hb dX5_takes_84 rfl (lv_at hl 3 rfl) ?_
      refine va_get (D := D) (ci := 5) (v := .ref (h 1)) (C := RX5) (T := TX5) (N := 10) hx hb hts (fun _ h9 => (List.mem_cons_of_mem _ (List.mem_append_right _ h9))) hown hK hP 0 rfl rfl 1 (by decide) (hts _ (List.mem_of_getElem? (i := 2) rfl)) (fun _ h9 => h9) rfl dX5_takes_85 ?_
      refine lv_iconst (v := 0) hx hb dX5_takes_88 (by decide) ?_
      refine lv_iload_n hx hb dX5_takes_89 rfl (lv_at hl 2 rfl) ?_
      refine lv_iadd hx hb dX5_takes_90 ?_
      refine tp_e (y := (nI (0 + q))) (nI_add 0 q) ?_
      refine lv_bipush (v := 10) hx hb dX5_takes_91 (by decide) ?_
      refine lv_aload_n hx hb dX5_takes_93 rfl (lv_at hl 3 rfl) ?_
      refine va_get (D := D) (ci := 5) (v := .ref (h 1)) (C := RX5) (T := TX5) (N := 10) hx hb hts (fun _ h9 => (List.mem_cons_of_mem _ (List.mem_append_right _ h9))) hown hK hP 0 rfl rfl 1 (by decide) (hts _ (List.mem_of_getElem? (i := 2) rfl)) (fun _ h9 => h9) rfl dX5_takes_94 ?_
      refine lv_iconst (v := 0) hx hb dX5_takes_97 (by decide) ?_
      refine lv_iload_n hx hb dX5_takes_98 rfl (lv_at hl 2 rfl) ?_
      refine lv_iadd hx hb dX5_takes_99 ?_
      refine tp_e (y := (nI (0 + q))) (nI_add 0 q) ?_
      refine ar_ld hx hb hK hP 1 rfl (0 + q) (nI_clamp (by omega)) (vp_in_nI (by omega) (by omega)) dX5_takes_100 ?_
      refine lv_imul hx hb dX5_takes_101 ?_
      refine lv_aload_n hx hb dX5_takes_102 rfl (lv_at hl 3 rfl) ?_
      refine lv_iload hx hb dX5_takes_103 (lv_at hl 0 rfl) ?_
      have hPc : va_P D vwCl (wMo k h th g asd sl kp sv sm tx (nI ln) dg) H := hP.sub [0, 1, 2, 3, 4, 5, 6] rfl
      have hDc : va_D A (wMo k h th g asd sl kp sv sm tx (nI ln) dg) := hD.sub [0, 1, 2, 3, 4, 5, 6] (by decide +kernel) rfl
      refine cl_i0 (va_runV (As := [.int (nI j)]) (rest := [.int (10 * (g (0 + q))), .int (nI (0 + q)), .ref (h 1)]) ⟨hx, hb, hml, hown, hts⟩ (c_X5_digitAt l D k h th g asd sl kp sv sm tx ln dg j hln (by omega) H.size) (cwV 1 hts gX5_takes_X5_digitAt rfl rfl rfl (by decide +kernel) ⟨Nat.le_of_ble_eq_true rfl, Nat.le_of_ble_eq_true rfl⟩) ⟨pr_blind, va_recv hK hP (ci := 5) (q0 := 0) rfl rfl, pr_at hN hPc hK hDc⟩ rfl rfl hl.1 rfl (lv_room (Nat.le_of_ble_eq_true rfl)) dX5_takes_105 ⟨Nat.le_of_ble_eq_true rfl, Nat.le_of_ble_eq_true rfl⟩) hP hD hS hA [0, 1, 2, 3, 4, 5, 6] rfl (fun H locs hP hD hS => ?_)
      clear hPc hDc
      refine lv_iadd hx hb dX5_takes_108 ?_
      refine ar_st hx hb hK hP hD hS 1 rfl (0 + q) (nI_clamp (by omega)) (vp_in_nI (by omega) (by omega)) dX5_takes_109 (wn := [(h 0, .inr (5, [.int th, .ref (h 1), .ref (h 2), .ref (h 3), .ref (h 4), .ref (h 5), .int sm, .ref (h 6), .int (nI ln), .long dg])), (h 1, .inl (k 0, 72, .inl (upd g (0 + q) ((10 * (g (0 + q))) + (dgM tx ln j))))), (h 2, .inl (k 0, 72, .inl asd)), (h 3, .inl (k 0, 144, .inl sl)), (h 4, .inl (k 1, 2, .inl kp)), (h 5, .inl (k 0, 432, .inl sv)), (h 6, .inl (k 0, 60, .inl tx))]) rfl (fun H locs hP hD hS => ?_)
      refine lv_iinc (v := (nI (j + 1))) (lv' := [(5, .int (nI (j + 1))), (4, .int (dgM tx ln (i + 2))), (3, .int (nI q)), (0, .ref (h 0)), (1, .int (nI i)), (2, .int (nI z))]) hx hb dX5_takes_110 hl (k := 0) rfl (nI_1 j) (by decide) rfl (fun ls hl => ?_)
      refine lv_goto (tgt := 78) hx hb dX5_takes_113 (by decide) ?_
      exact ih_j (j + 1) (upd g (0 + q) ((10 * (g (0 + q))) + (dgM tx ln j))) (by omega) (by omega) (by rw [e_g, upd_at, upd_2, show j + 1 - (i + 3) = (j - (i + 3)) + 1 from by omega, nuM, show i + 3 + (j - (i + 3)) = j from by omega]) (by omega) _ _ _ hP hD hS (lv_sub hl [0, 1, 2, 3, 4, 5] rfl)

set_option maxHeartbeats 1000000 in
set_option maxRecDepth 100000 in
theorem c_X5_takes_101 (l : Launch) (D : va_G) (k : Nat → ClassId) (h : Nat → Nat) (th : Int32) (f asd sl kp sv : Nat → Int32) (sm : Int32) (tx : Nat → Int32) (ln : Nat) (dg : Int64) (i q z : Nat) (hln : ln ≤ 60) (hi : i < 60) (hq : q < 9) (hq1 : dgM tx ln (i + 1) = nI q) (htx : tx i = 101) : MV l yX5_takes wsX5_takes ({ frames := 2, cells := 0, slots := 0, locals := 42 }) D k [.ref (h 0), .int (nI i), .int (nI z)] (wMo k h th f asd sl kp sv sm tx (nI ln) dg) (wMo k h th (upd f (18 + q) (f (18 + q) ||| 2)) asd sl kp sv sm tx (nI ln) dg) := by
  intro sz
  refine Met.ofW (cc := cX5_takes) (maxL := 6) (ret := none) (by decide) rfl ?_
  intro p e s m args below meth c s₁ B hml hv
  obtain ⟨rfl, hN, hsz, hP, hK, hD0⟩ := hv
  have hx := B.exec
  have hb := B.bytes
  have hr := B.returns
  have hts := atoms_spec (ws := wsX5_takes) B.pre
  have hown : s.vm.findClass RX5 = some m.cls := findClass_of_methodNamed B.named
  have hlocks := B.notSynchronized
  subst hsz
  have hD := hD0.self (sz := s.heap.size)
  generalize hAe : va_A (wMo k h th f asd sl kp sv sm tx (nI ln) dg) s.heap.size = A at hD ⊢
  have hA : ∀ q : Nat, s.heap.size ≤ q → A q := fun q h => by rw [← hAe]; exact Or.inr h
  have hS : va_S A s.heap s.heap [] := va_S.rf
  have hl := lv_entry ([.ref (h 0), .int (nI i), .int (nI z)]) (n := 6) (Nat.le_of_ble_eq_true rfl)
  rw [lg_entry_eq]
  generalize (lg_sl ([.ref (h 0), .int (nI i), .int (nI z)]) ++ List.replicate (6 - (lg_sl ([.ref (h 0), .int (nI i), .int (nI z)])).length) Slot.unset).toArray = ls at hl ⊢
  have hl : lv_has ls 6 [(0, .ref (h 0)), (1, .int (nI i)), (2, .int (nI z))] := hl
  obtain ⟨H, hHe⟩ : ∃ H, H = s.heap := ⟨_, rfl⟩
  have hP : va_P D vwCl (wMo k h th f asd sl kp sv sm tx (nI ln) dg) H := by rw [hHe]; exact hP
  have hS : va_S A s.heap H [] := by rw [hHe]; exact hS
  rw [← hHe]
  refine absQ (fun Q hQ => ?_)
  refine lv_aload_n hx hb dX5_takes_0 rfl (lv_at hl 0 rfl) ?_
  refine lv_iload_n hx hb dX5_takes_1 rfl (lv_at hl 1 rfl) ?_
  refine lv_iconst (v := 1) hx hb dX5_takes_2 (by decide) ?_
  refine lv_iadd hx hb dX5_takes_3 ?_
  refine tp_e (y := (nI (i + 1))) (nI_add i 1) ?_
  have hPc : va_P D vwCl (wMo k h th f asd sl kp sv sm tx (nI ln) dg) H := hP.sub [0, 1, 2, 3, 4, 5, 6] rfl
  have hDc : va_D A (wMo k h th f asd sl kp sv sm tx (nI ln) dg) := hD.sub [0, 1, 2, 3, 4, 5, 6] (by decide +kernel) rfl
  refine cl_i0 (va_runV (As := [.int (nI (i + 1))]) (rest := []) ⟨hx, hb, hml, hown, hts⟩ (c_X5_digitAt l D k h th f asd sl kp sv sm tx ln dg (i + 1) hln (by omega) H.size) (cwV 1 hts gX5_takes_X5_digitAt rfl rfl rfl (by decide +kernel) ⟨Nat.le_of_ble_eq_true rfl, Nat.le_of_ble_eq_true rfl⟩) ⟨pr_blind, va_recv hK hP (ci := 5) (q0 := 0) rfl rfl, pr_at hN hPc hK hDc⟩ rfl rfl hl.1 rfl (lv_room (Nat.le_of_ble_eq_true rfl)) dX5_takes_4 ⟨Nat.le_of_ble_eq_true rfl, Nat.le_of_ble_eq_true rfl⟩) hP hD hS hA [0, 1, 2, 3, 4, 5, 6] rfl (fun H locs hP hD hS => ?_)
  clear hPc hDc
  refine tp_e (y := (nI q)) hq1 ?_
  refine lv_istore_n (lv' := [(3, .int (nI q)), (0, .ref (h 0)), (1, .int (nI i)), (2, .int (nI z))]) hx hb dX5_takes_7 rfl hl (by decide) rfl (fun ls hl => ?_)
  refine lv_aload_n hx hb dX5_takes_8 rfl (lv_at hl 1 rfl) ?_
  refine lv_iload_n hx hb dX5_takes_9 rfl (lv_at hl 2 rfl) ?_
  refine lv_iconst (v := 2) hx hb dX5_takes_10 (by decide) ?_
  refine lv_iadd hx hb dX5_takes_11 ?_
  refine tp_e (y := (nI (i + 2))) (nI_add i 2) ?_
  have hPc : va_P D vwCl (wMo k h th f asd sl kp sv sm tx (nI ln) dg) H := hP.sub [0, 1, 2, 3, 4, 5, 6] rfl
  have hDc : va_D A (wMo k h th f asd sl kp sv sm tx (nI ln) dg) := hD.sub [0, 1, 2, 3, 4, 5, 6] (by decide +kernel) rfl
  refine cl_i0 (va_runV (As := [.int (nI (i + 2))]) (rest := []) ⟨hx, hb, hml, hown, hts⟩ (c_X5_digitAt l D k h th f asd sl kp sv sm tx ln dg (i + 2) hln (by omega) H.size) (cwV 1 hts gX5_takes_X5_digitAt rfl rfl rfl (by decide +kernel) ⟨Nat.le_of_ble_eq_true rfl, Nat.le_of_ble_eq_true rfl⟩) ⟨pr_blind, va_recv hK hP (ci := 5) (q0 := 0) rfl rfl, pr_at hN hPc hK hDc⟩ rfl rfl hl.1 rfl (lv_room (Nat.le_of_ble_eq_true rfl)) dX5_takes_12 ⟨Nat.le_of_ble_eq_true rfl, Nat.le_of_ble_eq_true rfl⟩) hP hD hS hA [0, 1, 2, 3, 4, 5, 6] rfl (fun H locs hP hD hS => ?_)
  clear hPc hDc
  refine lv_istore (lv' := [(4, .int (dgM tx ln (i + 2))), (3, .int (nI q)), (0, .ref (h 0)), (1, .int (nI i)), (2, .int (nI z))]) hx hb dX5_takes_15 hl (by decide) rfl (fun ls hl => ?_)
  refine lv_aload_n hx hb dX5_takes_17 rfl (lv_at hl 2 rfl) ?_
  refine va_get (D := D) (ci := 5) (v := .ref (h 6)) (C := RX5) (T := TX5) (N := 10) hx hb hts (fun _ h9 => (List.mem_cons_of_mem _ (List.mem_append_right _ h9))) hown hK hP 0 rfl rfl 7 (by decide) (hts _ (List.mem_of_getElem? (i := 1) rfl)) (fun _ h9 => h9) rfl dX5_takes_18 ?_
  refine lv_iload_n hx hb dX5_takes_21 rfl (lv_at hl 3 rfl) ?_
  refine ar_ld hx hb hK hP 6 rfl i (nI_clamp (by omega)) (vp_in_nI (by omega) (by omega)) dX5_takes_22 ?_
  refine tp_e (y := 101) (htx) ?_
  refine lv_lookup (off := 131) (tgt := 154) hx hb dX5_takes_23 (by decide) (by decide) (by decide) ?_
  refine lv_aload_n hx hb dX5_takes_154 rfl (lv_at hl 2 rfl) ?_
  refine va_get (D := D) (ci := 5) (v := .ref (h 1)) (C := RX5) (T := TX5) (N := 10) hx hb hts (fun _ h9 => (List.mem_cons_of_mem _ (List.mem_append_right _ h9))) hown hK hP 0 rfl rfl 1 (by decide) (hts _ (List.mem_of_getElem? (i := 2) rfl)) (fun _ h9 => h9) rfl dX5_takes_155 ?_
  refine lv_bipush (v := 18) hx hb dX5_takes_158 (by decide) ?_
  refine lv_iload_n hx hb dX5_takes_160 rfl (lv_at hl 1 rfl) ?_
  refine lv_iadd hx hb dX5_takes_161 ?_
  refine tp_e (y := (nI (18 + q))) (nI_add 18 q) ?_
  refine lv_dup2_11 hx hb dX5_takes_162 rfl rfl ?_
  refine ar_ld hx hb hK hP 1 rfl (18 + q) (nI_clamp (by omega)) (vp_in_nI (by omega) (by omega)) dX5_takes_163 ?_
  refine lv_iconst (v := 2) hx hb dX5_takes_164 (by decide) ?_
  refine lv_ior hx hb dX5_takes_165 ?_
  refine ar_st hx hb hK hP hD hS 1 rfl (18 + q) (nI_clamp (by omega)) (vp_in_nI (by omega) (by omega)) dX5_takes_166 (wn := [(h 0, .inr (5, [.int th, .ref (h 1), .ref (h 2), .ref (h 3), .ref (h 4), .ref (h 5), .int sm, .ref (h 6), .int (nI ln), .long dg])), (h 1, .inl (k 0, 72, .inl (upd f (18 + q) ((f (18 + q)) ||| 2)))), (h 2, .inl (k 0, 72, .inl asd)), (h 3, .inl (k 0, 144, .inl sl)), (h 4, .inl (k 1, 2, .inl kp)), (h 5, .inl (k 0, 432, .inl sv)), (h 6, .inl (k 0, 60, .inl tx))]) rfl (fun H locs hP hD hS => ?_)
  refine lv_goto (tgt := 202) hx hb dX5_takes_167 (by decide) ?_
  subst hQ
  exact rt_v hx hb hr hlocks hS dX5_takes_202 (hP)

set_option maxHeartbeats 1000000 in
set_option maxRecDepth 100000 in
theorem c_X5_takes_115 (l : Launch) (D : va_G) (k : Nat → ClassId) (h : Nat → Nat) (th : Int32) (f asd sl kp sv : Nat → Int32) (sm : Int32) (tx : Nat → Int32) (ln : Nat) (dg : Int64) (i q z : Nat) (hln : ln ≤ 60) (hi : i < 60) (hq : q < 9) (hq1 : dgM tx ln (i + 1) = nI q) (htx : tx i = 115) : MV l yX5_takes wsX5_takes ({ frames := 2, cells := 0, slots := 0, locals := 42 }) D k [.ref (h 0), .int (nI i), .int (nI z)] (wMo k h th f asd sl kp sv sm tx (nI ln) dg) (wMo k h th (upd f (18 + q) (f (18 + q) ||| 1)) asd sl kp sv sm tx (nI ln) dg) := by
  intro sz
  refine Met.ofW (cc := cX5_takes) (maxL := 6) (ret := none) (by decide) rfl ?_
  intro p e s m args below meth c s₁ B hml hv
  obtain ⟨rfl, hN, hsz, hP, hK, hD0⟩ := hv
  have hx := B.exec
  have hb := B.bytes
  have hr := B.returns
  have hts := atoms_spec (ws := wsX5_takes) B.pre
  have hown : s.vm.findClass RX5 = some m.cls := findClass_of_methodNamed B.named
  have hlocks := B.notSynchronized
  subst hsz
  have hD := hD0.self (sz := s.heap.size)
  generalize hAe : va_A (wMo k h th f asd sl kp sv sm tx (nI ln) dg) s.heap.size = A at hD ⊢
  have hA : ∀ q : Nat, s.heap.size ≤ q → A q := fun q h => by rw [← hAe]; exact Or.inr h
  have hS : va_S A s.heap s.heap [] := va_S.rf
  have hl := lv_entry ([.ref (h 0), .int (nI i), .int (nI z)]) (n := 6) (Nat.le_of_ble_eq_true rfl)
  rw [lg_entry_eq]
  generalize (lg_sl ([.ref (h 0), .int (nI i), .int (nI z)]) ++ List.replicate (6 - (lg_sl ([.ref (h 0), .int (nI i), .int (nI z)])).length) Slot.unset).toArray = ls at hl ⊢
  have hl : lv_has ls 6 [(0, .ref (h 0)), (1, .int (nI i)), (2, .int (nI z))] := hl
  obtain ⟨H, hHe⟩ : ∃ H, H = s.heap := ⟨_, rfl⟩
  have hP : va_P D vwCl (wMo k h th f asd sl kp sv sm tx (nI ln) dg) H := by rw [hHe]; exact hP
  have hS : va_S A s.heap H [] := by rw [hHe]; exact hS
  rw [← hHe]
  refine absQ (fun Q hQ => ?_)
  refine lv_aload_n hx hb dX5_takes_0 rfl (lv_at hl 0 rfl) ?_
  refine lv_iload_n hx hb dX5_takes_1 rfl (lv_at hl 1 rfl) ?_
  refine lv_iconst (v := 1) hx hb dX5_takes_2 (by decide) ?_
  refine lv_iadd hx hb dX5_takes_3 ?_
  refine tp_e (y := (nI (i + 1))) (nI_add i 1) ?_
  have hPc : va_P D vwCl (wMo k h th f asd sl kp sv sm tx (nI ln) dg) H := hP.sub [0, 1, 2, 3, 4, 5, 6] rfl
  have hDc : va_D A (wMo k h th f asd sl kp sv sm tx (nI ln) dg) := hD.sub [0, 1, 2, 3, 4, 5, 6] (by decide +kernel) rfl
  refine cl_i0 (va_runV (As := [.int (nI (i + 1))]) (rest := []) ⟨hx, hb, hml, hown, hts⟩ (c_X5_digitAt l D k h th f asd sl kp sv sm tx ln dg (i + 1) hln (by omega) H.size) (cwV 1 hts gX5_takes_X5_digitAt rfl rfl rfl (by decide +kernel) ⟨Nat.le_of_ble_eq_true rfl, Nat.le_of_ble_eq_true rfl⟩) ⟨pr_blind, va_recv hK hP (ci := 5) (q0 := 0) rfl rfl, pr_at hN hPc hK hDc⟩ rfl rfl hl.1 rfl (lv_room (Nat.le_of_ble_eq_true rfl)) dX5_takes_4 ⟨Nat.le_of_ble_eq_true rfl, Nat.le_of_ble_eq_true rfl⟩) hP hD hS hA [0, 1, 2, 3, 4, 5, 6] rfl (fun H locs hP hD hS => ?_)
  clear hPc hDc
  refine tp_e (y := (nI q)) hq1 ?_
  refine lv_istore_n (lv' := [(3, .int (nI q)), (0, .ref (h 0)), (1, .int (nI i)), (2, .int (nI z))]) hx hb dX5_takes_7 rfl hl (by decide) rfl (fun ls hl => ?_)
  refine lv_aload_n hx hb dX5_takes_8 rfl (lv_at hl 1 rfl) ?_
  refine lv_iload_n hx hb dX5_takes_9 rfl (lv_at hl 2 rfl) ?_
  refine lv_iconst (v := 2) hx hb dX5_takes_10 (by decide) ?_
  refine lv_iadd hx hb dX5_takes_11 ?_
  refine tp_e (y := (nI (i + 2))) (nI_add i 2) ?_
  have hPc : va_P D vwCl (wMo k h th f asd sl kp sv sm tx (nI ln) dg) H := hP.sub [0, 1, 2, 3, 4, 5, 6] rfl
  have hDc : va_D A (wMo k h th f asd sl kp sv sm tx (nI ln) dg) := hD.sub [0, 1, 2, 3, 4, 5, 6] (by decide +kernel) rfl
  refine cl_i0 (va_runV (As := [.int (nI (i + 2))]) (rest := []) ⟨hx, hb, hml, hown, hts⟩ (c_X5_digitAt l D k h th f asd sl kp sv sm tx ln dg (i + 2) hln (by omega) H.size) (cwV 1 hts gX5_takes_X5_digitAt rfl rfl rfl (by decide +kernel) ⟨Nat.le_of_ble_eq_true rfl, Nat.le_of_ble_eq_true rfl⟩) ⟨pr_blind, va_recv hK hP (ci := 5) (q0 := 0) rfl rfl, pr_at hN hPc hK hDc⟩ rfl rfl hl.1 rfl (lv_room (Nat.le_of_ble_eq_true rfl)) dX5_takes_12 ⟨Nat.le_of_ble_eq_true rfl, Nat.le_of_ble_eq_true rfl⟩) hP hD hS hA [0, 1, 2, 3, 4, 5, 6] rfl (fun H locs hP hD hS => ?_)
  clear hPc hDc
  refine lv_istore (lv' := [(4, .int (dgM tx ln (i + 2))), (3, .int (nI q)), (0, .ref (h 0)), (1, .int (nI i)), (2, .int (nI z))]) hx hb dX5_takes_15 hl (by decide) rfl (fun ls hl => ?_)
  refine lv_aload_n hx hb dX5_takes_17 rfl (lv_at hl 2 rfl) ?_
  refine va_get (D := D) (ci := 5) (v := .ref (h 6)) (C := RX5) (T := TX5) (N := 10) hx hb hts (fun _ h9 => (List.mem_cons_of_mem _ (List.mem_append_right _ h9))) hown hK hP 0 rfl rfl 7 (by decide) (hts _ (List.mem_of_getElem? (i := 1) rfl)) (fun _ h9 => h9) rfl dX5_takes_18 ?_
  refine lv_iload_n hx hb dX5_takes_21 rfl (lv_at hl 3 rfl) ?_
  refine ar_ld hx hb hK hP 6 rfl i (nI_clamp (by omega)) (vp_in_nI (by omega) (by omega)) dX5_takes_22 ?_
  refine tp_e (y := 115) (htx) ?_
  refine lv_lookup (off := 115) (tgt := 138) hx hb dX5_takes_23 (by decide) (by decide) (by decide) ?_
  refine lv_aload_n hx hb dX5_takes_138 rfl (lv_at hl 2 rfl) ?_
  refine va_get (D := D) (ci := 5) (v := .ref (h 1)) (C := RX5) (T := TX5) (N := 10) hx hb hts (fun _ h9 => (List.mem_cons_of_mem _ (List.mem_append_right _ h9))) hown hK hP 0 rfl rfl 1 (by decide) (hts _ (List.mem_of_getElem? (i := 2) rfl)) (fun _ h9 => h9) rfl dX5_takes_139 ?_
  refine lv_bipush (v := 18) hx hb dX5_takes_142 (by decide) ?_
  refine lv_iload_n hx hb dX5_takes_144 rfl (lv_at hl 1 rfl) ?_
  refine lv_iadd hx hb dX5_takes_145 ?_
  refine tp_e (y := (nI (18 + q))) (nI_add 18 q) ?_
  refine lv_dup2_11 hx hb dX5_takes_146 rfl rfl ?_
  refine ar_ld hx hb hK hP 1 rfl (18 + q) (nI_clamp (by omega)) (vp_in_nI (by omega) (by omega)) dX5_takes_147 ?_
  refine lv_iconst (v := 1) hx hb dX5_takes_148 (by decide) ?_
  refine lv_ior hx hb dX5_takes_149 ?_
  refine ar_st hx hb hK hP hD hS 1 rfl (18 + q) (nI_clamp (by omega)) (vp_in_nI (by omega) (by omega)) dX5_takes_150 (wn := [(h 0, .inr (5, [.int th, .ref (h 1), .ref (h 2), .ref (h 3), .ref (h 4), .ref (h 5), .int sm, .ref (h 6), .int (nI ln), .long dg])), (h 1, .inl (k 0, 72, .inl (upd f (18 + q) ((f (18 + q)) ||| 1)))), (h 2, .inl (k 0, 72, .inl asd)), (h 3, .inl (k 0, 144, .inl sl)), (h 4, .inl (k 1, 2, .inl kp)), (h 5, .inl (k 0, 432, .inl sv)), (h 6, .inl (k 0, 60, .inl tx))]) rfl (fun H locs hP hD hS => ?_)
  refine lv_goto (tgt := 202) hx hb dX5_takes_151 (by decide) ?_
  subst hQ
  exact rt_v hx hb hr hlocks hS dX5_takes_202 (hP)

set_option maxHeartbeats 1000000 in
set_option maxRecDepth 100000 in
theorem c_X5_takes_106 (l : Launch) (D : va_G) (k : Nat → ClassId) (h : Nat → Nat) (th : Int32) (f asd sl kp sv : Nat → Int32) (sm : Int32) (tx : Nat → Int32) (ln : Nat) (dg : Int64) (i q z : Nat) (hln : ln ≤ 60) (hi : i < 60) (hq : q < 9) (hq1 : dgM tx ln (i + 1) = nI q) (htx : tx i = 106) : MV l yX5_takes wsX5_takes ({ frames := 2, cells := 0, slots := 0, locals := 42 }) D k [.ref (h 0), .int (nI i), .int (nI z)] (wMo k h th f asd sl kp sv sm tx (nI ln) dg) (wMo k h th (upd f (27 + q) (f (27 + q) ||| 1 <<< (dgM tx ln (i + 2) &&& 31))) asd sl kp sv sm tx (nI ln) dg) := by
  intro sz
  refine Met.ofW (cc := cX5_takes) (maxL := 6) (ret := none) (by decide) rfl ?_
  intro p e s m args below meth c s₁ B hml hv
  obtain ⟨rfl, hN, hsz, hP, hK, hD0⟩ := hv
  have hx := B.exec
  have hb := B.bytes
  have hr := B.returns
  have hts := atoms_spec (ws := wsX5_takes) B.pre
  have hown : s.vm.findClass RX5 = some m.cls := findClass_of_methodNamed B.named
  have hlocks := B.notSynchronized
  subst hsz
  have hD := hD0.self (sz := s.heap.size)
  generalize hAe : va_A (wMo k h th f asd sl kp sv sm tx (nI ln) dg) s.heap.size = A at hD ⊢
  have hA : ∀ q : Nat, s.heap.size ≤ q → A q := fun q h => by rw [← hAe]; exact Or.inr h
  have hS : va_S A s.heap s.heap [] := va_S.rf
  have hl := lv_entry ([.ref (h 0), .int (nI i), .int (nI z)]) (n := 6) (Nat.le_of_ble_eq_true rfl)
  rw [lg_entry_eq]
  generalize (lg_sl ([.ref (h 0), .int (nI i), .int (nI z)]) ++ List.replicate (6 - (lg_sl ([.ref (h 0), .int (nI i), .int (nI z)])).length) Slot.unset).toArray = ls at hl ⊢
  have hl : lv_has ls 6 [(0, .ref (h 0)), (1, .int (nI i)), (2, .int (nI z))] := hl
  obtain ⟨H, hHe⟩ : ∃ H, H = s.heap := ⟨_, rfl⟩
  have hP : va_P D vwCl (wMo k h th f asd sl kp sv sm tx (nI ln) dg) H := by rw [hHe]; exact hP
  have hS : va_S A s.heap H [] := by rw [hHe]; exact hS
  rw [← hHe]
  refine absQ (fun Q hQ => ?_)
  refine lv_aload_n hx hb dX5_takes_0 rfl (lv_at hl 0 rfl) ?_
  refine lv_iload_n hx hb dX5_takes_1 rfl (lv_at hl 1 rfl) ?_
  refine lv_iconst (v := 1) hx hb dX5_takes_2 (by decide) ?_
  refine lv_iadd hx hb dX5_takes_3 ?_
  refine tp_e (y := (nI (i + 1))) (nI_add i 1) ?_
  have hPc : va_P D vwCl (wMo k h th f asd sl kp sv sm tx (nI ln) dg) H := hP.sub [0, 1, 2, 3, 4, 5, 6] rfl
  have hDc : va_D A (wMo k h th f asd sl kp sv sm tx (nI ln) dg) := hD.sub [0, 1, 2, 3, 4, 5, 6] (by decide +kernel) rfl
  refine cl_i0 (va_runV (As := [.int (nI (i + 1))]) (rest := []) ⟨hx, hb, hml, hown, hts⟩ (c_X5_digitAt l D k h th f asd sl kp sv sm tx ln dg (i + 1) hln (by omega) H.size) (cwV 1 hts gX5_takes_X5_digitAt rfl rfl rfl (by decide +kernel) ⟨Nat.le_of_ble_eq_true rfl, Nat.le_of_ble_eq_true rfl⟩) ⟨pr_blind, va_recv hK hP (ci := 5) (q0 := 0) rfl rfl, pr_at hN hPc hK hDc⟩ rfl rfl hl.1 rfl (lv_room (Nat.le_of_ble_eq_true rfl)) dX5_takes_4 ⟨Nat.le_of_ble_eq_true rfl, Nat.le_of_ble_eq_true rfl⟩) hP hD hS hA [0, 1, 2, 3, 4, 5, 6] rfl (fun H locs hP hD hS => ?_)
  clear hPc hDc
  refine tp_e (y := (nI q)) hq1 ?_
  refine lv_istore_n (lv' := [(3, .int (nI q)), (0, .ref (h 0)), (1, .int (nI i)), (2, .int (nI z))]) hx hb dX5_takes_7 rfl hl (by decide) rfl (fun ls hl => ?_)
  refine lv_aload_n hx hb dX5_takes_8 rfl (lv_at hl 1 rfl) ?_
  refine lv_iload_n hx hb dX5_takes_9 rfl (lv_at hl 2 rfl) ?_
  refine lv_iconst (v := 2) hx hb dX5_takes_10 (by decide) ?_
  refine lv_iadd hx hb dX5_takes_11 ?_
  refine tp_e (y := (nI (i + 2))) (nI_add i 2) ?_
  have hPc : va_P D vwCl (wMo k h th f asd sl kp sv sm tx (nI ln) dg) H := hP.sub [0, 1, 2, 3, 4, 5, 6] rfl
  have hDc : va_D A (wMo k h th f asd sl kp sv sm tx (nI ln) dg) := hD.sub [0, 1, 2, 3, 4, 5, 6] (by decide +kernel) rfl
  refine cl_i0 (va_runV (As := [.int (nI (i + 2))]) (rest := []) ⟨hx, hb, hml, hown, hts⟩ (c_X5_digitAt l D k h th f asd sl kp sv sm tx ln dg (i + 2) hln (by omega) H.size) (cwV 1 hts gX5_takes_X5_digitAt rfl rfl rfl (by decide +kernel) ⟨Nat.le_of_ble_eq_true rfl, Nat.le_of_ble_eq_true rfl⟩) ⟨pr_blind, va_recv hK hP (ci := 5) (q0 := 0) rfl rfl, pr_at hN hPc hK hDc⟩ rfl rfl hl.1 rfl (lv_room (Nat.le_of_ble_eq_true rfl)) dX5_takes_12 ⟨Nat.le_of_ble_eq_true rfl, Nat.le_of_ble_eq_true rfl⟩) hP hD hS hA [0, 1, 2, 3, 4, 5, 6] rfl (fun H locs hP hD hS => ?_)
  clear hPc hDc
  refine lv_istore (lv' := [(4, .int (dgM tx ln (i + 2))), (3, .int (nI q)), (0, .ref (h 0)), (1, .int (nI i)), (2, .int (nI z))]) hx hb dX5_takes_15 hl (by decide) rfl (fun ls hl => ?_)
  refine lv_aload_n hx hb dX5_takes_17 rfl (lv_at hl 2 rfl) ?_
  refine va_get (D := D) (ci := 5) (v := .ref (h 6)) (C := RX5) (T := TX5) (N := 10) hx hb hts (fun _ h9 => (List.mem_cons_of_mem _ (List.mem_append_right _ h9))) hown hK hP 0 rfl rfl 7 (by decide) (hts _ (List.mem_of_getElem? (i := 1) rfl)) (fun _ h9 => h9) rfl dX5_takes_18 ?_
  refine lv_iload_n hx hb dX5_takes_21 rfl (lv_at hl 3 rfl) ?_
  refine ar_ld hx hb hK hP 6 rfl i (nI_clamp (by omega)) (vp_in_nI (by omega) (by omega)) dX5_takes_22 ?_
  refine tp_e (y := 106) (htx) ?_
  refine lv_lookup (off := 96) (tgt := 119) hx hb dX5_takes_23 (by decide) (by decide) (by decide) ?_
  refine lv_aload_n hx hb dX5_takes_119 rfl (lv_at hl 2 rfl) ?_
  refine va_get (D := D) (ci := 5) (v := .ref (h 1)) (C := RX5) (T := TX5) (N := 10) hx hb hts (fun _ h9 => (List.mem_cons_of_mem _ (List.mem_append_right _ h9))) hown hK hP 0 rfl rfl 1 (by decide) (hts _ (List.mem_of_getElem? (i := 2) rfl)) (fun _ h9 => h9) rfl dX5_takes_120 ?_
  refine lv_bipush (v := 27) hx hb dX5_takes_123 (by decide) ?_
  refine lv_iload_n hx hb dX5_takes_125 rfl (lv_at hl 1 rfl) ?_
  refine lv_iadd hx hb dX5_takes_126 ?_
  refine tp_e (y := (nI (27 + q))) (nI_add 27 q) ?_
  refine lv_dup2_11 hx hb dX5_takes_127 rfl rfl ?_
  refine ar_ld hx hb hK hP 1 rfl (27 + q) (nI_clamp (by omega)) (vp_in_nI (by omega) (by omega)) dX5_takes_128 ?_
  refine lv_iconst (v := 1) hx hb dX5_takes_129 (by decide) ?_
  refine lv_iload hx hb dX5_takes_130 (lv_at hl 0 rfl) ?_
  refine lv_ishl hx hb dX5_takes_132 ?_
  refine lv_ior hx hb dX5_takes_133 ?_
  refine ar_st hx hb hK hP hD hS 1 rfl (27 + q) (nI_clamp (by omega)) (vp_in_nI (by omega) (by omega)) dX5_takes_134 (wn := [(h 0, .inr (5, [.int th, .ref (h 1), .ref (h 2), .ref (h 3), .ref (h 4), .ref (h 5), .int sm, .ref (h 6), .int (nI ln), .long dg])), (h 1, .inl (k 0, 72, .inl (upd f (27 + q) ((f (27 + q)) ||| (1 <<< ((dgM tx ln (i + 2)) &&& 31)))))), (h 2, .inl (k 0, 72, .inl asd)), (h 3, .inl (k 0, 144, .inl sl)), (h 4, .inl (k 1, 2, .inl kp)), (h 5, .inl (k 0, 432, .inl sv)), (h 6, .inl (k 0, 60, .inl tx))]) rfl (fun H locs hP hD hS => ?_)
  refine lv_goto (tgt := 202) hx hb dX5_takes_135 (by decide) ?_
  subst hQ
  exact rt_v hx hb hr hlocks hS dX5_takes_202 (hP)

set_option maxHeartbeats 1000000 in
set_option maxRecDepth 100000 in
theorem c_X5_takes_120 (l : Launch) (D : va_G) (k : Nat → ClassId) (h : Nat → Nat) (th : Int32) (f asd sl kp sv : Nat → Int32) (sm : Int32) (tx : Nat → Int32) (ln : Nat) (dg : Int64) (i q z y : Nat) (hln : ln ≤ 60) (hi : i < 60) (hq : q < 9) (hq1 : dgM tx ln (i + 1) = nI q) (hy : y < 9) (hy1 : dgM tx ln (i + 2) = nI y) (htx : tx i = 120) : MV l yX5_takes wsX5_takes ({ frames := 2, cells := 0, slots := 0, locals := 42 }) D k [.ref (h 0), .int (nI i), .int (nI z)] (wMo k h th f asd sl kp sv sm tx (nI ln) dg) (wMo k h th (upd (upd f (36 + q) (f (36 + q) ||| 1 <<< (nI y &&& 31))) (36 + y) (upd f (36 + q) (f (36 + q) ||| 1 <<< (nI y &&& 31)) (36 + y) ||| 1 <<< (nI q &&& 31))) asd sl kp sv sm tx (nI ln) dg) := by
  intro sz
  refine Met.ofW (cc := cX5_takes) (maxL := 6) (ret := none) (by decide) rfl ?_
  intro p e s m args below meth c s₁ B hml hv
  obtain ⟨rfl, hN, hsz, hP, hK, hD0⟩ := hv
  have hx := B.exec
  have hb := B.bytes
  have hr := B.returns
  have hts := atoms_spec (ws := wsX5_takes) B.pre
  have hown : s.vm.findClass RX5 = some m.cls := findClass_of_methodNamed B.named
  have hlocks := B.notSynchronized
  subst hsz
  have hD := hD0.self (sz := s.heap.size)
  generalize hAe : va_A (wMo k h th f asd sl kp sv sm tx (nI ln) dg) s.heap.size = A at hD ⊢
  have hA : ∀ q : Nat, s.heap.size ≤ q → A q := fun q h => by rw [← hAe]; exact Or.inr h
  have hS : va_S A s.heap s.heap [] := va_S.rf
  have hl := lv_entry ([.ref (h 0), .int (nI i), .int (nI z)]) (n := 6) (Nat.le_of_ble_eq_true rfl)
  rw [lg_entry_eq]
  generalize (lg_sl ([.ref (h 0), .int (nI i), .int (nI z)]) ++ List.replicate (6 - (lg_sl ([.ref (h 0), .int (nI i), .int (nI z)])).length) Slot.unset).toArray = ls at hl ⊢
  have hl : lv_has ls 6 [(0, .ref (h 0)), (1, .int (nI i)), (2, .int (nI z))] := hl
  obtain ⟨H, hHe⟩ : ∃ H, H = s.heap := ⟨_, rfl⟩
  have hP : va_P D vwCl (wMo k h th f asd sl kp sv sm tx (nI ln) dg) H := by rw [hHe]; exact hP
  have hS : va_S A s.heap H [] := by rw [hHe]; exact hS
  rw [← hHe]
  refine absQ (fun Q hQ => ?_)
  refine lv_aload_n hx hb dX5_takes_0 rfl (lv_at hl 0 rfl) ?_
  refine lv_iload_n hx hb dX5_takes_1 rfl (lv_at hl 1 rfl) ?_
  refine lv_iconst (v := 1) hx hb dX5_takes_2 (by decide) ?_
  refine lv_iadd hx hb dX5_takes_3 ?_
  refine tp_e (y := (nI (i + 1))) (nI_add i 1) ?_
  have hPc : va_P D vwCl (wMo k h th f asd sl kp sv sm tx (nI ln) dg) H := hP.sub [0, 1, 2, 3, 4, 5, 6] rfl
  have hDc : va_D A (wMo k h th f asd sl kp sv sm tx (nI ln) dg) := hD.sub [0, 1, 2, 3, 4, 5, 6] (by decide +kernel) rfl
  refine cl_i0 (va_runV (As := [.int (nI (i + 1))]) (rest := []) ⟨hx, hb, hml, hown, hts⟩ (c_X5_digitAt l D k h th f asd sl kp sv sm tx ln dg (i + 1) hln (by omega) H.size) (cwV 1 hts gX5_takes_X5_digitAt rfl rfl rfl (by decide +kernel) ⟨Nat.le_of_ble_eq_true rfl, Nat.le_of_ble_eq_true rfl⟩) ⟨pr_blind, va_recv hK hP (ci := 5) (q0 := 0) rfl rfl, pr_at hN hPc hK hDc⟩ rfl rfl hl.1 rfl (lv_room (Nat.le_of_ble_eq_true rfl)) dX5_takes_4 ⟨Nat.le_of_ble_eq_true rfl, Nat.le_of_ble_eq_true rfl⟩) hP hD hS hA [0, 1, 2, 3, 4, 5, 6] rfl (fun H locs hP hD hS => ?_)
  clear hPc hDc
  refine tp_e (y := (nI q)) hq1 ?_
  refine lv_istore_n (lv' := [(3, .int (nI q)), (0, .ref (h 0)), (1, .int (nI i)), (2, .int (nI z))]) hx hb dX5_takes_7 rfl hl (by decide) rfl (fun ls hl => ?_)
  refine lv_aload_n hx hb dX5_takes_8 rfl (lv_at hl 1 rfl) ?_
  refine lv_iload_n hx hb dX5_takes_9 rfl (lv_at hl 2 rfl) ?_
  refine lv_iconst (v := 2) hx hb dX5_takes_10 (by decide) ?_
  refine lv_iadd hx hb dX5_takes_11 ?_
  refine tp_e (y := (nI (i + 2))) (nI_add i 2) ?_
  have hPc : va_P D vwCl (wMo k h th f asd sl kp sv sm tx (nI ln) dg) H := hP.sub [0, 1, 2, 3, 4, 5, 6] rfl
  have hDc : va_D A (wMo k h th f asd sl kp sv sm tx (nI ln) dg) := hD.sub [0, 1, 2, 3, 4, 5, 6] (by decide +kernel) rfl
  refine cl_i0 (va_runV (As := [.int (nI (i + 2))]) (rest := []) ⟨hx, hb, hml, hown, hts⟩ (c_X5_digitAt l D k h th f asd sl kp sv sm tx ln dg (i + 2) hln (by omega) H.size) (cwV 1 hts gX5_takes_X5_digitAt rfl rfl rfl (by decide +kernel) ⟨Nat.le_of_ble_eq_true rfl, Nat.le_of_ble_eq_true rfl⟩) ⟨pr_blind, va_recv hK hP (ci := 5) (q0 := 0) rfl rfl, pr_at hN hPc hK hDc⟩ rfl rfl hl.1 rfl (lv_room (Nat.le_of_ble_eq_true rfl)) dX5_takes_12 ⟨Nat.le_of_ble_eq_true rfl, Nat.le_of_ble_eq_true rfl⟩) hP hD hS hA [0, 1, 2, 3, 4, 5, 6] rfl (fun H locs hP hD hS => ?_)
  clear hPc hDc
  refine tp_e (y := (nI y)) hy1 ?_
  refine lv_istore (lv' := [(4, .int (nI y)), (3, .int (nI q)), (0, .ref (h 0)), (1, .int (nI i)), (2, .int (nI z))]) hx hb dX5_takes_15 hl (by decide) rfl (fun ls hl => ?_)
  refine lv_aload_n hx hb dX5_takes_17 rfl (lv_at hl 2 rfl) ?_
  refine va_get (D := D) (ci := 5) (v := .ref (h 6)) (C := RX5) (T := TX5) (N := 10) hx hb hts (fun _ h9 => (List.mem_cons_of_mem _ (List.mem_append_right _ h9))) hown hK hP 0 rfl rfl 7 (by decide) (hts _ (List.mem_of_getElem? (i := 1) rfl)) (fun _ h9 => h9) rfl dX5_takes_18 ?_
  refine lv_iload_n hx hb dX5_takes_21 rfl (lv_at hl 3 rfl) ?_
  refine ar_ld hx hb hK hP 6 rfl i (nI_clamp (by omega)) (vp_in_nI (by omega) (by omega)) dX5_takes_22 ?_
  refine tp_e (y := 120) (htx) ?_
  refine lv_lookup (off := 147) (tgt := 170) hx hb dX5_takes_23 (by decide) (by decide) (by decide) ?_
  refine lv_aload_n hx hb dX5_takes_170 rfl (lv_at hl 2 rfl) ?_
  refine va_get (D := D) (ci := 5) (v := .ref (h 1)) (C := RX5) (T := TX5) (N := 10) hx hb hts (fun _ h9 => (List.mem_cons_of_mem _ (List.mem_append_right _ h9))) hown hK hP 0 rfl rfl 1 (by decide) (hts _ (List.mem_of_getElem? (i := 2) rfl)) (fun _ h9 => h9) rfl dX5_takes_171 ?_
  refine lv_bipush (v := 36) hx hb dX5_takes_174 (by decide) ?_
  refine lv_iload_n hx hb dX5_takes_176 rfl (lv_at hl 1 rfl) ?_
  refine lv_iadd hx hb dX5_takes_177 ?_
  refine tp_e (y := (nI (36 + q))) (nI_add 36 q) ?_
  refine lv_dup2_11 hx hb dX5_takes_178 rfl rfl ?_
  refine ar_ld hx hb hK hP 1 rfl (36 + q) (nI_clamp (by omega)) (vp_in_nI (by omega) (by omega)) dX5_takes_179 ?_
  refine lv_iconst (v := 1) hx hb dX5_takes_180 (by decide) ?_
  refine lv_iload hx hb dX5_takes_181 (lv_at hl 0 rfl) ?_
  refine lv_ishl hx hb dX5_takes_183 ?_
  refine lv_ior hx hb dX5_takes_184 ?_
  refine ar_st hx hb hK hP hD hS 1 rfl (36 + q) (nI_clamp (by omega)) (vp_in_nI (by omega) (by omega)) dX5_takes_185 (wn := [(h 0, .inr (5, [.int th, .ref (h 1), .ref (h 2), .ref (h 3), .ref (h 4), .ref (h 5), .int sm, .ref (h 6), .int (nI ln), .long dg])), (h 1, .inl (k 0, 72, .inl (upd f (36 + q) ((f (36 + q)) ||| (1 <<< ((nI y) &&& 31)))))), (h 2, .inl (k 0, 72, .inl asd)), (h 3, .inl (k 0, 144, .inl sl)), (h 4, .inl (k 1, 2, .inl kp)), (h 5, .inl (k 0, 432, .inl sv)), (h 6, .inl (k 0, 60, .inl tx))]) rfl (fun H locs hP hD hS => ?_)
  refine lv_aload_n hx hb dX5_takes_186 rfl (lv_at hl 2 rfl) ?_
  refine va_get (D := D) (ci := 5) (v := .ref (h 1)) (C := RX5) (T := TX5) (N := 10) hx hb hts (fun _ h9 => (List.mem_cons_of_mem _ (List.mem_append_right _ h9))) hown hK hP 0 rfl rfl 1 (by decide) (hts _ (List.mem_of_getElem? (i := 2) rfl)) (fun _ h9 => h9) rfl dX5_takes_187 ?_
  refine lv_bipush (v := 36) hx hb dX5_takes_190 (by decide) ?_
  refine lv_iload hx hb dX5_takes_192 (lv_at hl 0 rfl) ?_
  refine lv_iadd hx hb dX5_takes_194 ?_
  refine tp_e (y := (nI (36 + y))) (nI_add 36 y) ?_
  refine lv_dup2_11 hx hb dX5_takes_195 rfl rfl ?_
  refine ar_ld hx hb hK hP 1 rfl (36 + y) (nI_clamp (by omega)) (vp_in_nI (by omega) (by omega)) dX5_takes_196 ?_
  refine lv_iconst (v := 1) hx hb dX5_takes_197 (by decide) ?_
  refine lv_iload_n hx hb dX5_takes_198 rfl (lv_at hl 1 rfl) ?_
  refine lv_ishl hx hb dX5_takes_199 ?_
  refine lv_ior hx hb dX5_takes_200 ?_
  refine ar_st hx hb hK hP hD hS 1 rfl (36 + y) (nI_clamp (by omega)) (vp_in_nI (by omega) (by omega)) dX5_takes_201 (wn := [(h 0, .inr (5, [.int th, .ref (h 1), .ref (h 2), .ref (h 3), .ref (h 4), .ref (h 5), .int sm, .ref (h 6), .int (nI ln), .long dg])), (h 1, .inl (k 0, 72, .inl (upd (upd f (36 + q) ((f (36 + q)) ||| (1 <<< ((nI y) &&& 31)))) (36 + y) (((upd f (36 + q) ((f (36 + q)) ||| (1 <<< ((nI y) &&& 31)))) (36 + y)) ||| (1 <<< ((nI q) &&& 31)))))), (h 2, .inl (k 0, 72, .inl asd)), (h 3, .inl (k 0, 144, .inl sl)), (h 4, .inl (k 1, 2, .inl kp)), (h 5, .inl (k 0, 432, .inl sv)), (h 6, .inl (k 0, 60, .inl tx))]) rfl (fun H locs hP hD hS => ?_)
  subst hQ
  exact rt_v hx hb hr hlocks hS dX5_takes_202 (hP)
