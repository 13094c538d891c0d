/-- the open sets among the first i are k, and none of them was the one sought: what comes of the rest -/
def oaR (f : Nat → Int32) (rk : Int32) : Nat → Nat → Int32 → Int32
  | 0, _, _ => -1
  | t + 1, i, k => if ioB f (ordF i) = true then (if k = rk then ordF i else oaR f rk t (i + 1) (k + 1)) else oaR f rk t (i + 1) k
theorem oaR_s (f : Nat → Int32) (rk : Int32) {i : Nat} (h : i < 511) (k : Int32) : oaR f rk (511 - i) i k = if ioB f (ordF i) = true then (if k = rk then ordF i else oaR f rk (511 - (i + 1)) (i + 1) (k + 1)) else oaR f rk (511 - (i + 1)) (i + 1) k := by
  rw [show 511 - i = (511 - (i + 1)) + 1 from by omega, oaR]
def moF (f : Nat → Int32) : Nat → Int32 × Int32
  | 0 => (-1, 0)
  | i + 1 => if wyF f (1 <<< (nI i &&& 31)) true 511 ≤ (moF f i).2 then moF f i else (nI i, wyF f (1 <<< (nI i &&& 31)) true 511)
def hyF (f : Nat → Int32) (w : Bool) : Int32 := if hwM f 511 = 0 then -1 else if w = true then hwM f 511 else wmF f (hwM f 511) 9

set_option maxHeartbeats 1000000 in
set_option maxRecDepth 100000 in
theorem c_X5_openAt (l : Launch) (D : va_G) (k : Nat → ClassId) (h : Nat → Nat) (th : Int32) (f asd sl kp sv : Nat → Int32) (sm : Int32) (tx : Nat → Int32) (ln : Int32) (dg : Int64) (rk : Int32)  : MI l yX5_openAt wsX5_openAt ({ frames := 2, cells := 0, slots := 0, locals := 47 }) D k [.ref (h 0), .int rk] (wMo k h th f asd sl kp sv sm tx ln dg) (oaR f rk 511 0 0) (wMo k h th f asd sl kp sv sm tx ln dg) := by
  intro sz
  refine Met.ofW (cc := cX5_openAt) (maxL := 4) (ret := (some .int)) (by decide) rfl ?_
  intro p e s m args below meth c s₁ B hml hv
  obtain ⟨rfl, hN, hsz, hP, hK, hD0⟩ := hv
  have hx := B.exec
  have hb := B.bytes
  have hr := B.returns
  have hts := atoms_spec (ws := wsX5_openAt) B.pre
  have hown : s.vm.findClass RX5 = some m.cls := findClass_of_methodNamed B.named
  have hlocks := B.notSynchronized
  subst hsz
  have hD := hD0.self (sz := s.heap.size)
  generalize hAe : va_A (wMo k h th f asd sl kp sv sm tx ln dg) s.heap.size = A at hD ⊢
  have hA : ∀ q : Nat, s.heap.size ≤ q → A q := fun q h => by rw [← hAe]; exact Or.inr h
  have hS : va_S A s.heap s.heap [] := va_S.rf
  have hl := lv_entry ([.ref (h 0), .int rk]) (n := 4) (Nat.le_of_ble_eq_true rfl)
  rw [lg_entry_eq]
  generalize (lg_sl ([.ref (h 0), .int rk]) ++ List.replicate (4 - (lg_sl ([.ref (h 0), .int rk])).length) Slot.unset).toArray = ls at hl ⊢
  have hl : lv_has ls 4 [(0, .ref (h 0)), (1, .int rk)] := hl
  obtain ⟨H, hHe⟩ : ∃ H, H = s.heap := ⟨_, rfl⟩
  have hP : va_P D vwCl (wMo k h th f asd sl kp sv sm tx ln dg) H := by rw [hHe]; exact hP
  have hS : va_S A s.heap H [] := by rw [hHe]; exact hS
  rw [← hHe]
  refine absQ (fun Q hQ => ?_)
  refine lv_iconst (v := 0) hx hb dX5_openAt_0 (by decide) ?_
  refine lv_istore_n (lv' := [(2, .int 0), (0, .ref (h 0)), (1, .int rk)]) hx hb dX5_openAt_1 rfl hl (by decide) rfl (fun ls hl => ?_)
  refine lv_iconst (v := 1) hx hb dX5_openAt_2 (by decide) ?_
  refine lv_istore_n (lv' := [(3, .int 1), (2, .int 0), (0, .ref (h 0)), (1, .int rk)]) hx hb dX5_openAt_3 rfl hl (by decide) rfl (fun ls hl => ?_)
  suffices LOOP_i : ∀ (fu_i i : Nat) (u : Int32) (w : Int32), 511 - i < fu_i → i ≤ 511 → u = ordF i → (oaR f rk (511 - i) i w = oaR f rk 511 0 0) → ∀ (H : Heap) (locs : List Loc) (ls : Array Slot), va_P D vwCl (wMo k h th f asd sl kp sv sm tx ln dg) H → va_D A (wMo k h th f asd sl kp sv sm tx ln dg) → va_S A s.heap H locs → lv_has ls 4 [(3, .int u), (2, .int w), (0, .ref (h 0)), (1, .int rk)] → W p l e ({ frames := 2, cells := 0, slots := 0, locals := 47 } : Room) s m ([.ref (h 0), .int rk] : List Value).toArray below meth c H locs 0 0 Q (F0 m 4 ls []) from LOOP_i (511 + 1) 0 1 0 (by omega) (by omega) (rfl) (rfl) _ _ _ hP hD hS (lv_sub hl [0, 1, 2, 3] rfl)
  clear hP hD hS hl hHe
  intro fu_i
  induction fu_i with
  | zero => intro i u w hn_i; omega
  | succ fu_i ih_i =>
    intro i u w hn_i hle_i e_u hv H locs ls hP hD hS hl
    refine lv_iload_n hx hb dX5_openAt_4 rfl (lv_at hl 0 rfl) ?_
    refine lv_if_le (tgt := 34) hx hb dX5_openAt_5 (by decide) (fun c_1 => ?_) (fun c_1 => ?_)
    · have h9 := ord_le hle_i e_u c_1
      have hz_i : 511 = i := h9.symm
      subst hz_i
      refine lv_iconst (v := (-1)) hx hb dX5_openAt_34 (by decide) ?_
      subst hQ
      exact rt_i hx hb hr hlocks hS dX5_openAt_35 (hP) (hv)
    · have hi5 := ord_lt hle_i e_u c_1
      refine lv_aload_n hx hb dX5_openAt_8 rfl (lv_at hl 2 rfl) ?_
      refine lv_iload_n hx hb dX5_openAt_9 rfl (lv_at hl 0 rfl) ?_
      have hPc : va_P D vwCl (wMo k h th f asd sl kp sv sm tx ln dg) H := hP.sub [0, 1, 2, 3, 4, 5, 6] rfl
      have hDc : va_D A (wMo k h th f asd sl kp sv sm tx ln dg) := hD.sub [0, 1, 2, 3, 4, 5, 6] (by decide +kernel) rfl
      refine cl_i0 (va_runV (As := [.int u]) (rest := []) ⟨hx, hb, hml, hown, hts⟩ (c_X5_isOpen l D k h th f asd sl kp sv sm tx ln dg u H.size) (cwV 1 hts gX5_openAt_X5_isOpen rfl rfl rfl (by decide +kernel) ⟨Nat.le_of_ble_eq_true rfl, Nat.le_of_ble_eq_true rfl⟩) ⟨pr_blind, va_recv hK hP (ci := 5) (q0 := 0) rfl rfl, pr_at hN hPc hK hDc⟩ rfl rfl hl.1 rfl (lv_room (Nat.le_of_ble_eq_true rfl)) dX5_openAt_10 ⟨Nat.le_of_ble_eq_true rfl, Nat.le_of_ble_eq_true rfl⟩) hP hD hS hA [0, 1, 2, 3, 4, 5, 6] rfl (fun H locs hP hD hS => ?_)
      clear hPc hDc
      refine lv_if_eq (tgt := 26) hx hb dX5_openAt_13 (by decide) (fun c_2 => ?_) (fun c_2 => ?_)
      · have c_2 := bI_eq.mp c_2
        refine lv_iload_n hx hb dX5_openAt_26 rfl (lv_at hl 0 rfl) ?_
        have hPc : va_P D vwCl ([]) H := hP.sub [] rfl
        have hDc : va_D A ([]) := hD.sub [] (by decide +kernel) rfl
        refine cl_i0 (va_runS (As := [.int u]) (rest := []) ⟨hx, hb, hml, hown, hts⟩ (c_X5_next l D k u H.size) (va_cwS 1 hts gX5_openAt_X5_next rfl rfl rfl (by decide +kernel) ⟨Nat.le_of_ble_eq_true rfl, Nat.le_of_ble_eq_true rfl⟩) ⟨pr_blind, pr_at hN hPc hK hDc⟩ rfl rfl hl.1 rfl (lv_room (Nat.le_of_ble_eq_true rfl)) dX5_openAt_27 ⟨Nat.le_of_ble_eq_true rfl, Nat.le_of_ble_eq_true rfl⟩) hP hD hS hA [] rfl (fun H locs hP hD hS => ?_)
        clear hPc hDc
        refine lv_istore_n (lv' := [(3, .int (nxF u)), (2, .int w), (0, .ref (h 0)), (1, .int rk)]) hx hb dX5_openAt_30 rfl hl (by decide) rfl (fun ls hl => ?_)
        refine lv_goto (tgt := 4) hx hb dX5_openAt_31 (by decide) ?_
        exact ih_i (i + 1) (nxF u) w (by omega) (by omega) (by rw [ordF, ← e_u]) (by have h9 := hv; rw [oaR_s _ _ hi5, ← e_u, if_neg (by rw [c_2]; decide)] at h9; exact h9) _ _ _ hP hD hS (lv_sub hl [0, 1, 2, 3] rfl)
      · have c_2 := bI_ne.mp c_2
        refine lv_iload_n hx hb dX5_openAt_16 rfl (lv_at hl 1 rfl) ?_
        refine lv_iload_n hx hb dX5_openAt_17 rfl (lv_at hl 3 rfl) ?_
        refine lv_icmp_ne (tgt := 23) hx hb dX5_openAt_18 (by decide) (fun c_3 => ?_) (fun c_3 => ?_)
        · refine lv_iinc (v := w + 1) (lv' := [(2, .int (w + 1)), (3, .int u), (0, .ref (h 0)), (1, .int rk)]) hx hb dX5_openAt_23 hl (k := 1) rfl rfl (by decide) rfl (fun ls hl => ?_)
          refine lv_iload_n hx hb dX5_openAt_26 rfl (lv_at hl 1 rfl) ?_
          have hPc : va_P D vwCl ([]) H := hP.sub [] rfl
          have hDc : va_D A ([]) := hD.sub [] (by decide +kernel) rfl
          refine cl_i0 (va_runS (As := [.int u]) (rest := []) ⟨hx, hb, hml, hown, hts⟩ (c_X5_next l D k u H.size) (va_cwS 1 hts gX5_openAt_X5_next rfl rfl rfl (by decide +kernel) ⟨Nat.le_of_ble_eq_true rfl, Nat.le_of_ble_eq_true rfl⟩) ⟨pr_blind, pr_at hN hPc hK hDc⟩ rfl rfl hl.1 rfl (lv_room (Nat.le_of_ble_eq_true rfl)) dX5_openAt_27 ⟨Nat.le_of_ble_eq_true rfl, Nat.le_of_ble_eq_true rfl⟩) hP hD hS hA [] rfl (fun H locs hP hD hS => ?_)
          clear hPc hDc
          refine lv_istore_n (lv' := [(3, .int (nxF u)), (2, .int (w + 1)), (0, .ref (h 0)), (1, .int rk)]) hx hb dX5_openAt_30 rfl hl (by decide) rfl (fun ls hl => ?_)
          refine lv_goto (tgt := 4) hx hb dX5_openAt_31 (by decide) ?_
          exact ih_i (i + 1) (nxF u) (w + 1) (by omega) (by omega) (by rw [ordF, ← e_u]) (by have h9 := hv; rw [oaR_s _ _ hi5, ← e_u, if_pos c_2, if_neg c_3] at h9; exact h9) _ _ _ hP hD hS (lv_sub hl [0, 1, 2, 3] rfl)
        · refine lv_iload_n hx hb dX5_openAt_21 rfl (lv_at hl 0 rfl) ?_
          subst hQ
          exact rt_i hx hb hr hlocks hS dX5_openAt_22 (hP) (by have h9 := hv; rw [oaR_s _ _ hi5, ← e_u, if_pos c_2, if_pos c_3] at h9; exact h9)

set_option maxHeartbeats 1000000 in
set_option maxRecDepth 100000 in
theorem c_X5_mainOne (l : Launch) (D : va_G) (k : Nat → ClassId) (h : Nat → Nat) (th : Int32) (f asd sl kp sv : Nat → Int32) (sm : Int32) (tx : Nat → Int32) (ln : Int32) (dg : Int64)  : MI l yX5_mainOne wsX5_mainOne ({ frames := 3, cells := 0, slots := 0, locals := 71 }) D k [.ref (h 0)] (wMo k h th f asd sl kp sv sm tx ln dg) ((moF f 9).1) (wMo k h th f asd sl kp sv sm tx ln dg) := by
  intro sz
  refine Met.ofW (cc := cX5_mainOne) (maxL := 5) (ret := (some .int)) (by decide) rfl ?_
  intro p e s m args below meth c s₁ B hml hv
  obtain ⟨rfl, hN, hsz, hP, hK, hD0⟩ := hv
  have hx := B.exec
  have hb := B.bytes
  have hr := B.returns
  have hts := atoms_spec (ws := wsX5_mainOne) B.pre
  have hown : s.vm.findClass RX5 = some m.cls := findClass_of_methodNamed B.named
  have hlocks := B.notSynchronized
  subst hsz
  have hD := hD0.self (sz := s.heap.size)
  generalize hAe : va_A (wMo k h th f asd sl kp sv sm tx ln dg) s.heap.size = A at hD ⊢
  have hA : ∀ q : Nat, s.heap.size ≤ q → A q := fun q h => by rw [← hAe]; exact Or.inr h
  have hS : va_S A s.heap s.heap [] := va_S.rf
  have hl := lv_entry ([.ref (h 0)]) (n := 5) (Nat.le_of_ble_eq_true rfl)
  rw [lg_entry_eq]
  generalize (lg_sl ([.ref (h 0)]) ++ List.replicate (5 - (lg_sl ([.ref (h 0)])).length) Slot.unset).toArray = ls at hl ⊢
  have hl : lv_has ls 5 [(0, .ref (h 0))] := hl
  obtain ⟨H, hHe⟩ : ∃ H, H = s.heap := ⟨_, rfl⟩
  have hP : va_P D vwCl (wMo k h th f asd sl kp sv sm tx ln dg) H := by rw [hHe]; exact hP
  have hS : va_S A s.heap H [] := by rw [hHe]; exact hS
  rw [← hHe]
  refine absQ (fun Q hQ => ?_)
  refine lv_iconst (v := (-1)) hx hb dX5_mainOne_0 (by decide) ?_
  refine lv_istore_n (lv' := [(1, .int (-1)), (0, .ref (h 0))]) hx hb dX5_mainOne_1 rfl hl (by decide) rfl (fun ls hl => ?_)
  refine lv_iconst (v := 0) hx hb dX5_mainOne_2 (by decide) ?_
  refine lv_istore_n (lv' := [(2, .int 0), (1, .int (-1)), (0, .ref (h 0))]) hx hb dX5_mainOne_3 rfl hl (by decide) rfl (fun ls hl => ?_)
  refine lv_iconst (v := 0) hx hb dX5_mainOne_4 (by decide) ?_
  refine lv_istore_n (lv' := [(3, .int 0), (2, .int 0), (1, .int (-1)), (0, .ref (h 0))]) hx hb dX5_mainOne_5 rfl hl (by decide) rfl (fun ls hl => ?_)
  suffices LOOP_i : ∀ (fu_i i : Nat) (y1 : Int32) (y2 : Int32), 9 - i < fu_i → i ≤ 9 → y1 = (moF f i).1 → y2 = (moF f i).2 → ∀ (H : Heap) (locs : List Loc) (ls : Array Slot), va_P D vwCl (wMo k h th f asd sl kp sv sm tx ln dg) H → va_D A (wMo k h th f asd sl kp sv sm tx ln dg) → va_S A s.heap H locs → lv_has ls 5 [(3, .int (nI i)), (2, .int y2), (1, .int y1), (0, .ref (h 0))] → W p l e ({ frames := 3, cells := 0, slots := 0, locals := 71 } : Room) s m ([.ref (h 0)] : List Value).toArray below meth c H locs 0 0 Q (F0 m 6 ls []) from LOOP_i (9 + 1) 0 (-1) 0 (by omega) (by omega) (rfl) (rfl)  _ _ _ hP hD hS (lv_sub hl [0, 1, 2, 3] rfl)
  clear hP hD hS hl hHe
  intro fu_i
  induction fu_i with
  | zero => intro i y1 y2 hn_i; omega
  | succ fu_i ih_i =>
    intro i y1 y2 hn_i hle_i e_y1 e_y2  H locs ls hP hD hS hl
    refine lv_iload_n hx hb dX5_mainOne_6 rfl (lv_at hl 0 rfl) ?_
    refine lv_bipush (v := 9) hx hb dX5_mainOne_7 (by decide) ?_
    refine lv_icmp_ge (tgt := 53) hx hb dX5_mainOne_9 (by decide) (fun c_1 => ?_) (fun c_1 => ?_)
    · have c_1 : 9 ≤ i := (nI_leI (a := 9) (b := i) (by omega) (by omega)).mp c_1
      have hz_i : 9 = i := by omega
      subst hz_i
      refine lv_iload_n hx hb dX5_mainOne_53 rfl (lv_at hl 2 rfl) ?_
      subst hQ
      exact rt_i hx hb hr hlocks hS dX5_mainOne_54 (hP) (e_y1)
    · have c_1 : ¬ (9 ≤ i) := fun h9 => c_1 ((nI_leI (a := 9) (b := i) (by omega) (by omega)).mpr h9)
      refine lv_aload_n hx hb dX5_mainOne_12 rfl (lv_at hl 3 rfl) ?_
      refine lv_iconst (v := 1) hx hb dX5_mainOne_13 (by decide) ?_
      refine lv_iload_n hx hb dX5_mainOne_14 rfl (lv_at hl 0 rfl) ?_
      refine lv_ishl hx hb dX5_mainOne_15 ?_
      refine lv_iconst (v := 1) hx hb dX5_mainOne_16 (by decide) ?_
      have hPc : va_P D vwCl (wMo k h th f asd sl kp sv sm tx ln dg) H := hP.sub [0, 1, 2, 3, 4, 5, 6] rfl
      have hDc : va_D A (wMo k h th f asd sl kp sv sm tx ln dg) := hD.sub [0, 1, 2, 3, 4, 5, 6] (by decide +kernel) rfl
      refine cl_i0 (va_runV (As := [.int (1 <<< ((nI i) &&& 31)), .int 1]) (rest := []) ⟨hx, hb, hml, hown, hts⟩ (c_X5_ways l D k h th f asd sl kp sv sm tx ln dg (1 <<< ((nI i) &&& 31)) true H.size) (cwV 2 hts gX5_mainOne_X5_ways rfl rfl rfl (by decide +kernel) ⟨Nat.le_of_ble_eq_true rfl, Nat.le_of_ble_eq_true rfl⟩) ⟨pr_blind, va_recv hK hP (ci := 5) (q0 := 0) rfl rfl, pr_at hN hPc hK hDc⟩ rfl rfl hl.1 rfl (lv_room (Nat.le_of_ble_eq_true rfl)) dX5_mainOne_17 ⟨Nat.le_of_ble_eq_true rfl, Nat.le_of_ble_eq_true rfl⟩) hP hD hS hA [0, 1, 2, 3, 4, 5, 6] rfl (fun H locs hP hD hS => ?_)
      clear hPc hDc
      refine lv_istore (lv' := [(4, .int (wyF f (1 <<< ((nI i) &&& 31)) true 511)), (3, .int (nI i)), (2, .int y2), (1, .int y1), (0, .ref (h 0))]) hx hb dX5_mainOne_20 hl (by decide) rfl (fun ls hl => ?_)
      refine lv_iload hx hb dX5_mainOne_22 (lv_at hl 0 rfl) ?_
      refine lv_iload_n hx hb dX5_mainOne_24 rfl (lv_at hl 2 rfl) ?_
      refine lv_icmp_le (tgt := 32) hx hb dX5_mainOne_25 (by decide) (fun c_2 => ?_) (fun c_2 => ?_)
      · refine lv_iload_n hx hb dX5_mainOne_32 rfl (lv_at hl 3 rfl) ?_
        refine lv_istore_n (lv' := [(1, .int y1), (4, .int (wyF f (1 <<< ((nI i) &&& 31)) true 511)), (3, .int (nI i)), (2, .int y2), (0, .ref (h 0))]) hx hb dX5_mainOne_33 rfl hl (by decide) rfl (fun ls hl => ?_)
        refine lv_iload hx hb dX5_mainOne_34 (lv_at hl 1 rfl) ?_
        refine lv_iload_n hx hb dX5_mainOne_36 rfl (lv_at hl 3 rfl) ?_
        refine lv_icmp_le (tgt := 45) hx hb dX5_mainOne_37 (by decide) (fun c_3 => ?_) (fun c_3 => ?_)
        · refine lv_iload_n hx hb dX5_mainOne_45 rfl (lv_at hl 3 rfl) ?_
          refine lv_istore_n (lv' := [(2, .int y2), (1, .int y1), (4, .int (wyF f (1 <<< ((nI i) &&& 31)) true 511)), (3, .int (nI i)), (0, .ref (h 0))]) hx hb dX5_mainOne_46 rfl hl (by decide) rfl (fun ls hl => ?_)
          refine lv_iinc (v := (nI (i + 1))) (lv' := [(3, .int (nI (i + 1))), (2, .int y2), (1, .int y1), (4, .int (wyF f (1 <<< ((nI i) &&& 31)) true 511)), (0, .ref (h 0))]) hx hb dX5_mainOne_47 hl (k := 3) rfl (nI_1 i) (by decide) rfl (fun ls hl => ?_)
          refine lv_goto (tgt := 6) hx hb dX5_mainOne_50 (by decide) ?_
          exact ih_i (i + 1) y1 y2 (by omega) (by omega) (by rw [moF, if_pos (by rw [← e_y2]; exact c_2)]; exact e_y1) (by rw [moF, if_pos (by rw [← e_y2]; exact c_2)]; exact e_y2)  _ _ _ hP hD hS (lv_sub hl [0, 1, 2, 4] rfl)
        · exact absurd c_2 c_3
      · refine lv_iload_n hx hb dX5_mainOne_28 rfl (lv_at hl 1 rfl) ?_
        refine lv_goto (tgt := 33) hx hb dX5_mainOne_29 (by decide) ?_
        refine lv_istore_n (lv' := [(1, .int (nI i)), (4, .int (wyF f (1 <<< ((nI i) &&& 31)) true 511)), (3, .int (nI i)), (2, .int y2), (0, .ref (h 0))]) hx hb dX5_mainOne_33 rfl hl (by decide) rfl (fun ls hl => ?_)
        refine lv_iload hx hb dX5_mainOne_34 (lv_at hl 1 rfl) ?_
        refine lv_iload_n hx hb dX5_mainOne_36 rfl (lv_at hl 3 rfl) ?_
        refine lv_icmp_le (tgt := 45) hx hb dX5_mainOne_37 (by decide) (fun c_4 => ?_) (fun c_4 => ?_)
        · exact absurd c_4 c_2
        · refine lv_iload hx hb dX5_mainOne_40 (lv_at hl 1 rfl) ?_
          refine lv_goto (tgt := 46) hx hb dX5_mainOne_42 (by decide) ?_
          refine lv_istore_n (lv' := [(2, .int (wyF f (1 <<< ((nI i) &&& 31)) true 511)), (1, .int (nI i)), (4, .int (wyF f (1 <<< ((nI i) &&& 31)) true 511)), (3, .int (nI i)), (0, .ref (h 0))]) hx hb dX5_mainOne_46 rfl hl (by decide) rfl (fun ls hl => ?_)
          refine lv_iinc (v := (nI (i + 1))) (lv' := [(3, .int (nI (i + 1))), (2, .int (wyF f (1 <<< ((nI i) &&& 31)) true 511)), (1, .int (nI i)), (4, .int (wyF f (1 <<< ((nI i) &&& 31)) true 511)), (0, .ref (h 0))]) hx hb dX5_mainOne_47 hl (k := 3) rfl (nI_1 i) (by decide) rfl (fun ls hl => ?_)
          refine lv_goto (tgt := 6) hx hb dX5_mainOne_50 (by decide) ?_
          exact ih_i (i + 1) (nI i) (wyF f (1 <<< ((nI i) &&& 31)) true 511) (by omega) (by omega) (by rw [moF, if_neg (by rw [← e_y2]; exact c_2)]) (by rw [moF, if_neg (by rw [← e_y2]; exact c_2)])  _ _ _ hP hD hS (lv_sub hl [0, 1, 2, 4] rfl)

set_option maxHeartbeats 1000000 in
set_option maxRecDepth 100000 in
theorem c_X5_heavy_0 (l : Launch) (D : va_G) (k : Nat → ClassId) (h : Nat → Nat) (th : Int32) (f asd sl kp sv : Nat → Int32) (sm : Int32) (tx : Nat → Int32) (ln : Int32) (dg : Int64)  : MI l yX5_heavy wsX5_heavy ({ frames := 3, cells := 0, slots := 0, locals := 69 }) D k [.ref (h 0), .int 0] (wMo k h th f asd sl kp sv sm tx ln dg) (hyF f false) (wMo k h th f asd sl kp sv sm tx ln dg) := by
  intro sz
  refine Met.ofW (cc := cX5_heavy) (maxL := 3) (ret := (some .int)) (by decide) rfl ?_
  intro p e s m args below meth c s₁ B hml hv
  obtain ⟨rfl, hN, hsz, hP, hK, hD0⟩ := hv
  have hx := B.exec
  have hb := B.bytes
  have hr := B.returns
  have hts := atoms_spec (ws := wsX5_heavy) B.pre
  have hown : s.vm.findClass RX5 = some m.cls := findClass_of_methodNamed B.named
  have hlocks := B.notSynchronized
  subst hsz
  have hD := hD0.self (sz := s.heap.size)
  generalize hAe : va_A (wMo k h th f asd sl kp sv sm tx ln dg) s.heap.size = A at hD ⊢
  have hA : ∀ q : Nat, s.heap.size ≤ q → A q := fun q h => by rw [← hAe]; exact Or.inr h
  have hS : va_S A s.heap s.heap [] := va_S.rf
  have hl := lv_entry ([.ref (h 0), .int 0]) (n := 3) (Nat.le_of_ble_eq_true rfl)
  rw [lg_entry_eq]
  generalize (lg_sl ([.ref (h 0), .int 0]) ++ List.replicate (3 - (lg_sl ([.ref (h 0), .int 0])).length) Slot.unset).toArray = ls at hl ⊢
  have hl : lv_has ls 3 [(0, .ref (h 0)), (1, .int 0)] := hl
  obtain ⟨H, hHe⟩ : ∃ H, H = s.heap := ⟨_, rfl⟩
  have hP : va_P D vwCl (wMo k h th f asd sl kp sv sm tx ln dg) H := by rw [hHe]; exact hP
  have hS : va_S A s.heap H [] := by rw [hHe]; exact hS
  rw [← hHe]
  refine absQ (fun Q hQ => ?_)
  refine lv_aload_n hx hb dX5_heavy_0 rfl (lv_at hl 0 rfl) ?_
  have hPc : va_P D vwCl (wMo k h th f asd sl kp sv sm tx ln dg) H := hP.sub [0, 1, 2, 3, 4, 5, 6] rfl
  have hDc : va_D A (wMo k h th f asd sl kp sv sm tx ln dg) := hD.sub [0, 1, 2, 3, 4, 5, 6] (by decide +kernel) rfl
  refine cl_i0 (va_runV (As := []) (rest := []) ⟨hx, hb, hml, hown, hts⟩ (c_X5_heaviestWay l D k h th f asd sl kp sv sm tx ln dg  H.size) (cwV 0 hts gX5_heavy_X5_heaviestWay rfl rfl rfl (by decide +kernel) ⟨Nat.le_of_ble_eq_true rfl, Nat.le_of_ble_eq_true rfl⟩) ⟨pr_blind, va_recv hK hP (ci := 5) (q0 := 0) rfl rfl, pr_at hN hPc hK hDc⟩ rfl rfl hl.1 rfl (lv_room (Nat.le_of_ble_eq_true rfl)) dX5_heavy_1 ⟨Nat.le_of_ble_eq_true rfl, Nat.le_of_ble_eq_true rfl⟩) hP hD hS hA [0, 1, 2, 3, 4, 5, 6] rfl (fun H locs hP hD hS => ?_)
  clear hPc hDc
  refine lv_istore_n (lv' := [(2, .int (hwM f 511)), (0, .ref (h 0)), (1, .int 0)]) hx hb dX5_heavy_4 rfl hl (by decide) rfl (fun ls hl => ?_)
  refine lv_iload_n hx hb dX5_heavy_5 rfl (lv_at hl 0 rfl) ?_
  refine lv_if_ne (tgt := 13) hx hb dX5_heavy_6 (by decide) (fun c_1 => ?_) (fun c_1 => ?_)
  · refine lv_iload_n hx hb dX5_heavy_13 rfl (lv_at hl 2 rfl) ?_
    refine lv_if_ne (tgt := 25) hx hb dX5_heavy_14 (by decide) (fun c_2 => ?_) (fun c_2 => ?_)
    · exact absurd c_2 (by decide)
    · refine lv_aload_n hx hb dX5_heavy_17 rfl (lv_at hl 1 rfl) ?_
      refine lv_iload_n hx hb dX5_heavy_18 rfl (lv_at hl 0 rfl) ?_
      have hPc : va_P D vwCl (wMo k h th f asd sl kp sv sm tx ln dg) H := hP.sub [0, 1, 2, 3, 4, 5, 6] rfl
      have hDc : va_D A (wMo k h th f asd sl kp sv sm tx ln dg) := hD.sub [0, 1, 2, 3, 4, 5, 6] (by decide +kernel) rfl
      refine cl_i0 (va_runV (As := [.int (hwM f 511)]) (rest := []) ⟨hx, hb, hml, hown, hts⟩ (c_X5_weight l D k h th f asd sl kp sv sm tx ln dg (hwM f 511) H.size) (cwV 1 hts gX5_heavy_X5_weight rfl rfl rfl (by decide +kernel) ⟨Nat.le_of_ble_eq_true rfl, Nat.le_of_ble_eq_true rfl⟩) ⟨pr_blind, va_recv hK hP (ci := 5) (q0 := 0) rfl rfl, pr_at hN hPc hK hDc⟩ rfl rfl hl.1 rfl (lv_room (Nat.le_of_ble_eq_true rfl)) dX5_heavy_19 ⟨Nat.le_of_ble_eq_true rfl, Nat.le_of_ble_eq_true rfl⟩) hP hD hS hA [0, 1, 2, 3, 4, 5, 6] rfl (fun H locs hP hD hS => ?_)
      clear hPc hDc
      refine lv_goto (tgt := 26) hx hb dX5_heavy_22 (by decide) ?_
      subst hQ
      exact rt_i hx hb hr hlocks hS dX5_heavy_26 (hP) (by rw [hyF, if_neg c_1]; rfl)
  · refine lv_iconst (v := (-1)) hx hb dX5_heavy_9 (by decide) ?_
    refine lv_goto (tgt := 26) hx hb dX5_heavy_10 (by decide) ?_
    subst hQ
    exact rt_i hx hb hr hlocks hS dX5_heavy_26 (hP) (by rw [hyF, if_pos c_1])

set_option maxHeartbeats 1000000 in
set_option maxRecDepth 100000 in
theorem c_X5_heavy_1 (l : Launch) (D : va_G) (k : Nat → ClassId) (h : Nat → Nat) (th : Int32) (f asd sl kp sv : Nat → Int32) (sm : Int32) (tx : Nat → Int32) (ln : Int32) (dg : Int64)  : MI l yX5_heavy wsX5_heavy ({ frames := 3, cells := 0, slots := 0, locals := 69 }) D k [.ref (h 0), .int 1] (wMo k h th f asd sl kp sv sm tx ln dg) (hyF f true) (wMo k h th f asd sl kp sv sm tx ln dg) := by
  intro sz
  refine Met.ofW (cc := cX5_heavy) (maxL := 3) (ret := (some .int)) (by decide) rfl ?_
  intro p e s m args below meth c s₁ B hml hv
  obtain ⟨rfl, hN, hsz, hP, hK, hD0⟩ := hv
  have hx := B.exec
  have hb := B.bytes
  have hr := B.returns
  have hts := atoms_spec (ws := wsX5_heavy) B.pre
  have hown : s.vm.findClass RX5 = some m.cls := findClass_of_methodNamed B.named
  have hlocks := B.notSynchronized
  subst hsz
  have hD := hD0.self (sz := s.heap.size)
  generalize hAe : va_A (wMo k h th f asd sl kp sv sm tx ln dg) s.heap.size = A at hD ⊢
  have hA : ∀ q : Nat, s.heap.size ≤ q → A q := fun q h => by rw [← hAe]; exact Or.inr h
  have hS : va_S A s.heap s.heap [] := va_S.rf
  have hl := lv_entry ([.ref (h 0), .int 1]) (n := 3) (Nat.le_of_ble_eq_true rfl)
  rw [lg_entry_eq]
  generalize (lg_sl ([.ref (h 0), .int 1]) ++ List.replicate (3 - (lg_sl ([.ref (h 0), .int 1])).length) Slot.unset).toArray = ls at hl ⊢
  have hl : lv_has ls 3 [(0, .ref (h 0)), (1, .int 1)] := hl
  obtain ⟨H, hHe⟩ : ∃ H, H = s.heap := ⟨_, rfl⟩
  have hP : va_P D vwCl (wMo k h th f asd sl kp sv sm tx ln dg) H := by rw [hHe]; exact hP
  have hS : va_S A s.heap H [] := by rw [hHe]; exact hS
  rw [← hHe]
  refine absQ (fun Q hQ => ?_)
  refine lv_aload_n hx hb dX5_heavy_0 rfl (lv_at hl 0 rfl) ?_
  have hPc : va_P D vwCl (wMo k h th f asd sl kp sv sm tx ln dg) H := hP.sub [0, 1, 2, 3, 4, 5, 6] rfl
  have hDc : va_D A (wMo k h th f asd sl kp sv sm tx ln dg) := hD.sub [0, 1, 2, 3, 4, 5, 6] (by decide +kernel) rfl
  refine cl_i0 (va_runV (As := []) (rest := []) ⟨hx, hb, hml, hown, hts⟩ (c_X5_heaviestWay l D k h th f asd sl kp sv sm tx ln dg  H.size) (cwV 0 hts gX5_heavy_X5_heaviestWay rfl rfl rfl (by decide +kernel) ⟨Nat.le_of_ble_eq_true rfl, Nat.le_of_ble_eq_true rfl⟩) ⟨pr_blind, va_recv hK hP (ci := 5) (q0 := 0) rfl rfl, pr_at hN hPc hK hDc⟩ rfl rfl hl.1 rfl (lv_room (Nat.le_of_ble_eq_true rfl)) dX5_heavy_1 ⟨Nat.le_of_ble_eq_true rfl, Nat.le_of_ble_eq_true rfl⟩) hP hD hS hA [0, 1, 2, 3, 4, 5, 6] rfl (fun H locs hP hD hS => ?_)
  clear hPc hDc
  refine lv_istore_n (lv' := [(2, .int (hwM f 511)), (0, .ref (h 0)), (1, .int 1)]) hx hb dX5_heavy_4 rfl hl (by decide) rfl (fun ls hl => ?_)
  refine lv_iload_n hx hb dX5_heavy_5 rfl (lv_at hl 0 rfl) ?_
  refine lv_if_ne (tgt := 13) hx hb dX5_heavy_6 (by decide) (fun c_1 => ?_) (fun c_1 => ?_)
  · refine lv_iload_n hx hb dX5_heavy_13 rfl (lv_at hl 2 rfl) ?_
    refine lv_if_ne (tgt := 25) hx hb dX5_heavy_14 (by decide) (fun c_2 => ?_) (fun c_2 => ?_)
    · refine lv_iload_n hx hb dX5_heavy_25 rfl (lv_at hl 0 rfl) ?_
      subst hQ
      exact rt_i hx hb hr hlocks hS dX5_heavy_26 (hP) (by rw [hyF, if_neg c_1]; rfl)
    · exact absurd c_2 (by decide)
  · refine lv_iconst (v := (-1)) hx hb dX5_heavy_9 (by decide) ?_
    refine lv_goto (tgt := 26) hx hb dX5_heavy_10 (by decide) ?_
    subst hQ
    exact rt_i hx hb hr hlocks hS dX5_heavy_26 (hP) (by rw [hyF, if_pos c_1])
