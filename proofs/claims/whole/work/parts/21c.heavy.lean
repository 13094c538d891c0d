/-- the sets in the order in which ways are compared -/
def ordF : Nat → Int32
  | 0 => 1
  | i + 1 => nxF (ordF i)
def chO : Nat → Int32 → Bool
  | 0, x => decide (x = 0)
  | n + 1, x => decide (0 < x) && chO n (nxF x)
theorem chO_1 : chO 511 1 = true := by decide +kernel
theorem chO_at : ∀ i, i ≤ 511 → chO (511 - i) (ordF i) = true
  | 0, _ => chO_1
  | i + 1, h => by
    have h2 := chO_at i (by omega)
    rw [show 511 - i = (511 - (i + 1)) + 1 from by omega, chO, Bool.and_eq_true] at h2
    exact h2.2
theorem ord_pos {i : Nat} (h : i < 511) : 0 < ordF i := by
  have h2 := chO_at i (by omega)
  rw [show 511 - i = (511 - (i + 1)) + 1 from by omega, chO, Bool.and_eq_true] at h2
  exact of_decide_eq_true h2.1
theorem ord_end : ordF 511 = 0 := of_decide_eq_true (chO_at 511 (by omega))
theorem ord_le {i : Nat} {x : Int32} (h : i ≤ 511) (e : x = ordF i) (c : x ≤ 0) : i = 511 := by
  rcases Nat.lt_or_ge i 511 with q | q
  · exact absurd (e ▸ c) (Int32.not_le.mpr (ord_pos q))
  · omega
theorem ord_lt {i : Nat} {x : Int32} (h : i ≤ 511) (e : x = ordF i) (c : ¬ x ≤ 0) : i < 511 := by
  rcases Nat.lt_or_ge i 511 with q | q
  · exact q
  · exact absurd (show x ≤ 0 by rw [e, show i = 511 from by omega, ord_end]; decide) c
/-- the heaviest open way among the first sets -/
def hwM (f : Nat → Int32) : Nat → Int32
  | 0 => 0
  | i + 1 => if ioB f (ordF i) = true then (if hwM f i = 0 then ordF i else if wmF f (ordF i) 9 ≤ wmF f (hwM f i) 9 then hwM f i else ordF i) else hwM f i

set_option maxHeartbeats 1000000 in
set_option maxRecDepth 100000 in
theorem c_X5_heaviestWay (l : Launch) (D : va_G) (k : Nat → ClassId) (h : Nat → Nat) (th : Int32) (f asd sl kp sv : Nat → Int32) (sm : Int32) (tx : Nat → Int32) (ln : Int32) (dg : Int64)  : MI l yX5_heaviestWay wsX5_heaviestWay ({ frames := 2, cells := 0, slots := 0, locals := 47 }) D k [.ref (h 0)] (wMo k h th f asd sl kp sv sm tx ln dg) (hwM f 511) (wMo k h th f asd sl kp sv sm tx ln dg) := by
  intro sz
  refine Met.ofW (cc := cX5_heaviestWay) (maxL := 3) (ret := (some .int)) (by decide) rfl ?_
  intro p e s m args below meth c s₁ B hml hv
  obtain ⟨rfl, hN, hsz, hP, hK, hD0⟩ := hv
  have hx := B.exec
  have hb := B.bytes
  have hr := B.returns
  have hts := atoms_spec (ws := wsX5_heaviestWay) B.pre
  have hown : s.vm.findClass RX5 = some m.cls := findClass_of_methodNamed B.named
  have hlocks := B.notSynchronized
  subst hsz
  have hD := hD0.self (sz := s.heap.size)
  generalize hAe : va_A (wMo k h th f asd sl kp sv sm tx ln dg) s.heap.size = A at hD ⊢
  have hA : ∀ q : Nat, s.heap.size ≤ q → A q := fun q h => by rw [← hAe]; exact Or.inr h
  have hS : va_S A s.heap s.heap [] := va_S.rf
  have hl := lv_entry ([.ref (h 0)]) (n := 3) (Nat.le_of_ble_eq_true rfl)
  rw [lg_entry_eq]
  generalize (lg_sl ([.ref (h 0)]) ++ List.replicate (3 - (lg_sl ([.ref (h 0)])).length) Slot.unset).toArray = ls at hl ⊢
  have hl : lv_has ls 3 [(0, .ref (h 0))] := hl
  obtain ⟨H, hHe⟩ : ∃ H, H = s.heap := ⟨_, rfl⟩
  have hP : va_P D vwCl (wMo k h th f asd sl kp sv sm tx ln dg) H := by rw [hHe]; exact hP
  have hS : va_S A s.heap H [] := by rw [hHe]; exact hS
  rw [← hHe]
  refine absQ (fun Q hQ => ?_)
  refine lv_iconst (v := 0) hx hb dX5_heaviestWay_0 (by decide) ?_
  refine lv_istore_n (lv' := [(1, .int 0), (0, .ref (h 0))]) hx hb dX5_heaviestWay_1 rfl hl (by decide) rfl (fun ls hl => ?_)
  refine lv_iconst (v := 1) hx hb dX5_heaviestWay_2 (by decide) ?_
  refine lv_istore_n (lv' := [(2, .int 1), (1, .int 0), (0, .ref (h 0))]) hx hb dX5_heaviestWay_3 rfl hl (by decide) rfl (fun ls hl => ?_)
  suffices LOOP_i : ∀ (fu_i i : Nat) (u : Int32) (w : Int32), 511 - i < fu_i → i ≤ 511 → u = ordF i → w = hwM f i → ∀ (H : Heap) (locs : List Loc) (ls : Array Slot), va_P D vwCl (wMo k h th f asd sl kp sv sm tx ln dg) H → va_D A (wMo k h th f asd sl kp sv sm tx ln dg) → va_S A s.heap H locs → lv_has ls 3 [(2, .int u), (1, .int w), (0, .ref (h 0))] → W p l e ({ frames := 2, cells := 0, slots := 0, locals := 47 } : Room) s m ([.ref (h 0)] : List Value).toArray below meth c H locs 0 0 Q (F0 m 4 ls []) from LOOP_i (511 + 1) 0 1 0 (by omega) (by omega) (rfl) (rfl)  _ _ _ hP hD hS (lv_sub hl [0, 1, 2] rfl)
  clear hP hD hS hl hHe
  intro fu_i
  induction fu_i with
  | zero => intro i u w hn_i; omega
  | succ fu_i ih_i =>
    intro i u w hn_i hle_i e_u e_w  H locs ls hP hD hS hl
    refine lv_iload_n hx hb dX5_heaviestWay_4 rfl (lv_at hl 0 rfl) ?_
    refine lv_if_le (tgt := 47) hx hb dX5_heaviestWay_5 (by decide) (fun c_1 => ?_) (fun c_1 => ?_)
    · have h9 := ord_le hle_i e_u c_1
      have hz_i : 511 = i := h9.symm
      subst hz_i
      refine lv_iload_n hx hb dX5_heaviestWay_47 rfl (lv_at hl 1 rfl) ?_
      subst hQ
      exact rt_i hx hb hr hlocks hS dX5_heaviestWay_48 (hP) (e_w)
    · have hi5 := ord_lt hle_i e_u c_1
      refine lv_aload_n hx hb dX5_heaviestWay_8 rfl (lv_at hl 2 rfl) ?_
      refine lv_iload_n hx hb dX5_heaviestWay_9 rfl (lv_at hl 0 rfl) ?_
      have hPc : va_P D vwCl (wMo k h th f asd sl kp sv sm tx ln dg) H := hP.sub [0, 1, 2, 3, 4, 5, 6] rfl
      have hDc : va_D A (wMo k h th f asd sl kp sv sm tx ln dg) := hD.sub [0, 1, 2, 3, 4, 5, 6] (by decide +kernel) rfl
      refine cl_i0 (va_runV (As := [.int u]) (rest := []) ⟨hx, hb, hml, hown, hts⟩ (c_X5_isOpen l D k h th f asd sl kp sv sm tx ln dg u H.size) (cwV 1 hts gX5_heaviestWay_X5_isOpen rfl rfl rfl (by decide +kernel) ⟨Nat.le_of_ble_eq_true rfl, Nat.le_of_ble_eq_true rfl⟩) ⟨pr_blind, va_recv hK hP (ci := 5) (q0 := 0) rfl rfl, pr_at hN hPc hK hDc⟩ rfl rfl hl.1 rfl (lv_room (Nat.le_of_ble_eq_true rfl)) dX5_heaviestWay_10 ⟨Nat.le_of_ble_eq_true rfl, Nat.le_of_ble_eq_true rfl⟩) hP hD hS hA [0, 1, 2, 3, 4, 5, 6] rfl (fun H locs hP hD hS => ?_)
      clear hPc hDc
      refine lv_if_eq (tgt := 37) hx hb dX5_heaviestWay_13 (by decide) (fun c_2 => ?_) (fun c_2 => ?_)
      · have c_2 := bI_eq.mp c_2
        refine lv_iload_n hx hb dX5_heaviestWay_37 rfl (lv_at hl 1 rfl) ?_
        refine lv_istore_n (lv' := [(1, .int w), (2, .int u), (0, .ref (h 0))]) hx hb dX5_heaviestWay_38 rfl hl (by decide) rfl (fun ls hl => ?_)
        refine lv_iload_n hx hb dX5_heaviestWay_39 rfl (lv_at hl 1 rfl) ?_
        have hPc : va_P D vwCl ([]) H := hP.sub [] rfl
        have hDc : va_D A ([]) := hD.sub [] (by decide +kernel) rfl
        refine cl_i0 (va_runS (As := [.int u]) (rest := []) ⟨hx, hb, hml, hown, hts⟩ (c_X5_next l D k u H.size) (va_cwS 1 hts gX5_heaviestWay_X5_next rfl rfl rfl (by decide +kernel) ⟨Nat.le_of_ble_eq_true rfl, Nat.le_of_ble_eq_true rfl⟩) ⟨pr_blind, pr_at hN hPc hK hDc⟩ rfl rfl hl.1 rfl (lv_room (Nat.le_of_ble_eq_true rfl)) dX5_heaviestWay_40 ⟨Nat.le_of_ble_eq_true rfl, Nat.le_of_ble_eq_true rfl⟩) hP hD hS hA [] rfl (fun H locs hP hD hS => ?_)
        clear hPc hDc
        refine lv_istore_n (lv' := [(2, .int (nxF u)), (1, .int w), (0, .ref (h 0))]) hx hb dX5_heaviestWay_43 rfl hl (by decide) rfl (fun ls hl => ?_)
        refine lv_goto (tgt := 4) hx hb dX5_heaviestWay_44 (by decide) ?_
        exact ih_i (i + 1) (nxF u) w (by omega) (by omega) (by rw [ordF, ← e_u]) (by rw [hwM, ← e_u, ← e_w, if_neg (by rw [c_2]; decide)])  _ _ _ hP hD hS (lv_sub hl [0, 1, 2] rfl)
      · have c_2 := bI_ne.mp c_2
        refine lv_iload_n hx hb dX5_heaviestWay_16 rfl (lv_at hl 1 rfl) ?_
        refine lv_if_eq (tgt := 33) hx hb dX5_heaviestWay_17 (by decide) (fun c_3 => ?_) (fun c_3 => ?_)
        · refine lv_iload_n hx hb dX5_heaviestWay_33 rfl (lv_at hl 0 rfl) ?_
          refine lv_goto (tgt := 38) hx hb dX5_heaviestWay_34 (by decide) ?_
          refine lv_istore_n (lv' := [(1, .int u), (2, .int u), (0, .ref (h 0))]) hx hb dX5_heaviestWay_38 rfl hl (by decide) rfl (fun ls hl => ?_)
          refine lv_iload_n hx hb dX5_heaviestWay_39 rfl (lv_at hl 1 rfl) ?_
          have hPc : va_P D vwCl ([]) H := hP.sub [] rfl
          have hDc : va_D A ([]) := hD.sub [] (by decide +kernel) rfl
          refine cl_i0 (va_runS (As := [.int u]) (rest := []) ⟨hx, hb, hml, hown, hts⟩ (c_X5_next l D k u H.size) (va_cwS 1 hts gX5_heaviestWay_X5_next rfl rfl rfl (by decide +kernel) ⟨Nat.le_of_ble_eq_true rfl, Nat.le_of_ble_eq_true rfl⟩) ⟨pr_blind, pr_at hN hPc hK hDc⟩ rfl rfl hl.1 rfl (lv_room (Nat.le_of_ble_eq_true rfl)) dX5_heaviestWay_40 ⟨Nat.le_of_ble_eq_true rfl, Nat.le_of_ble_eq_true rfl⟩) hP hD hS hA [] rfl (fun H locs hP hD hS => ?_)
          clear hPc hDc
          refine lv_istore_n (lv' := [(2, .int (nxF u)), (1, .int u), (0, .ref (h 0))]) hx hb dX5_heaviestWay_43 rfl hl (by decide) rfl (fun ls hl => ?_)
          refine lv_goto (tgt := 4) hx hb dX5_heaviestWay_44 (by decide) ?_
          exact ih_i (i + 1) (nxF u) u (by omega) (by omega) (by rw [ordF, ← e_u]) (by rw [hwM, ← e_u, ← e_w, if_pos c_2, if_pos c_3])  _ _ _ hP hD hS (lv_sub hl [0, 1, 2] rfl)
        · refine lv_aload_n hx hb dX5_heaviestWay_20 rfl (lv_at hl 2 rfl) ?_
          refine lv_iload_n hx hb dX5_heaviestWay_21 rfl (lv_at hl 0 rfl) ?_
          have hPc : va_P D vwCl (wMo k h th f asd sl kp sv sm tx ln dg) H := hP.sub [0, 1, 2, 3, 4, 5, 6] rfl
          have hDc : va_D A (wMo k h th f asd sl kp sv sm tx ln dg) := hD.sub [0, 1, 2, 3, 4, 5, 6] (by decide +kernel) rfl
          refine cl_i0 (va_runV (As := [.int u]) (rest := []) ⟨hx, hb, hml, hown, hts⟩ (c_X5_weight l D k h th f asd sl kp sv sm tx ln dg u H.size) (cwV 1 hts gX5_heaviestWay_X5_weight rfl rfl rfl (by decide +kernel) ⟨Nat.le_of_ble_eq_true rfl, Nat.le_of_ble_eq_true rfl⟩) ⟨pr_blind, va_recv hK hP (ci := 5) (q0 := 0) rfl rfl, pr_at hN hPc hK hDc⟩ rfl rfl hl.1 rfl (lv_room (Nat.le_of_ble_eq_true rfl)) dX5_heaviestWay_22 ⟨Nat.le_of_ble_eq_true rfl, Nat.le_of_ble_eq_true rfl⟩) hP hD hS hA [0, 1, 2, 3, 4, 5, 6] rfl (fun H locs hP hD hS => ?_)
          clear hPc hDc
          refine lv_aload_n hx hb dX5_heaviestWay_25 rfl (lv_at hl 2 rfl) ?_
          refine lv_iload_n hx hb dX5_heaviestWay_26 rfl (lv_at hl 1 rfl) ?_
          have hPc : va_P D vwCl (wMo k h th f asd sl kp sv sm tx ln dg) H := hP.sub [0, 1, 2, 3, 4, 5, 6] rfl
          have hDc : va_D A (wMo k h th f asd sl kp sv sm tx ln dg) := hD.sub [0, 1, 2, 3, 4, 5, 6] (by decide +kernel) rfl
          refine cl_i0 (va_runV (As := [.int w]) (rest := [.int (wmF f u 9)]) ⟨hx, hb, hml, hown, hts⟩ (c_X5_weight l D k h th f asd sl kp sv sm tx ln dg w H.size) (cwV 1 hts gX5_heaviestWay_X5_weight rfl rfl rfl (by decide +kernel) ⟨Nat.le_of_ble_eq_true rfl, Nat.le_of_ble_eq_true rfl⟩) ⟨pr_blind, va_recv hK hP (ci := 5) (q0 := 0) rfl rfl, pr_at hN hPc hK hDc⟩ rfl rfl hl.1 rfl (lv_room (Nat.le_of_ble_eq_true rfl)) dX5_heaviestWay_27 ⟨Nat.le_of_ble_eq_true rfl, Nat.le_of_ble_eq_true rfl⟩) hP hD hS hA [0, 1, 2, 3, 4, 5, 6] rfl (fun H locs hP hD hS => ?_)
          clear hPc hDc
          refine lv_icmp_le (tgt := 37) hx hb dX5_heaviestWay_30 (by decide) (fun c_4 => ?_) (fun c_4 => ?_)
          · refine lv_iload_n hx hb dX5_heaviestWay_37 rfl (lv_at hl 1 rfl) ?_
            refine lv_istore_n (lv' := [(1, .int w), (2, .int u), (0, .ref (h 0))]) hx hb dX5_heaviestWay_38 rfl hl (by decide) rfl (fun ls hl => ?_)
            refine lv_iload_n hx hb dX5_heaviestWay_39 rfl (lv_at hl 1 rfl) ?_
            have hPc : va_P D vwCl ([]) H := hP.sub [] rfl
            have hDc : va_D A ([]) := hD.sub [] (by decide +kernel) rfl
            refine cl_i0 (va_runS (As := [.int u]) (rest := []) ⟨hx, hb, hml, hown, hts⟩ (c_X5_next l D k u H.size) (va_cwS 1 hts gX5_heaviestWay_X5_next rfl rfl rfl (by decide +kernel) ⟨Nat.le_of_ble_eq_true rfl, Nat.le_of_ble_eq_true rfl⟩) ⟨pr_blind, pr_at hN hPc hK hDc⟩ rfl rfl hl.1 rfl (lv_room (Nat.le_of_ble_eq_true rfl)) dX5_heaviestWay_40 ⟨Nat.le_of_ble_eq_true rfl, Nat.le_of_ble_eq_true rfl⟩) hP hD hS hA [] rfl (fun H locs hP hD hS => ?_)
            clear hPc hDc
            refine lv_istore_n (lv' := [(2, .int (nxF u)), (1, .int w), (0, .ref (h 0))]) hx hb dX5_heaviestWay_43 rfl hl (by decide) rfl (fun ls hl => ?_)
            refine lv_goto (tgt := 4) hx hb dX5_heaviestWay_44 (by decide) ?_
            exact ih_i (i + 1) (nxF u) w (by omega) (by omega) (by rw [ordF, ← e_u]) (by rw [hwM, ← e_u, ← e_w, if_pos c_2, if_neg c_3, if_pos c_4])  _ _ _ hP hD hS (lv_sub hl [0, 1, 2] rfl)
          · refine lv_iload_n hx hb dX5_heaviestWay_33 rfl (lv_at hl 0 rfl) ?_
            refine lv_goto (tgt := 38) hx hb dX5_heaviestWay_34 (by decide) ?_
            refine lv_istore_n (lv' := [(1, .int u), (2, .int u), (0, .ref (h 0))]) hx hb dX5_heaviestWay_38 rfl hl (by decide) rfl (fun ls hl => ?_)
            refine lv_iload_n hx hb dX5_heaviestWay_39 rfl (lv_at hl 1 rfl) ?_
            have hPc : va_P D vwCl ([]) H := hP.sub [] rfl
            have hDc : va_D A ([]) := hD.sub [] (by decide +kernel) rfl
            refine cl_i0 (va_runS (As := [.int u]) (rest := []) ⟨hx, hb, hml, hown, hts⟩ (c_X5_next l D k u H.size) (va_cwS 1 hts gX5_heaviestWay_X5_next rfl rfl rfl (by decide +kernel) ⟨Nat.le_of_ble_eq_true rfl, Nat.le_of_ble_eq_true rfl⟩) ⟨pr_blind, pr_at hN hPc hK hDc⟩ rfl rfl hl.1 rfl (lv_room (Nat.le_of_ble_eq_true rfl)) dX5_heaviestWay_40 ⟨Nat.le_of_ble_eq_true rfl, Nat.le_of_ble_eq_true rfl⟩) hP hD hS hA [] rfl (fun H locs hP hD hS => ?_)
            clear hPc hDc
            refine lv_istore_n (lv' := [(2, .int (nxF u)), (1, .int u), (0, .ref (h 0))]) hx hb dX5_heaviestWay_43 rfl hl (by decide) rfl (fun ls hl => ?_)
            refine lv_goto (tgt := 4) hx hb dX5_heaviestWay_44 (by decide) ?_
            exact ih_i (i + 1) (nxF u) u (by omega) (by omega) (by rw [ordF, ← e_u]) (by rw [hwM, ← e_u, ← e_w, if_pos c_2, if_neg c_3, if_neg c_4])  _ _ _ hP hD hS (lv_sub hl [0, 1, 2] rfl)
