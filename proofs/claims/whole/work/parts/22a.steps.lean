theorem inB_n {q a b : Nat} (h1 : a ≤ q) (h2 : q ≤ b) (hb : b < 2 ^ 31) : inB (nI q) (nI a) (nI b) = true := by
  unfold inB
  rw [decide_eq_true_eq]
  exact ⟨nI_nlt h1 (by omega), nI_nlt h2 hb⟩
def rdM (f : Nat → Int32) (x w : Int32) (i : Nat) : Nat → Int32 := fun j => if 9 ≤ j ∧ j < 9 + i then f j - (if bitv x (nI (j - 9)) = 1 then w else 0) else f j
theorem rdM_0 (f : Nat → Int32) (x w : Int32) : rdM f x w 0 = f := by
  funext j
  exact if_neg (by omega)
theorem rdM_out (f : Nat → Int32) (x w : Int32) {i j : Nat} (h : j < 9 ∨ 9 + i ≤ j) : rdM f x w i j = f j := if_neg (by omega)
theorem rdM_s (f : Nat → Int32) (x w : Int32) (i : Nat) (v : Int32) (hv : v = if bitv x (nI i) = 1 then w else 0) : upd (rdM f x w i) (9 + i) (rdM f x w i (9 + i) - v) = rdM f x w (i + 1) := by
  funext j
  unfold upd
  by_cases hj : j = 9 + i
  · subst hj
    rw [if_pos rfl, rdM_out f x w (Or.inr (Nat.le_refl _)), hv]
    unfold rdM
    rw [if_pos (show 9 ≤ 9 + i ∧ 9 + i < 9 + (i + 1) from by omega), show 9 + i - 9 = i from by omega]
  · rw [if_neg hj]
    unfold rdM
    by_cases h2 : 9 ≤ j ∧ j < 9 + i
    · rw [if_pos h2, if_pos (show 9 ≤ j ∧ j < 9 + (i + 1) from by omega)]
    · rw [if_neg h2, if_neg (show ¬ (9 ≤ j ∧ j < 9 + (i + 1)) from by omega)]
/-- a step taken: the row behind it -/
def stN (f : Nat → Int32) (x w : Int32) (nw : Nat) : Nat → Int32 := upd (upd (upd (upd (rdM f x w 9) (46 + 2 * nw) w) (46 + 2 * nw + 1) x) 45 (nI (nw + 1))) 70 (f 70 + 1)
def swM (f : Nat → Int32) (nw : Nat) : Int32 := if hwM f 511 = 0 then 0 else if nw = 12 then 0 else wmF f (hwM f 511) 9
def stM (f : Nat → Int32) (nw : Nat) : Int32 × (Nat → Int32) := if swM f nw = 0 then (0, upd f 71 (f 71 + 1)) else (swM f nw, stN f (hwM f 511) (swM f nw) nw)

set_option maxHeartbeats 1000000 in
set_option maxRecDepth 100000 in
theorem c_X5_steps (l : Launch) (D : va_G) (k : Nat → ClassId) (h : Nat → Nat) (th : Int32) (f asd sl kp sv : Nat → Int32) (sm : Int32) (tx : Nat → Int32) (ln : Int32) (dg : Int64) (nw : Nat) (hnw : f 45 = nI nw) (hnw2 : nw ≤ 12) : MI l yX5_steps wsX5_steps ({ frames := 3, cells := 0, slots := 0, locals := 69 }) D k [.ref (h 0)] (wMo k h th f asd sl kp sv sm tx ln dg) ((stM f nw).1) (wMo k h th ((stM f nw).2) asd sl kp sv sm tx ln dg) := by
  intro sz
  refine Met.ofW (cc := cX5_steps) (maxL := 4) (ret := (some .int)) (by decide) rfl ?_
  intro p e s m args below meth c s₁ B hml hv
  obtain ⟨rfl, hN, hsz, hP, hK, hD0⟩ := hv
  have hx := B.exec
  have hb := B.bytes
  have hr := B.returns
  have hts := atoms_spec (ws := wsX5_steps) B.pre
  have hown : s.vm.findClass RX5 = some m.cls := findClass_of_methodNamed B.named
  have hlocks := B.notSynchronized
  subst hsz
  have hD := hD0.self (sz := s.heap.size)
  generalize hAe : va_A (wMo k h th f asd sl kp sv sm tx ln dg) s.heap.size = A at hD ⊢
  have hA : ∀ q : Nat, s.heap.size ≤ q → A q := fun q h => by rw [← hAe]; exact Or.inr h
  have hS : va_S A s.heap s.heap [] := va_S.rf
  have hl := lv_entry ([.ref (h 0)]) (n := 4) (Nat.le_of_ble_eq_true rfl)
  rw [lg_entry_eq]
  generalize (lg_sl ([.ref (h 0)]) ++ List.replicate (4 - (lg_sl ([.ref (h 0)])).length) Slot.unset).toArray = ls at hl ⊢
  have hl : lv_has ls 4 [(0, .ref (h 0))] := hl
  obtain ⟨H, hHe⟩ : ∃ H, H = s.heap := ⟨_, rfl⟩
  have hP : va_P D vwCl (wMo k h th f asd sl kp sv sm tx ln dg) H := by rw [hHe]; exact hP
  have hS : va_S A s.heap H [] := by rw [hHe]; exact hS
  rw [← hHe]
  refine absQ (fun Q hQ => ?_)
  refine lv_aload_n hx hb dX5_steps_0 rfl (lv_at hl 0 rfl) ?_
  have hPc : va_P D vwCl (wMo k h th f asd sl kp sv sm tx ln dg) H := hP.sub [0, 1, 2, 3, 4, 5, 6] rfl
  have hDc : va_D A (wMo k h th f asd sl kp sv sm tx ln dg) := hD.sub [0, 1, 2, 3, 4, 5, 6] (by decide +kernel) rfl
  refine cl_i0 (va_runV (As := []) (rest := []) ⟨hx, hb, hml, hown, hts⟩ (c_X5_heaviestWay l D k h th f asd sl kp sv sm tx ln dg  H.size) (cwV 0 hts gX5_steps_X5_heaviestWay rfl rfl rfl (by decide +kernel) ⟨Nat.le_of_ble_eq_true rfl, Nat.le_of_ble_eq_true rfl⟩) ⟨pr_blind, va_recv hK hP (ci := 5) (q0 := 0) rfl rfl, pr_at hN hPc hK hDc⟩ rfl rfl hl.1 rfl (lv_room (Nat.le_of_ble_eq_true rfl)) dX5_steps_1 ⟨Nat.le_of_ble_eq_true rfl, Nat.le_of_ble_eq_true rfl⟩) hP hD hS hA [0, 1, 2, 3, 4, 5, 6] rfl (fun H locs hP hD hS => ?_)
  clear hPc hDc
  refine lv_istore_n (lv' := [(1, .int (hwM f 511)), (0, .ref (h 0))]) hx hb dX5_steps_4 rfl hl (by decide) rfl (fun ls hl => ?_)
  refine lv_iload_n hx hb dX5_steps_5 rfl (lv_at hl 0 rfl) ?_
  refine lv_if_eq (tgt := 21) hx hb dX5_steps_6 (by decide) (fun c_1 => ?_) (fun c_1 => ?_)
  · refine lv_iconst (v := 0) hx hb dX5_steps_21 (by decide) ?_
    refine lv_goto (tgt := 30) hx hb dX5_steps_22 (by decide) ?_
    refine lv_istore_n (lv' := [(2, .int 0), (1, .int (hwM f 511)), (0, .ref (h 0))]) hx hb dX5_steps_30 rfl hl (by decide) rfl (fun ls hl => ?_)
    refine lv_iload_n hx hb dX5_steps_31 rfl (lv_at hl 0 rfl) ?_
    refine lv_if_ne (tgt := 48) hx hb dX5_steps_32 (by decide) (fun c_2 => ?_) (fun c_2 => ?_)
    · exact absurd c_2 (by decide)
    · refine lv_aload_n hx hb dX5_steps_35 rfl (lv_at hl 2 rfl) ?_
      refine va_get (D := D) (ci := 5) (v := .ref (h 1)) (C := RX5) (T := TX5) (N := 10) hx hb hts (fun _ h9 => (List.mem_cons_of_mem _ (List.mem_append_right _ h9))) hown hK hP 0 rfl rfl 1 (by decide) (hts _ (List.mem_of_getElem? (i := 1) rfl)) (fun _ h9 => h9) rfl dX5_steps_36 ?_
      refine lv_bipush (v := 71) hx hb dX5_steps_39 (by decide) ?_
      refine lv_dup2_11 hx hb dX5_steps_41 rfl rfl ?_
      refine ar_ld hx hb hK hP 1 rfl 71 rfl (show vp_in (nI 71) 72 from vp_in_nI (by decide) (by decide)) dX5_steps_42 ?_
      refine lv_iconst (v := 1) hx hb dX5_steps_43 (by decide) ?_
      refine lv_iadd hx hb dX5_steps_44 ?_
      refine ar_st hx hb hK hP hD hS 1 rfl 71 rfl (show vp_in (nI 71) 72 from vp_in_nI (by decide) (by decide)) dX5_steps_45 (wn := [(h 0, .inr (5, [.int th, .ref (h 1), .ref (h 2), .ref (h 3), .ref (h 4), .ref (h 5), .int sm, .ref (h 6), .int ln, .long dg])), (h 1, .inl (k 0, 72, .inl (upd f 71 ((f 71) + 1)))), (h 2, .inl (k 0, 72, .inl asd)), (h 3, .inl (k 0, 144, .inl sl)), (h 4, .inl (k 1, 2, .inl kp)), (h 5, .inl (k 0, 432, .inl sv)), (h 6, .inl (k 0, 60, .inl tx))]) rfl (fun H locs hP hD hS => ?_)
      refine lv_iconst (v := 0) hx hb dX5_steps_46 (by decide) ?_
      subst hQ
      exact rt_i hx hb hr hlocks hS dX5_steps_47 (by rw [stM, swM, if_pos c_1, if_pos rfl]; exact hP) (by rw [stM, swM, if_pos c_1, if_pos rfl])
  · refine lv_aload_n hx hb dX5_steps_9 rfl (lv_at hl 1 rfl) ?_
    refine va_get (D := D) (ci := 5) (v := .ref (h 1)) (C := RX5) (T := TX5) (N := 10) hx hb hts (fun _ h9 => (List.mem_cons_of_mem _ (List.mem_append_right _ h9))) hown hK hP 0 rfl rfl 1 (by decide) (hts _ (List.mem_of_getElem? (i := 1) rfl)) (fun _ h9 => h9) rfl dX5_steps_10 ?_
    refine lv_bipush (v := 45) hx hb dX5_steps_13 (by decide) ?_
    refine ar_ld hx hb hK hP 1 rfl 45 rfl (show vp_in (nI 45) 72 from vp_in_nI (by decide) (by decide)) dX5_steps_15 ?_
    refine tp_e (y := (nI nw)) hnw ?_
    refine lv_bipush (v := 12) hx hb dX5_steps_16 (by decide) ?_
    refine lv_icmp_ne (tgt := 25) hx hb dX5_steps_18 (by decide) (fun c_3 => ?_) (fun c_3 => ?_)
    · have c_3 : ¬ (nw = 12) := fun h9 => c_3 ((nI_eq (a := nw) (b := 12) (by omega) (by omega)).mpr h9)
      refine lv_aload_n hx hb dX5_steps_25 rfl (lv_at hl 1 rfl) ?_
      refine lv_iload_n hx hb dX5_steps_26 rfl (lv_at hl 0 rfl) ?_
      have hPc : va_P D vwCl (wMo k h th f asd sl kp sv sm tx ln dg) H := hP.sub [0, 1, 2, 3, 4, 5, 6] rfl
      have hDc : va_D A (wMo k h th f asd sl kp sv sm tx ln dg) := hD.sub [0, 1, 2, 3, 4, 5, 6] (by decide +kernel) rfl
      refine cl_i0 (va_runV (As := [.int (hwM f 511)]) (rest := []) ⟨hx, hb, hml, hown, hts⟩ (c_X5_weight l D k h th f asd sl kp sv sm tx ln dg (hwM f 511) H.size) (cwV 1 hts gX5_steps_X5_weight rfl rfl rfl (by decide +kernel) ⟨Nat.le_of_ble_eq_true rfl, Nat.le_of_ble_eq_true rfl⟩) ⟨pr_blind, va_recv hK hP (ci := 5) (q0 := 0) rfl rfl, pr_at hN hPc hK hDc⟩ rfl rfl hl.1 rfl (lv_room (Nat.le_of_ble_eq_true rfl)) dX5_steps_27 ⟨Nat.le_of_ble_eq_true rfl, Nat.le_of_ble_eq_true rfl⟩) hP hD hS hA [0, 1, 2, 3, 4, 5, 6] rfl (fun H locs hP hD hS => ?_)
      clear hPc hDc
      refine lv_istore_n (lv' := [(2, .int (wmF f (hwM f 511) 9)), (1, .int (hwM f 511)), (0, .ref (h 0))]) hx hb dX5_steps_30 rfl hl (by decide) rfl (fun ls hl => ?_)
      refine lv_iload_n hx hb dX5_steps_31 rfl (lv_at hl 0 rfl) ?_
      refine lv_if_ne (tgt := 48) hx hb dX5_steps_32 (by decide) (fun c_4 => ?_) (fun c_4 => ?_)
      · refine lv_iconst (v := 0) hx hb dX5_steps_48 (by decide) ?_
        refine lv_istore_n (lv' := [(3, .int 0), (2, .int (wmF f (hwM f 511) 9)), (1, .int (hwM f 511)), (0, .ref (h 0))]) hx hb dX5_steps_49 rfl hl (by decide) rfl (fun ls hl => ?_)
        suffices LOOP_i : ∀ (fu_i i : Nat) (g : Nat → Int32), 9 - i < fu_i → i ≤ 9 → g = rdM f (hwM f 511) (wmF f (hwM f 511) 9) i → ∀ (H : Heap) (locs : List Loc) (ls : Array Slot), va_P D vwCl ([(h 0, .inr (5, [.int th, .ref (h 1), .ref (h 2), .ref (h 3), .ref (h 4), .ref (h 5), .int sm, .ref (h 6), .int ln, .long dg])), (h 1, .inl (k 0, 72, .inl g)), (h 2, .inl (k 0, 72, .inl asd)), (h 3, .inl (k 0, 144, .inl sl)), (h 4, .inl (k 1, 2, .inl kp)), (h 5, .inl (k 0, 432, .inl sv)), (h 6, .inl (k 0, 60, .inl tx))]) H → va_D A ([(h 0, .inr (5, [.int th, .ref (h 1), .ref (h 2), .ref (h 3), .ref (h 4), .ref (h 5), .int sm, .ref (h 6), .int ln, .long dg])), (h 1, .inl (k 0, 72, .inl g)), (h 2, .inl (k 0, 72, .inl asd)), (h 3, .inl (k 0, 144, .inl sl)), (h 4, .inl (k 1, 2, .inl kp)), (h 5, .inl (k 0, 432, .inl sv)), (h 6, .inl (k 0, 60, .inl tx))]) → va_S A s.heap H locs → lv_has ls 4 [(3, .int (nI i)), (2, .int (wmF f (hwM f 511) 9)), (1, .int (hwM f 511)), (0, .ref (h 0))] → W p l e ({ frames := 3, cells := 0, slots := 0, locals := 69 } : Room) s m ([.ref (h 0)] : List Value).toArray below meth c H locs 0 0 Q (F0 m 50 ls []) from LOOP_i (9 + 1) 0 f (by omega) (by omega) ((rdM_0 _ _ _).symm)  _ _ _ hP hD hS (lv_sub hl [0, 1, 2, 3] rfl)
        clear hP hD hS hl hHe
        intro fu_i
        induction fu_i with
        | zero => intro i g hn_i; omega
        | succ fu_i ih_i =>
          intro i g hn_i hle_i e_g  H locs ls hP hD hS hl
          refine lv_iload_n hx hb dX5_steps_50 rfl (lv_at hl 0 rfl) ?_
          refine lv_bipush (v := 9) hx hb dX5_steps_51 (by decide) ?_
          refine lv_icmp_ge (tgt := 88) hx hb dX5_steps_53 (by decide) (fun c_5 => ?_) (fun c_5 => ?_)
          · have c_5 : 9 ≤ i := (nI_leI (a := 9) (b := i) (by omega) (by omega)).mp c_5
            have hz_i : 9 = i := by omega
            subst hz_i
            subst e_g
            refine lv_aload_n hx hb dX5_steps_88 rfl (lv_at hl 3 rfl) ?_
            refine va_get (D := D) (ci := 5) (v := .ref (h 1)) (C := RX5) (T := TX5) (N := 10) hx hb hts (fun _ h9 => (List.mem_cons_of_mem _ (List.mem_append_right _ h9))) hown hK hP 0 rfl rfl 1 (by decide) (hts _ (List.mem_of_getElem? (i := 1) rfl)) (fun _ h9 => h9) rfl dX5_steps_89 ?_
            refine lv_bipush (v := 46) hx hb dX5_steps_92 (by decide) ?_
            refine lv_iconst (v := 2) hx hb dX5_steps_94 (by decide) ?_
            refine lv_aload_n hx hb dX5_steps_95 rfl (lv_at hl 3 rfl) ?_
            refine va_get (D := D) (ci := 5) (v := .ref (h 1)) (C := RX5) (T := TX5) (N := 10) hx hb hts (fun _ h9 => (List.mem_cons_of_mem _ (List.mem_append_right _ h9))) hown hK hP 0 rfl rfl 1 (by decide) (hts _ (List.mem_of_getElem? (i := 1) rfl)) (fun _ h9 => h9) rfl dX5_steps_96 ?_
            refine lv_bipush (v := 45) hx hb dX5_steps_99 (by decide) ?_
            refine ar_ld hx hb hK hP 1 rfl 45 rfl (show vp_in (nI 45) 72 from vp_in_nI (by decide) (by decide)) dX5_steps_101 ?_
            refine tp_e (y := (nI nw)) (by show rdM f (hwM f 511) (wmF f (hwM f 511) 9) 9 45 = nI nw; rw [rdM_out f _ _ (by omega)]; exact hnw) ?_
            refine lv_imul hx hb dX5_steps_102 ?_
            refine tp_e (y := (nI (2 * nw))) (pk_mul 2 nw) ?_
            refine lv_iadd hx hb dX5_steps_103 ?_
            refine tp_e (y := (nI (46 + 2 * nw))) (nI_add 46 (2 * nw)) ?_
            refine lv_iload_n hx hb dX5_steps_104 rfl (lv_at hl 1 rfl) ?_
            refine ar_st hx hb hK hP hD hS 1 rfl (46 + 2 * nw) (nI_clamp (by omega)) (vp_in_nI (by omega) (by omega)) dX5_steps_105 (wn := [(h 0, .inr (5, [.int th, .ref (h 1), .ref (h 2), .ref (h 3), .ref (h 4), .ref (h 5), .int sm, .ref (h 6), .int ln, .long dg])), (h 1, .inl (k 0, 72, .inl (upd (rdM f (hwM f 511) (wmF f (hwM f 511) 9) 9) (46 + 2 * nw) (wmF f (hwM f 511) 9)))), (h 2, .inl (k 0, 72, .inl asd)), (h 3, .inl (k 0, 144, .inl sl)), (h 4, .inl (k 1, 2, .inl kp)), (h 5, .inl (k 0, 432, .inl sv)), (h 6, .inl (k 0, 60, .inl tx))]) rfl (fun H locs hP hD hS => ?_)
            refine lv_aload_n hx hb dX5_steps_106 rfl (lv_at hl 3 rfl) ?_
            refine va_get (D := D) (ci := 5) (v := .ref (h 1)) (C := RX5) (T := TX5) (N := 10) hx hb hts (fun _ h9 => (List.mem_cons_of_mem _ (List.mem_append_right _ h9))) hown hK hP 0 rfl rfl 1 (by decide) (hts _ (List.mem_of_getElem? (i := 1) rfl)) (fun _ h9 => h9) rfl dX5_steps_107 ?_
            refine lv_bipush (v := 46) hx hb dX5_steps_110 (by decide) ?_
            refine lv_iconst (v := 2) hx hb dX5_steps_112 (by decide) ?_
            refine lv_aload_n hx hb dX5_steps_113 rfl (lv_at hl 3 rfl) ?_
            refine va_get (D := D) (ci := 5) (v := .ref (h 1)) (C := RX5) (T := TX5) (N := 10) hx hb hts (fun _ h9 => (List.mem_cons_of_mem _ (List.mem_append_right _ h9))) hown hK hP 0 rfl rfl 1 (by decide) (hts _ (List.mem_of_getElem? (i := 1) rfl)) (fun _ h9 => h9) rfl dX5_steps_114 ?_
            refine lv_bipush (v := 45) hx hb dX5_steps_117 (by decide) ?_
            refine ar_ld hx hb hK hP 1 rfl 45 rfl (show vp_in (nI 45) 72 from vp_in_nI (by decide) (by decide)) dX5_steps_119 ?_
            refine tp_e (y := (nI nw)) (by rw [up_ne _ _ (show 45 ≠ 46 + 2 * nw from by omega), rdM_out f _ _ (by omega)]; exact hnw) ?_
            refine lv_imul hx hb dX5_steps_120 ?_
            refine tp_e (y := (nI (2 * nw))) (pk_mul 2 nw) ?_
            refine lv_iadd hx hb dX5_steps_121 ?_
            refine tp_e (y := (nI (46 + 2 * nw))) (nI_add 46 (2 * nw)) ?_
            refine lv_iconst (v := 1) hx hb dX5_steps_122 (by decide) ?_
            refine lv_iadd hx hb dX5_steps_123 ?_
            refine tp_e (y := (nI (46 + 2 * nw + 1))) (nI_add (46 + 2 * nw) 1) ?_
            refine lv_iload_n hx hb dX5_steps_124 rfl (lv_at hl 2 rfl) ?_
            refine ar_st hx hb hK hP hD hS 1 rfl (46 + 2 * nw + 1) (nI_clamp (by omega)) (vp_in_nI (by omega) (by omega)) dX5_steps_125 (wn := [(h 0, .inr (5, [.int th, .ref (h 1), .ref (h 2), .ref (h 3), .ref (h 4), .ref (h 5), .int sm, .ref (h 6), .int ln, .long dg])), (h 1, .inl (k 0, 72, .inl (upd (upd (rdM f (hwM f 511) (wmF f (hwM f 511) 9) 9) (46 + 2 * nw) (wmF f (hwM f 511) 9)) (46 + 2 * nw + 1) (hwM f 511)))), (h 2, .inl (k 0, 72, .inl asd)), (h 3, .inl (k 0, 144, .inl sl)), (h 4, .inl (k 1, 2, .inl kp)), (h 5, .inl (k 0, 432, .inl sv)), (h 6, .inl (k 0, 60, .inl tx))]) rfl (fun H locs hP hD hS => ?_)
            refine lv_aload_n hx hb dX5_steps_126 rfl (lv_at hl 3 rfl) ?_
            refine va_get (D := D) (ci := 5) (v := .ref (h 1)) (C := RX5) (T := TX5) (N := 10) hx hb hts (fun _ h9 => (List.mem_cons_of_mem _ (List.mem_append_right _ h9))) hown hK hP 0 rfl rfl 1 (by decide) (hts _ (List.mem_of_getElem? (i := 1) rfl)) (fun _ h9 => h9) rfl dX5_steps_127 ?_
            refine lv_bipush (v := 45) hx hb dX5_steps_130 (by decide) ?_
            refine lv_dup2_11 hx hb dX5_steps_132 rfl rfl ?_
            refine ar_ld hx hb hK hP 1 rfl 45 rfl (show vp_in (nI 45) 72 from vp_in_nI (by decide) (by decide)) dX5_steps_133 ?_
            refine tp_e (y := (nI nw)) (by rw [up_ne _ _ (show 45 ≠ 46 + 2 * nw + 1 from by omega), up_ne _ _ (show 45 ≠ 46 + 2 * nw from by omega), rdM_out f _ _ (by omega)]; exact hnw) ?_
            refine lv_iconst (v := 1) hx hb dX5_steps_134 (by decide) ?_
            refine lv_iadd hx hb dX5_steps_135 ?_
            refine tp_e (y := (nI (nw + 1))) (nI_add nw 1) ?_
            refine ar_st hx hb hK hP hD hS 1 rfl 45 rfl (show vp_in (nI 45) 72 from vp_in_nI (by decide) (by decide)) dX5_steps_136 (wn := [(h 0, .inr (5, [.int th, .ref (h 1), .ref (h 2), .ref (h 3), .ref (h 4), .ref (h 5), .int sm, .ref (h 6), .int ln, .long dg])), (h 1, .inl (k 0, 72, .inl (upd (upd (upd (rdM f (hwM f 511) (wmF f (hwM f 511) 9) 9) (46 + 2 * nw) (wmF f (hwM f 511) 9)) (46 + 2 * nw + 1) (hwM f 511)) 45 (nI (nw + 1))))), (h 2, .inl (k 0, 72, .inl asd)), (h 3, .inl (k 0, 144, .inl sl)), (h 4, .inl (k 1, 2, .inl kp)), (h 5, .inl (k 0, 432, .inl sv)), (h 6, .inl (k 0, 60, .inl tx))]) rfl (fun H locs hP hD hS => ?_)
            refine lv_aload_n hx hb dX5_steps_137 rfl (lv_at hl 3 rfl) ?_
            refine va_get (D := D) (ci := 5) (v := .ref (h 1)) (C := RX5) (T := TX5) (N := 10) hx hb hts (fun _ h9 => (List.mem_cons_of_mem _ (List.mem_append_right _ h9))) hown hK hP 0 rfl rfl 1 (by decide) (hts _ (List.mem_of_getElem? (i := 1) rfl)) (fun _ h9 => h9) rfl dX5_steps_138 ?_
            refine lv_bipush (v := 70) hx hb dX5_steps_141 (by decide) ?_
            refine lv_dup2_11 hx hb dX5_steps_143 rfl rfl ?_
            refine ar_ld hx hb hK hP 1 rfl 70 rfl (show vp_in (nI 70) 72 from vp_in_nI (by decide) (by decide)) dX5_steps_144 ?_
            refine tp_e (y := (f 70)) (by rw [up_ne _ _ (show 70 ≠ 45 from by omega), up_ne _ _ (show 70 ≠ 46 + 2 * nw + 1 from by omega), up_ne _ _ (show 70 ≠ 46 + 2 * nw from by omega), rdM_out f _ _ (by omega)]) ?_
            refine lv_iconst (v := 1) hx hb dX5_steps_145 (by decide) ?_
            refine lv_iadd hx hb dX5_steps_146 ?_
            refine ar_st hx hb hK hP hD hS 1 rfl 70 rfl (show vp_in (nI 70) 72 from vp_in_nI (by decide) (by decide)) dX5_steps_147 (wn := [(h 0, .inr (5, [.int th, .ref (h 1), .ref (h 2), .ref (h 3), .ref (h 4), .ref (h 5), .int sm, .ref (h 6), .int ln, .long dg])), (h 1, .inl (k 0, 72, .inl (upd (upd (upd (upd (rdM f (hwM f 511) (wmF f (hwM f 511) 9) 9) (46 + 2 * nw) (wmF f (hwM f 511) 9)) (46 + 2 * nw + 1) (hwM f 511)) 45 (nI (nw + 1))) 70 ((f 70) + 1)))), (h 2, .inl (k 0, 72, .inl asd)), (h 3, .inl (k 0, 144, .inl sl)), (h 4, .inl (k 1, 2, .inl kp)), (h 5, .inl (k 0, 432, .inl sv)), (h 6, .inl (k 0, 60, .inl tx))]) rfl (fun H locs hP hD hS => ?_)
            refine lv_iload_n hx hb dX5_steps_148 rfl (lv_at hl 1 rfl) ?_
            subst hQ
            exact rt_i hx hb hr hlocks hS dX5_steps_149 (by rw [stM, swM, if_neg c_1, if_neg c_3, if_neg c_4]; exact hP) (by rw [stM, swM, if_neg c_1, if_neg c_3, if_neg c_4])
          · have c_5 : ¬ (9 ≤ i) := fun h9 => c_5 ((nI_leI (a := 9) (b := i) (by omega) (by omega)).mpr h9)
            refine lv_aload_n hx hb dX5_steps_56 rfl (lv_at hl 3 rfl) ?_
            refine va_get (D := D) (ci := 5) (v := .ref (h 1)) (C := RX5) (T := TX5) (N := 10) hx hb hts (fun _ h9 => (List.mem_cons_of_mem _ (List.mem_append_right _ h9))) hown hK hP 0 rfl rfl 1 (by decide) (hts _ (List.mem_of_getElem? (i := 1) rfl)) (fun _ h9 => h9) rfl dX5_steps_57 ?_
            refine lv_bipush (v := 9) hx hb dX5_steps_60 (by decide) ?_
            refine lv_iload_n hx hb dX5_steps_62 rfl (lv_at hl 0 rfl) ?_
            refine lv_iadd hx hb dX5_steps_63 ?_
            refine tp_e (y := (nI (9 + i))) (nI_add 9 i) ?_
            refine lv_dup2_11 hx hb dX5_steps_64 rfl rfl ?_
            refine ar_ld hx hb hK hP 1 rfl (9 + i) (nI_clamp (by omega)) (vp_in_nI (by omega) (by omega)) dX5_steps_65 ?_
            refine lv_iload_n hx hb dX5_steps_66 rfl (lv_at hl 2 rfl) ?_
            refine lv_iload_n hx hb dX5_steps_67 rfl (lv_at hl 0 rfl) ?_
            refine lv_ishr hx hb dX5_steps_68 ?_
            refine lv_iconst (v := 1) hx hb dX5_steps_69 (by decide) ?_
            refine lv_iand hx hb dX5_steps_70 ?_
            refine lv_iconst (v := 1) hx hb dX5_steps_71 (by decide) ?_
            refine lv_icmp_ne (tgt := 79) hx hb dX5_steps_72 (by decide) (fun c_6 => ?_) (fun c_6 => ?_)
            · refine lv_iconst (v := 0) hx hb dX5_steps_79 (by decide) ?_
              refine lv_isub hx hb dX5_steps_80 ?_
              refine ar_st hx hb hK hP hD hS 1 rfl (9 + i) (nI_clamp (by omega)) (vp_in_nI (by omega) (by omega)) dX5_steps_81 (wn := [(h 0, .inr (5, [.int th, .ref (h 1), .ref (h 2), .ref (h 3), .ref (h 4), .ref (h 5), .int sm, .ref (h 6), .int ln, .long dg])), (h 1, .inl (k 0, 72, .inl (upd g (9 + i) ((g (9 + i)) - 0)))), (h 2, .inl (k 0, 72, .inl asd)), (h 3, .inl (k 0, 144, .inl sl)), (h 4, .inl (k 1, 2, .inl kp)), (h 5, .inl (k 0, 432, .inl sv)), (h 6, .inl (k 0, 60, .inl tx))]) rfl (fun H locs hP hD hS => ?_)
              refine lv_iinc (v := (nI (i + 1))) (lv' := [(3, .int (nI (i + 1))), (2, .int (wmF f (hwM f 511) 9)), (1, .int (hwM f 511)), (0, .ref (h 0))]) hx hb dX5_steps_82 hl (k := 0) rfl (nI_1 i) (by decide) rfl (fun ls hl => ?_)
              refine lv_goto (tgt := 50) hx hb dX5_steps_85 (by decide) ?_
              exact ih_i (i + 1) (upd g (9 + i) ((g (9 + i)) - 0)) (by omega) (by omega) (by rw [e_g]; exact rdM_s f (hwM f 511) (wmF f (hwM f 511) 9) i _ (by rw [if_neg (show ¬ bitv (hwM f 511) (nI i) = 1 from c_6)]))  _ _ _ hP hD hS (lv_sub hl [0, 1, 2, 3] rfl)
            · refine lv_iload_n hx hb dX5_steps_75 rfl (lv_at hl 1 rfl) ?_
              refine lv_goto (tgt := 80) hx hb dX5_steps_76 (by decide) ?_
              refine lv_isub hx hb dX5_steps_80 ?_
              refine ar_st hx hb hK hP hD hS 1 rfl (9 + i) (nI_clamp (by omega)) (vp_in_nI (by omega) (by omega)) dX5_steps_81 (wn := [(h 0, .inr (5, [.int th, .ref (h 1), .ref (h 2), .ref (h 3), .ref (h 4), .ref (h 5), .int sm, .ref (h 6), .int ln, .long dg])), (h 1, .inl (k 0, 72, .inl (upd g (9 + i) ((g (9 + i)) - (wmF f (hwM f 511) 9))))), (h 2, .inl (k 0, 72, .inl asd)), (h 3, .inl (k 0, 144, .inl sl)), (h 4, .inl (k 1, 2, .inl kp)), (h 5, .inl (k 0, 432, .inl sv)), (h 6, .inl (k 0, 60, .inl tx))]) rfl (fun H locs hP hD hS => ?_)
              refine lv_iinc (v := (nI (i + 1))) (lv' := [(3, .int (nI (i + 1))), (2, .int (wmF f (hwM f 511) 9)), (1, .int (hwM f 511)), (0, .ref (h 0))]) hx hb dX5_steps_82 hl (k := 0) rfl (nI_1 i) (by decide) rfl (fun ls hl => ?_)
              refine lv_goto (tgt := 50) hx hb dX5_steps_85 (by decide) ?_
              exact ih_i (i + 1) (upd g (9 + i) ((g (9 + i)) - (wmF f (hwM f 511) 9))) (by omega) (by omega) (by rw [e_g]; exact rdM_s f (hwM f 511) (wmF f (hwM f 511) 9) i _ (by rw [if_pos (show bitv (hwM f 511) (nI i) = 1 from c_6)]))  _ _ _ hP hD hS (lv_sub hl [0, 1, 2, 3] rfl)
      · refine lv_aload_n hx hb dX5_steps_35 rfl (lv_at hl 2 rfl) ?_
        refine va_get (D := D) (ci := 5) (v := .ref (h 1)) (C := RX5) (T := TX5) (N := 10) hx hb hts (fun _ h9 => (List.mem_cons_of_mem _ (List.mem_append_right _ h9))) hown hK hP 0 rfl rfl 1 (by decide) (hts _ (List.mem_of_getElem? (i := 1) rfl)) (fun _ h9 => h9) rfl dX5_steps_36 ?_
        refine lv_bipush (v := 71) hx hb dX5_steps_39 (by decide) ?_
        refine lv_dup2_11 hx hb dX5_steps_41 rfl rfl ?_
        refine ar_ld hx hb hK hP 1 rfl 71 rfl (show vp_in (nI 71) 72 from vp_in_nI (by decide) (by decide)) dX5_steps_42 ?_
        refine lv_iconst (v := 1) hx hb dX5_steps_43 (by decide) ?_
        refine lv_iadd hx hb dX5_steps_44 ?_
        refine ar_st hx hb hK hP hD hS 1 rfl 71 rfl (show vp_in (nI 71) 72 from vp_in_nI (by decide) (by decide)) dX5_steps_45 (wn := [(h 0, .inr (5, [.int th, .ref (h 1), .ref (h 2), .ref (h 3), .ref (h 4), .ref (h 5), .int sm, .ref (h 6), .int ln, .long dg])), (h 1, .inl (k 0, 72, .inl (upd f 71 ((f 71) + 1)))), (h 2, .inl (k 0, 72, .inl asd)), (h 3, .inl (k 0, 144, .inl sl)), (h 4, .inl (k 1, 2, .inl kp)), (h 5, .inl (k 0, 432, .inl sv)), (h 6, .inl (k 0, 60, .inl tx))]) rfl (fun H locs hP hD hS => ?_)
        refine lv_iconst (v := 0) hx hb dX5_steps_46 (by decide) ?_
        subst hQ
        exact rt_i hx hb hr hlocks hS dX5_steps_47 (by rw [stM, swM, if_neg c_1, if_neg c_3, if_pos c_4]; exact hP) (by rw [stM, swM, if_neg c_1, if_neg c_3, if_pos c_4])
    · have c_3 : nw = 12 := (nI_eq (a := nw) (b := 12) (by omega) (by omega)).mp c_3
      refine lv_iconst (v := 0) hx hb dX5_steps_21 (by decide) ?_
      refine lv_goto (tgt := 30) hx hb dX5_steps_22 (by decide) ?_
      refine lv_istore_n (lv' := [(2, .int 0), (1, .int (hwM f 511)), (0, .ref (h 0))]) hx hb dX5_steps_30 rfl hl (by decide) rfl (fun ls hl => ?_)
      refine lv_iload_n hx hb dX5_steps_31 rfl (lv_at hl 0 rfl) ?_
      refine lv_if_ne (tgt := 48) hx hb dX5_steps_32 (by decide) (fun c_7 => ?_) (fun c_7 => ?_)
      · exact absurd c_7 (by decide)
      · refine lv_aload_n hx hb dX5_steps_35 rfl (lv_at hl 2 rfl) ?_
        refine va_get (D := D) (ci := 5) (v := .ref (h 1)) (C := RX5) (T := TX5) (N := 10) hx hb hts (fun _ h9 => (List.mem_cons_of_mem _ (List.mem_append_right _ h9))) hown hK hP 0 rfl rfl 1 (by decide) (hts _ (List.mem_of_getElem? (i := 1) rfl)) (fun _ h9 => h9) rfl dX5_steps_36 ?_
        refine lv_bipush (v := 71) hx hb dX5_steps_39 (by decide) ?_
        refine lv_dup2_11 hx hb dX5_steps_41 rfl rfl ?_
        refine ar_ld hx hb hK hP 1 rfl 71 rfl (show vp_in (nI 71) 72 from vp_in_nI (by decide) (by decide)) dX5_steps_42 ?_
        refine lv_iconst (v := 1) hx hb dX5_steps_43 (by decide) ?_
        refine lv_iadd hx hb dX5_steps_44 ?_
        refine ar_st hx hb hK hP hD hS 1 rfl 71 rfl (show vp_in (nI 71) 72 from vp_in_nI (by decide) (by decide)) dX5_steps_45 (wn := [(h 0, .inr (5, [.int th, .ref (h 1), .ref (h 2), .ref (h 3), .ref (h 4), .ref (h 5), .int sm, .ref (h 6), .int ln, .long dg])), (h 1, .inl (k 0, 72, .inl (upd f 71 ((f 71) + 1)))), (h 2, .inl (k 0, 72, .inl asd)), (h 3, .inl (k 0, 144, .inl sl)), (h 4, .inl (k 1, 2, .inl kp)), (h 5, .inl (k 0, 432, .inl sv)), (h 6, .inl (k 0, 60, .inl tx))]) rfl (fun H locs hP hD hS => ?_)
        refine lv_iconst (v := 0) hx hb dX5_steps_46 (by decide) ?_
        subst hQ
        exact rt_i hx hb hr hlocks hS dX5_steps_47 (by rw [stM, swM, if_neg c_1, if_pos c_3, if_pos rfl]; exact hP) (by rw [stM, swM, if_neg c_1, if_pos c_3, if_pos rfl])
