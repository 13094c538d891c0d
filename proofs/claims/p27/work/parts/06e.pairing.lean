set_option maxHeartbeats 1000000 in
set_option maxRecDepth 100000 in
theorem c_X0_countByPairing (l : Launch) (D : va_G) (k : Nat → ClassId) (r : Nat → Nat) (bh ah : Nat → Int32) (tr : Int32)  : MI l yX0_countByPairing wsX0_countByPairing ({ frames := 12, cells := 0, slots := 0, locals := 424 }) D k [.ref (r 0)] (wRw k r bh ah tr) ((cpS bh 9).2) (wRw k r bh (cpS bh 9).1 (cpT bh tr 9)) := by
  intro sz
  refine Met.ofW (cc := cX0_countByPairing) (maxL := 3) (ret := (some .int)) (by decide) rfl ?_
  intro p e s m args below meth c s₁ B hml hv
  obtain ⟨rfl, hN, hsz, hP, hK, hD0⟩ := hv
  have hx := B.exec
  have hb := B.bytes
  have hr := B.returns
  have hts := atoms_spec (ws := wsX0_countByPairing) B.pre
  have hown : s.vm.findClass RX0 = some m.cls := findClass_of_methodNamed B.named
  have hlocks := B.notSynchronized
  subst hsz
  have hD := hD0.self (sz := s.heap.size)
  generalize hAe : va_A (wRw k r bh ah tr) s.heap.size = A at hD ⊢
  have hA : ∀ q : Nat, s.heap.size ≤ q → A q := fun q h => by rw [← hAe]; exact Or.inr h
  have hS : va_S A s.heap s.heap [] := va_S.rf
  have hl := lv_entry ([.ref (r 0)]) (n := 3) (Nat.le_of_ble_eq_true rfl)
  rw [lg_entry_eq]
  generalize (lg_sl ([.ref (r 0)]) ++ List.replicate (3 - (lg_sl ([.ref (r 0)])).length) Slot.unset).toArray = ls at hl ⊢
  have hl : lv_has ls 3 [(0, .ref (r 0))] := hl
  obtain ⟨H, hHe⟩ : ∃ H, H = s.heap := ⟨_, rfl⟩
  have hP : va_P D vwCl (wRw k r bh ah tr) H := by rw [hHe]; exact hP
  have hS : va_S A s.heap H [] := by rw [hHe]; exact hS
  rw [← hHe]
  refine absQ (fun Q hQ => ?_)
  refine lv_iconst (v := 0) hx hb dX0_countByPairing_0 (by decide) ?_
  refine lv_istore_n (lv' := [(1, .int 0), (0, .ref (r 0))]) hx hb dX0_countByPairing_1 rfl hl (by decide) rfl (fun ls hl => ?_)
  suffices LOOP_i : ∀ (fu_i i : Nat) (g : Nat → Int32), 9 - i < fu_i → i ≤ 9 → g = fil (fun _ => -1) ah i → ∀ (H : Heap) (locs : List Loc) (ls : Array Slot), va_P D vwCl ([(r 0, .inr (0, [.ref (r 1), .ref (r 2), .int tr])), (r 1, .inl (k 0, 9, .inl bh)), (r 2, .inl (k 0, 9, .inl g))]) H → va_D A ([(r 0, .inr (0, [.ref (r 1), .ref (r 2), .int tr])), (r 1, .inl (k 0, 9, .inl bh)), (r 2, .inl (k 0, 9, .inl g))]) → va_S A s.heap H locs → lv_has ls 3 [(1, .int (nI i)), (0, .ref (r 0))] → W p l e ({ frames := 12, cells := 0, slots := 0, locals := 424 } : Room) s m ([.ref (r 0)] : List Value).toArray below meth c H locs 0 0 Q (F0 m 2 ls []) from LOOP_i (9 + 1) 0 ah (by omega) (by omega) ((fil_0 _ _).symm)  _ _ _ hP hD hS (lv_sub hl [0, 1] rfl)
  clear hP hD hS hl hHe
  intro fu_i
  induction fu_i with
  | zero => intro i g hn_i; omega
  | succ fu_i ih_i =>
    intro i g hn_i hle_i e_g  H locs ls hP hD hS hl
    refine lv_iload_n hx hb dX0_countByPairing_2 rfl (lv_at hl 0 rfl) ?_
    refine lv_bipush (v := 9) hx hb dX0_countByPairing_3 (by decide) ?_
    refine lv_icmp_ge (tgt := 21) hx hb dX0_countByPairing_5 (by decide) (fun c_1 => ?_) (fun c_1 => ?_)
    · have c_1 : 9 ≤ i := (nI_leI (a := 9) (b := i) (by omega) (by omega)).mp c_1
      have hz_i : 9 = i := by omega
      subst hz_i
      subst e_g
      have hP : va_P D vwCl ([(r 0, .inr (0, [.ref (r 1), .ref (r 2), .int tr])), (r 1, .inl (k 0, 9, .inl bh)), (r 2, .inl (k 0, 9, .inl (fun _ => -1)))]) H := va_P.ext hP hD 2 rfl (fun _ => -1) (fil_in _ _ _)
      have hD : va_D A ([(r 0, .inr (0, [.ref (r 1), .ref (r 2), .int tr])), (r 1, .inl (k 0, 9, .inl bh)), (r 2, .inl (k 0, 9, .inl (fun _ => -1)))]) := hD.addr rfl
      refine lv_bipush (v := 9) hx hb dX0_countByPairing_21 (by decide) ?_
      refine lv_istore_n (lv' := [(1, .int 9), (0, .ref (r 0))]) hx hb dX0_countByPairing_23 rfl hl (by decide) rfl (fun ls hl => ?_)
      refine lv_iconst (v := 0) hx hb dX0_countByPairing_24 (by decide) ?_
      refine lv_istore_n (lv' := [(2, .int 0), (1, .int 9), (0, .ref (r 0))]) hx hb dX0_countByPairing_25 rfl hl (by decide) rfl (fun ls hl => ?_)
      suffices LOOP_i2 : ∀ (fu_i2 i2 : Nat) (ah2 : Nat → Int32) (tr2 : Int32) (x : Int32), 9 - i2 < fu_i2 → i2 ≤ 9 → ah2 = (cpS bh i2).1 → tr2 = cpT bh tr i2 → x = (cpS bh i2).2 → ∀ (H : Heap) (locs : List Loc) (ls : Array Slot), va_P D vwCl ([(r 0, .inr (0, [.ref (r 1), .ref (r 2), .int tr2])), (r 1, .inl (k 0, 9, .inl bh)), (r 2, .inl (k 0, 9, .inl ah2))]) H → va_D A ([(r 0, .inr (0, [.ref (r 1), .ref (r 2), .int tr2])), (r 1, .inl (k 0, 9, .inl bh)), (r 2, .inl (k 0, 9, .inl ah2))]) → va_S A s.heap H locs → lv_has ls 3 [(2, .int (nI i2)), (1, .int x), (0, .ref (r 0))] → W p l e ({ frames := 12, cells := 0, slots := 0, locals := 424 } : Room) s m ([.ref (r 0)] : List Value).toArray below meth c H locs 0 0 Q (F0 m 26 ls []) from LOOP_i2 (9 + 1) 0 (fun _ => -1) tr 9 (by omega) (by omega) (rfl) (rfl) (rfl)  _ _ _ hP hD hS (lv_sub hl [0, 1, 2] rfl)
      clear hP hD hS hl
      intro fu_i2
      induction fu_i2 with
      | zero => intro i2 ah2 tr2 x hn_i2; omega
      | succ fu_i2 ih_i2 =>
        intro i2 ah2 tr2 x hn_i2 hle_i2 e_ah2 e_tr2 e_x  H locs ls hP hD hS hl
        subst e_ah2
        subst e_tr2
        subst e_x
        refine lv_iload_n hx hb dX0_countByPairing_26 rfl (lv_at hl 0 rfl) ?_
        refine lv_bipush (v := 9) hx hb dX0_countByPairing_27 (by decide) ?_
        refine lv_icmp_ge (tgt := 55) hx hb dX0_countByPairing_29 (by decide) (fun c_2 => ?_) (fun c_2 => ?_)
        · have c_2 : 9 ≤ i2 := (nI_leI (a := 9) (b := i2) (by omega) (by omega)).mp c_2
          have hz_i2 : 9 = i2 := by omega
          subst hz_i2
          refine lv_iload_n hx hb dX0_countByPairing_55 rfl (lv_at hl 1 rfl) ?_
          subst hQ
          exact rt_i hx hb hr hlocks hS dX0_countByPairing_56 (hP) (rfl)
        · have c_2 : ¬ (9 ≤ i2) := fun h9 => c_2 ((nI_leI (a := 9) (b := i2) (by omega) (by omega)).mpr h9)
          refine lv_aload_n hx hb dX0_countByPairing_32 rfl (lv_at hl 2 rfl) ?_
          refine lv_iconst (v := 0) hx hb dX0_countByPairing_33 (by decide) ?_
          refine va_put (D := D) (ci := 0) (v := .int 0) (ty := tyX0 2) (C := RX0) (T := TX0) (N := 3) hx hb hts (fun _ h9 => (List.mem_cons_of_mem _ (List.mem_append_right _ h9))) tyX0 tyX0_ok nmX0 hown hK hP hD hS 0 rfl rfl 2 (by decide) (hts _ (List.mem_of_getElem? (i := 2) rfl)) (fun _ h9 => h9) rfl (tyX0_ok 2 (by decide)) rfl rfl (Nat.le_of_ble_eq_true rfl) dX0_countByPairing_34 (fun H locs hP hD hS => ?_)
          have hP : va_P D vwCl ([(r 0, .inr (0, [.ref (r 1), .ref (r 2), .int 0])), (r 1, .inl (k 0, 9, .inl bh)), (r 2, .inl (k 0, 9, .inl ((cpS bh i2).1)))]) H := hP
          have hD : va_D A ([(r 0, .inr (0, [.ref (r 1), .ref (r 2), .int 0])), (r 1, .inl (k 0, 9, .inl bh)), (r 2, .inl (k 0, 9, .inl ((cpS bh i2).1)))]) := hD
          refine lv_aload_n hx hb dX0_countByPairing_37 rfl (lv_at hl 2 rfl) ?_
          refine lv_iload_n hx hb dX0_countByPairing_38 rfl (lv_at hl 0 rfl) ?_
          refine lv_iconst (v := 0) hx hb dX0_countByPairing_39 (by decide) ?_
          have hPc : va_P D vwCl (wRw k r bh (cpS bh i2).1 0) H := hP.sub [0, 1, 2] rfl
          have hDc : va_D A (wRw k r bh (cpS bh i2).1 0) := hD.sub [0, 1, 2] (by decide +kernel) rfl
          refine cl_i (va_runS (As := [.ref (r 0), .int (nI i2), .int 0]) (rest := []) ⟨hx, hb, hml, hown, hts⟩ (c_X0_findPartner l D k r bh 9 i2 0 0 (cpS bh i2).1 (by omega) (by omega) (cpS_ok bh i2 (by omega)) H.size) (va_cwS 3 hts gX0_countByPairing_X0_findPartner rfl rfl rfl (by decide +kernel) ⟨Nat.le_of_ble_eq_true rfl, Nat.le_of_ble_eq_true rfl⟩) ⟨pr_blind, pr_at hN hPc hK hDc⟩ rfl rfl hl.1 rfl (lv_room (Nat.le_of_ble_eq_true rfl)) dX0_countByPairing_40 ⟨Nat.le_of_ble_eq_true rfl, Nat.le_of_ble_eq_true rfl⟩) hP hD hS hA [0, 1, 2] [] ([]) [r 0, r 1, r 2] 3 rfl (wn := [(r 0, .inr (0, [.ref (r 1), .ref (r 2), .int ((fpF bh 9 i2 (cpS bh i2).1 0).2.2)])), (r 1, .inl (k 0, 9, .inl bh)), (r 2, .inl (k 0, 9, .inl ((fpF bh 9 i2 (cpS bh i2).1 0).2.1)))]) rfl rfl rfl rfl (by decide +kernel) rfl rfl (fun H locs hP hD hS => ?_)
          clear hPc hDc
          refine lv_if_eq (tgt := 49) hx hb dX0_countByPairing_43 (by decide) (fun c_3 => ?_) (fun c_3 => ?_)
          · have c_3 := bI_eq.mp c_3
            refine lv_iinc (v := (nI (i2 + 1))) (lv' := [(2, .int (nI (i2 + 1))), (1, .int ((cpS bh i2).2)), (0, .ref (r 0))]) hx hb dX0_countByPairing_49 hl (k := 0) rfl (nI_1 i2) (by decide) rfl (fun ls hl => ?_)
            refine lv_goto (tgt := 26) hx hb dX0_countByPairing_52 (by decide) ?_
            exact ih_i2 (i2 + 1) ((fpF bh 9 i2 (cpS bh i2).1 0).2.1) ((fpF bh 9 i2 (cpS bh i2).1 0).2.2) ((cpS bh i2).2) (by omega) (by omega) (by rw [cpS]) (by rw [cpT]) (by rw [cpS]; simp [c_3])  _ _ _ hP hD hS (lv_sub hl [0, 1, 2] rfl)
          · have c_3 := bI_ne.mp c_3
            refine lv_iinc (v := ((cpS bh i2).2) + (-1)) (lv' := [(1, .int (((cpS bh i2).2) + (-1))), (2, .int (nI i2)), (0, .ref (r 0))]) hx hb dX0_countByPairing_46 hl (k := 1) rfl rfl (by decide) rfl (fun ls hl => ?_)
            refine lv_iinc (v := (nI (i2 + 1))) (lv' := [(2, .int (nI (i2 + 1))), (1, .int (((cpS bh i2).2) + (-1))), (0, .ref (r 0))]) hx hb dX0_countByPairing_49 hl (k := 1) rfl (nI_1 i2) (by decide) rfl (fun ls hl => ?_)
            refine lv_goto (tgt := 26) hx hb dX0_countByPairing_52 (by decide) ?_
            exact ih_i2 (i2 + 1) ((fpF bh 9 i2 (cpS bh i2).1 0).2.1) ((fpF bh 9 i2 (cpS bh i2).1 0).2.2) (((cpS bh i2).2) + (-1)) (by omega) (by omega) (by rw [cpS]) (by rw [cpT]) (by rw [cpS]; simp [c_3])  _ _ _ hP hD hS (lv_sub hl [0, 1, 2] rfl)
    · have c_1 : ¬ (9 ≤ i) := fun h9 => c_1 ((nI_leI (a := 9) (b := i) (by omega) (by omega)).mpr h9)
      refine lv_aload_n hx hb dX0_countByPairing_8 rfl (lv_at hl 1 rfl) ?_
      refine va_get (D := D) (ci := 0) (v := .ref (r 2)) (C := RX0) (T := TX0) (N := 3) hx hb hts (fun _ h9 => (List.mem_cons_of_mem _ (List.mem_append_right _ h9))) hown hK hP 0 rfl rfl 1 (by decide) (hts _ (List.mem_of_getElem? (i := 1) rfl)) (fun _ h9 => h9) rfl dX0_countByPairing_9 ?_
      refine lv_iload_n hx hb dX0_countByPairing_12 rfl (lv_at hl 0 rfl) ?_
      refine lv_iconst (v := (-1)) hx hb dX0_countByPairing_13 (by decide) ?_
      refine ar_st hx hb hK hP hD hS 2 rfl i (nI_clamp (by omega)) (vp_in_nI (by omega) (by omega)) dX0_countByPairing_14 (wn := [(r 0, .inr (0, [.ref (r 1), .ref (r 2), .int tr])), (r 1, .inl (k 0, 9, .inl bh)), (r 2, .inl (k 0, 9, .inl (upd g i (-1))))]) rfl (fun H locs hP hD hS => ?_)
      refine lv_iinc (v := (nI (i + 1))) (lv' := [(1, .int (nI (i + 1))), (0, .ref (r 0))]) hx hb dX0_countByPairing_15 hl (k := 0) rfl (nI_1 i) (by decide) rfl (fun ls hl => ?_)
      refine lv_goto (tgt := 2) hx hb dX0_countByPairing_18 (by decide) ?_
      exact ih_i (i + 1) (upd g i (-1)) (by omega) (by omega) (by rw [e_g]; exact fil_s (fun _ => -1) ah i)  _ _ _ hP hD hS (lv_sub hl [0, 1] rfl)
