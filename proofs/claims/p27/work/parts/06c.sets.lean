set_option maxHeartbeats 1000000 in
set_option maxRecDepth 100000 in
theorem c_X0_countBySets (l : Launch) (D : va_G) (k : Nat → ClassId) (r : Nat → Nat) (bh ah : Nat → Int32) (tr : Int32)  : MI l yX0_countBySets wsX0_countBySets ({ frames := 2, cells := 0, slots := 0, locals := 43 }) D k [.ref (r 0)] (wRw k r bh ah tr) (cbT bh 511) (wRw k r bh ah tr) := by
  intro sz
  refine Met.ofW (cc := cX0_countBySets) (maxL := 4) (ret := (some .int)) (by decide) rfl ?_
  intro p e s m args below meth c s₁ B hml hv
  obtain ⟨rfl, hN, hsz, hP, hK, hD0⟩ := hv
  have hx := B.exec
  have hb := B.bytes
  have hr := B.returns
  have hts := atoms_spec (ws := wsX0_countBySets) B.pre
  have hown : s.vm.findClass RX0 = some m.cls := findClass_of_methodNamed B.named
  have hlocks := B.notSynchronized
  subst hsz
  have hD := hD0.self (sz := s.heap.size)
  generalize hAe : va_A (wRw k r bh ah tr) s.heap.size = A at hD ⊢
  have hA : ∀ q : Nat, s.heap.size ≤ q → A q := fun q h => by rw [← hAe]; exact Or.inr h
  have hS : va_S A s.heap s.heap [] := va_S.rf
  have hl := lv_entry ([.ref (r 0)]) (n := 4) (Nat.le_of_ble_eq_true rfl)
  rw [lg_entry_eq]
  generalize (lg_sl ([.ref (r 0)]) ++ List.replicate (4 - (lg_sl ([.ref (r 0)])).length) Slot.unset).toArray = ls at hl ⊢
  have hl : lv_has ls 4 [(0, .ref (r 0))] := hl
  obtain ⟨H, hHe⟩ : ∃ H, H = s.heap := ⟨_, rfl⟩
  have hP : va_P D vwCl (wRw k r bh ah tr) H := by rw [hHe]; exact hP
  have hS : va_S A s.heap H [] := by rw [hHe]; exact hS
  rw [← hHe]
  refine absQ (fun Q hQ => ?_)
  refine lv_iconst (v := 0) hx hb dX0_countBySets_0 (by decide) ?_
  refine lv_istore_n (lv' := [(1, .int 0), (0, .ref (r 0))]) hx hb dX0_countBySets_1 rfl hl (by decide) rfl (fun ls hl => ?_)
  refine lv_iconst (v := 1) hx hb dX0_countBySets_2 (by decide) ?_
  refine lv_istore_n (lv' := [(2, .int 1), (1, .int 0), (0, .ref (r 0))]) hx hb dX0_countBySets_3 rfl hl (by decide) rfl (fun ls hl => ?_)
  suffices LOOP_i : ∀ (fu_i i : Nat) (x : Int32), 512 - i < fu_i → i ≤ 512 → x = cbT bh (i - 1) → 1 ≤ i → ∀ (H : Heap) (locs : List Loc) (ls : Array Slot), va_P D vwCl (wRw k r bh ah tr) H → va_D A (wRw k r bh ah tr) → va_S A s.heap H locs → lv_has ls 4 [(2, .int (nI i)), (1, .int x), (0, .ref (r 0))] → W p l e ({ frames := 2, cells := 0, slots := 0, locals := 43 } : Room) s m ([.ref (r 0)] : List Value).toArray below meth c H locs 0 0 Q (F0 m 4 ls []) from LOOP_i (512 + 1) 1 0 (by omega) (by omega) (rfl) (by omega) _ _ _ hP hD hS (lv_sub hl [0, 1, 2] rfl)
  clear hP hD hS hl hHe
  intro fu_i
  induction fu_i with
  | zero => intro i x hn_i; omega
  | succ fu_i ih_i =>
    intro i x hn_i hle_i e_x hlo_i H locs ls hP hD hS hl
    subst e_x
    refine lv_iload_n hx hb dX0_countBySets_4 rfl (lv_at hl 0 rfl) ?_
    refine lv_sipush (v := 512) hx hb dX0_countBySets_5 (by decide) ?_
    refine lv_icmp_ge (tgt := 37) hx hb dX0_countBySets_8 (by decide) (fun c_1 => ?_) (fun c_1 => ?_)
    · have c_1 : 512 ≤ i := (nI_leI (a := 512) (b := i) (by omega) (by omega)).mp c_1
      have hz_i : 512 = i := by omega
      subst hz_i
      refine lv_iload_n hx hb dX0_countBySets_37 rfl (lv_at hl 1 rfl) ?_
      subst hQ
      exact rt_i hx hb hr hlocks hS dX0_countBySets_38 (hP) (rfl)
    · have c_1 : ¬ (512 ≤ i) := fun h9 => c_1 ((nI_leI (a := 512) (b := i) (by omega) (by omega)).mpr h9)
      refine lv_iload_n hx hb dX0_countBySets_11 rfl (lv_at hl 0 rfl) ?_
      have hPc : va_P D vwCl ([]) H := hP.sub [] rfl
      have hDc : va_D A ([]) := hD.sub [] (by decide +kernel) rfl
      refine cl_i0 (va_runS (As := [.int (nI i)]) (rest := []) ⟨hx, hb, hml, hown, hts⟩ (c_J6_bitCount l D k (nI i) H.size) (va_cwS 1 hts gX0_countBySets_J6_bitCount_0f7a4 rfl rfl rfl (by decide +kernel) ⟨Nat.le_of_ble_eq_true rfl, Nat.le_of_ble_eq_true rfl⟩) ⟨pr_blind, pr_at hN hPc hK hDc⟩ rfl rfl hl.1 rfl (lv_room (Nat.le_of_ble_eq_true rfl)) dX0_countBySets_12 ⟨Nat.le_of_ble_eq_true rfl, Nat.le_of_ble_eq_true rfl⟩) hP hD hS hA [] rfl (fun H locs hP hD hS => ?_)
      clear hPc hDc
      refine lv_istore_n (lv' := [(3, .int (bcF (nI i))), (2, .int (nI i)), (1, .int (cbT bh (i - 1))), (0, .ref (r 0))]) hx hb dX0_countBySets_15 rfl hl (by decide) rfl (fun ls hl => ?_)
      refine lv_iload_n hx hb dX0_countBySets_16 rfl (lv_at hl 0 rfl) ?_
      refine lv_iload_n hx hb dX0_countBySets_17 rfl (lv_at hl 2 rfl) ?_
      refine lv_icmp_le (tgt := 31) hx hb dX0_countBySets_18 (by decide) (fun c_2 => ?_) (fun c_2 => ?_)
      · refine lv_iinc (v := (nI (i + 1))) (lv' := [(2, .int (nI (i + 1))), (3, .int (bcF (nI i))), (1, .int (cbT bh (i - 1))), (0, .ref (r 0))]) hx hb dX0_countBySets_31 hl (k := 1) rfl (nI_1 i) (by decide) rfl (fun ls hl => ?_)
        refine lv_goto (tgt := 4) hx hb dX0_countBySets_34 (by decide) ?_
        exact ih_i (i + 1) (cbT bh (i - 1)) (by omega) (by omega) (by rw [cbT_s bh (show 1 ≤ i from by omega)]; simp [c_2]) (by omega) _ _ _ hP hD hS (lv_sub hl [0, 2, 3] rfl)
      · refine lv_aload_n hx hb dX0_countBySets_21 rfl (lv_at hl 3 rfl) ?_
        refine lv_iload_n hx hb dX0_countBySets_22 rfl (lv_at hl 1 rfl) ?_
        have hPc : va_P D vwCl (wRw k r bh ah tr) H := hP.sub [0, 1, 2] rfl
        have hDc : va_D A (wRw k r bh ah tr) := hD.sub [0, 1, 2] (by decide +kernel) rfl
        refine cl_i0 (va_runV (As := [.int (nI i)]) (rest := []) ⟨hx, hb, hml, hown, hts⟩ (c_X0_hasNoneBehind l D k r bh ah tr (nI i) H.size) (cwV 1 hts gX0_countBySets_X0_hasNoneBehind rfl rfl rfl (by decide +kernel) ⟨Nat.le_of_ble_eq_true rfl, Nat.le_of_ble_eq_true rfl⟩) ⟨pr_blind, va_recv hK hP (ci := 0) (q0 := 0) rfl rfl, pr_at hN hPc hK hDc⟩ rfl rfl hl.1 rfl (lv_room (Nat.le_of_ble_eq_true rfl)) dX0_countBySets_23 ⟨Nat.le_of_ble_eq_true rfl, Nat.le_of_ble_eq_true rfl⟩) hP hD hS hA [0, 1, 2] rfl (fun H locs hP hD hS => ?_)
        clear hPc hDc
        refine lv_if_eq (tgt := 31) hx hb dX0_countBySets_26 (by decide) (fun c_3 => ?_) (fun c_3 => ?_)
        · have c_3 := bI_eq.mp c_3
          refine lv_iinc (v := (nI (i + 1))) (lv' := [(2, .int (nI (i + 1))), (3, .int (bcF (nI i))), (1, .int (cbT bh (i - 1))), (0, .ref (r 0))]) hx hb dX0_countBySets_31 hl (k := 1) rfl (nI_1 i) (by decide) rfl (fun ls hl => ?_)
          refine lv_goto (tgt := 4) hx hb dX0_countBySets_34 (by decide) ?_
          exact ih_i (i + 1) (cbT bh (i - 1)) (by omega) (by omega) (by rw [cbT_s bh (show 1 ≤ i from by omega)]; simp [c_2, c_3]) (by omega) _ _ _ hP hD hS (lv_sub hl [0, 2, 3] rfl)
        · have c_3 := bI_ne.mp c_3
          refine lv_iload_n hx hb dX0_countBySets_29 rfl (lv_at hl 0 rfl) ?_
          refine lv_istore_n (lv' := [(1, .int (bcF (nI i))), (3, .int (bcF (nI i))), (2, .int (nI i)), (0, .ref (r 0))]) hx hb dX0_countBySets_30 rfl hl (by decide) rfl (fun ls hl => ?_)
          refine lv_iinc (v := (nI (i + 1))) (lv' := [(2, .int (nI (i + 1))), (1, .int (bcF (nI i))), (3, .int (bcF (nI i))), (0, .ref (r 0))]) hx hb dX0_countBySets_31 hl (k := 2) rfl (nI_1 i) (by decide) rfl (fun ls hl => ?_)
          refine lv_goto (tgt := 4) hx hb dX0_countBySets_34 (by decide) ?_
          exact ih_i (i + 1) (bcF (nI i)) (by omega) (by omega) (by rw [cbT_s bh (show 1 ≤ i from by omega)]; simp [c_2, c_3]) (by omega) _ _ _ hP hD hS (lv_sub hl [0, 1, 3] rfl)
