set_option maxHeartbeats 1000000 in
set_option maxRecDepth 100000 in
theorem c_X4_mainPiece (l : Launch) (D : va_G) (k : Nat → ClassId) (d : Nat → Nat → Nat) (ns : Int32) (S : Nat → Nat → Int32) (V : Nat → Nat → Int32) (al op wf bh ah : Nat → Int32) (tr : Int32)   : MI l yX4_mainPiece wsX4_mainPiece ({ frames := 13, cells := 0, slots := 0, locals := 447 }) D k [.ref (d 0 0)] (wXo d ns ++ (wSt k (d 1) S ++ (wWays k (d 8) (d 9) V al op wf ++ (wRw k (d 10) bh ah tr)))) ((mpF (apL (lsO V S op) 0 (opnL (lsS V S))) (opnL (lsS V S)).length 9).1) (wXo d ns ++ (wSt k (d 1) S ++ (wWays k (d 8) (d 9) (lsS V S) (lsA V S al) (lsO V S op) wf ++ wRw k (d 10) bh ah tr))) := by
  intro sz
  refine Met.ofW (cc := cX4_mainPiece) (maxL := 5) (ret := (some .int)) (by decide) rfl ?_
  intro p e s m args below meth c s₁ B hml hv
  obtain ⟨rfl, hN, hsz, hP, hK, hD0⟩ := hv
  have hx := B.exec
  have hb := B.bytes
  have hr := B.returns
  have hts := atoms_spec (ws := wsX4_mainPiece) B.pre
  have hown : s.vm.findClass RX4 = some m.cls := findClass_of_methodNamed B.named
  have hlocks := B.notSynchronized
  subst hsz
  have hD := hD0.self (sz := s.heap.size)
  generalize hAe : va_A (wXo d ns ++ (wSt k (d 1) S ++ (wWays k (d 8) (d 9) V al op wf ++ (wRw k (d 10) bh ah tr)))) s.heap.size = A at hD ⊢
  have hA : ∀ q : Nat, s.heap.size ≤ q → A q := fun q h => by rw [← hAe]; exact Or.inr h
  have hS : va_S A s.heap s.heap [] := va_S.rf
  have hl := lv_entry ([.ref (d 0 0)]) (n := 5) (Nat.le_of_ble_eq_true rfl)
  rw [lg_entry_eq]
  generalize (lg_sl ([.ref (d 0 0)]) ++ List.replicate (5 - (lg_sl ([.ref (d 0 0)])).length) Slot.unset).toArray = ls at hl ⊢
  have hl : lv_has ls 5 [(0, .ref (d 0 0))] := hl
  obtain ⟨H, hHe⟩ : ∃ H, H = s.heap := ⟨_, rfl⟩
  have hP : va_P D vwCl (wXo d ns ++ (wSt k (d 1) S ++ (wWays k (d 8) (d 9) V al op wf ++ (wRw k (d 10) bh ah tr)))) H := by rw [hHe]; exact hP
  have hS : va_S A s.heap H [] := by rw [hHe]; exact hS
  rw [← hHe]
  refine absQ (fun Q hQ => ?_)
  refine lv_aload_n hx hb dX4_mainPiece_0 rfl (lv_at hl 0 rfl) ?_
  refine va_get (D := D) (ci := 4) (v := .ref (d 8 0)) (C := RX4) (T := TX4) (N := 9) hx hb hts (fun _ h9 => (List.mem_cons_of_mem _ (List.mem_append_left _ (List.mem_append_left _ (List.mem_append_right _ h9))))) hown hK hP 0 rfl rfl 7 (by decide) (hts _ (List.mem_of_getElem? (i := 1) rfl)) (fun _ h9 => h9) rfl dX4_mainPiece_1 ?_
  refine lv_aload_n hx hb dX4_mainPiece_4 rfl (lv_at hl 0 rfl) ?_
  refine va_get (D := D) (ci := 4) (v := .ref (d 1 0)) (C := RX4) (T := TX4) (N := 9) hx hb hts (fun _ h9 => (List.mem_cons_of_mem _ (List.mem_append_left _ (List.mem_append_left _ (List.mem_append_right _ h9))))) hown hK hP 0 rfl rfl 0 (by decide) (hts _ (List.mem_of_getElem? (i := 2) rfl)) (fun _ h9 => h9) rfl dX4_mainPiece_5 ?_
  have hPc : va_P D vwCl (wWays k (d 8) (d 9) V al op wf ++ wSt k (d 1) S) H := hP.sub [9, 10, 11, 12, 13, 14, 15, 16, 17, 18, 19, 20, 1, 2, 3, 4, 5, 6, 7, 8] rfl
  have hDc : va_D A (wWays k (d 8) (d 9) V al op wf ++ wSt k (d 1) S) := hD.sub [9, 10, 11, 12, 13, 14, 15, 16, 17, 18, 19, 20, 1, 2, 3, 4, 5, 6, 7, 8] (by decide +kernel) rfl
  refine cl_v (va_runV (As := [.ref (d 1 0)]) (rest := []) ⟨hx, hb, hml, hown, hts⟩ (c_X3_list l D k (d 8) (d 9) (d 1) V S al op wf H.size) (cwV 1 hts gX4_mainPiece_X3_list rfl rfl rfl (by decide +kernel) ⟨Nat.le_of_ble_eq_true rfl, Nat.le_of_ble_eq_true rfl⟩) ⟨pr_blind, va_recv hK hP (ci := 3) (q0 := 9) rfl rfl, pr_at hN hPc hK hDc⟩ rfl rfl hl.1 rfl (lv_room (Nat.le_of_ble_eq_true rfl)) dX4_mainPiece_8 ⟨Nat.le_of_ble_eq_true rfl, Nat.le_of_ble_eq_true rfl⟩) hP hD hS hA [9, 10, 11, 12, 13, 14, 15, 16, 17, 18, 19, 20, 1, 2, 3, 4, 5, 6, 7, 8] [0, 21, 22, 23] ((wXo d ns) ++ (wRw k (d 10) bh ah tr)) [d 0 0, (d 1) 0, (d 1) 1, (d 1) 2, (d 1) 3, (d 1) 4, (d 1) 5, (d 1) 6, (d 1) 7, (d 8) 0, (d 8) 1, (d 8) 2, (d 8) 3, (d 9) 0, (d 9) 1, (d 9) 2, (d 9) 3, (d 9) 4, (d 9) 5, (d 9) 6, (d 9) 7, (d 10) 0, (d 10) 1, (d 10) 2] 24 rfl (wn := (wXo d ns ++ (wSt k (d 1) S ++ (wWays k (d 8) (d 9) (lsS V S) (lsA V S al) (lsO V S op) wf ++ (wRw k (d 10) bh ah tr))))) rfl rfl rfl rfl (by decide +kernel) rfl rfl (fun H locs hP hD hS => ?_)
  clear hPc hDc
  refine lv_iconst (v := (-1)) hx hb dX4_mainPiece_11 (by decide) ?_
  refine lv_istore_n (lv' := [(1, .int (-1)), (0, .ref (d 0 0))]) hx hb dX4_mainPiece_12 rfl hl (by decide) rfl (fun ls hl => ?_)
  refine lv_iconst (v := 0) hx hb dX4_mainPiece_13 (by decide) ?_
  refine lv_istore_n (lv' := [(2, .int 0), (1, .int (-1)), (0, .ref (d 0 0))]) hx hb dX4_mainPiece_14 rfl hl (by decide) rfl (fun ls hl => ?_)
  refine lv_iconst (v := 0) hx hb dX4_mainPiece_15 (by decide) ?_
  refine lv_istore_n (lv' := [(3, .int 0), (2, .int 0), (1, .int (-1)), (0, .ref (d 0 0))]) hx hb dX4_mainPiece_16 rfl hl (by decide) rfl (fun ls hl => ?_)
  suffices LOOP_i : ∀ (fu_i i : Nat) (y1 : Int32) (y2 : Int32), 9 - i < fu_i → i ≤ 9 → y1 = (mpF (apL (lsO V S op) 0 (opnL (lsS V S))) (opnL (lsS V S)).length i).1 → y2 = (mpF (apL (lsO V S op) 0 (opnL (lsS V S))) (opnL (lsS V S)).length i).2 → ∀ (H : Heap) (locs : List Loc) (ls : Array Slot), va_P D vwCl (wXo d ns ++ (wSt k (d 1) S ++ (wWays k (d 8) (d 9) (lsS V S) (lsA V S al) (lsO V S op) wf ++ (wRw k (d 10) bh ah tr)))) H → va_D A (wXo d ns ++ (wSt k (d 1) S ++ (wWays k (d 8) (d 9) (lsS V S) (lsA V S al) (lsO V S op) wf ++ (wRw k (d 10) bh ah tr)))) → va_S A s.heap H locs → lv_has ls 5 [(3, .int (nI i)), (2, .int y2), (1, .int y1), (0, .ref (d 0 0))] → W p l e ({ frames := 13, cells := 0, slots := 0, locals := 447 } : Room) s m ([.ref (d 0 0)] : List Value).toArray below meth c H locs 0 0 Q (F0 m 17 ls []) from LOOP_i (9 + 1) 0 (-1) 0 (by omega) (by omega) (rfl) (rfl)  _ _ _ hP hD hS (lv_sub hl [0, 1, 2, 3] rfl)
  clear hP hD hS hl hHe
  intro fu_i
  induction fu_i with
  | zero => intro i y1 y2 hn_i; omega
  | succ fu_i ih_i =>
    intro i y1 y2 hn_i hle_i e_y1 e_y2  H locs ls hP hD hS hl
    refine lv_iload_n hx hb dX4_mainPiece_17 rfl (lv_at hl 0 rfl) ?_
    refine lv_bipush (v := 9) hx hb dX4_mainPiece_18 (by decide) ?_
    refine lv_icmp_ge (tgt := 60) hx hb dX4_mainPiece_20 (by decide) (fun c_1 => ?_) (fun c_1 => ?_)
    · have c_1 : 9 ≤ i := (nI_leI (a := 9) (b := i) (by omega) (by omega)).mp c_1
      have hz_i : 9 = i := by omega
      subst hz_i
      refine lv_iload_n hx hb dX4_mainPiece_60 rfl (lv_at hl 2 rfl) ?_
      subst hQ
      exact rt_i hx hb hr hlocks hS dX4_mainPiece_61 (hP) (e_y1)
    · have c_1 : ¬ (9 ≤ i) := fun h9 => c_1 ((nI_leI (a := 9) (b := i) (by omega) (by omega)).mpr h9)
      refine lv_aload_n hx hb dX4_mainPiece_23 rfl (lv_at hl 3 rfl) ?_
      refine va_get (D := D) (ci := 4) (v := .ref (d 8 0)) (C := RX4) (T := TX4) (N := 9) hx hb hts (fun _ h9 => (List.mem_cons_of_mem _ (List.mem_append_left _ (List.mem_append_left _ (List.mem_append_right _ h9))))) hown hK hP 0 rfl rfl 7 (by decide) (hts _ (List.mem_of_getElem? (i := 1) rfl)) (fun _ h9 => h9) rfl dX4_mainPiece_24 ?_
      refine va_get (D := D) (ci := 3) (v := .ref (d 8 2)) (C := RX3) (T := TX3) (N := 6) hx hb hts (fun _ h9 => (List.mem_cons_of_mem _ (List.mem_append_left _ (List.mem_append_right _ h9)))) hown hK hP 9 rfl rfl 1 (by decide) (hts _ (List.mem_of_getElem? (i := 3) rfl)) (fun _ h9 => h9) rfl dX4_mainPiece_27 ?_
      refine lv_aload_n hx hb dX4_mainPiece_30 rfl (lv_at hl 3 rfl) ?_
      refine va_get (D := D) (ci := 4) (v := .ref (d 8 0)) (C := RX4) (T := TX4) (N := 9) hx hb hts (fun _ h9 => (List.mem_cons_of_mem _ (List.mem_append_left _ (List.mem_append_left _ (List.mem_append_right _ h9))))) hown hK hP 0 rfl rfl 7 (by decide) (hts _ (List.mem_of_getElem? (i := 1) rfl)) (fun _ h9 => h9) rfl dX4_mainPiece_31 ?_
      refine va_get (D := D) (ci := 3) (v := .int (nI ((opnL (lsS V S)).length))) (C := RX3) (T := TX3) (N := 6) hx hb hts (fun _ h9 => (List.mem_cons_of_mem _ (List.mem_append_left _ (List.mem_append_right _ h9)))) hown hK hP 9 rfl rfl 3 (by decide) (hts _ (List.mem_of_getElem? (i := 4) rfl)) (fun _ h9 => h9) rfl dX4_mainPiece_34 ?_
      refine lv_iload_n hx hb dX4_mainPiece_37 rfl (lv_at hl 0 rfl) ?_
      have hln1 := allL_len (lsS V S)
      have hln2 := opnL_len (lsS V S)
      have hPc : va_P D vwCl ([((d 8) 2, .inl (k 0, 512, .inl (apL (lsO V S op) 0 (opnL (lsS V S)))))]) H := hP.sub [11] rfl
      have hDc : va_D A ([((d 8) 2, .inl (k 0, 512, .inl (apL (lsO V S op) 0 (opnL (lsS V S)))))]) := hD.sub [11] (by decide +kernel) rfl
      refine cl_i0 (va_runS (As := [.ref (d 8 2), .int (nI ((opnL (lsS V S)).length)), .int (nI i)]) (rest := []) ⟨hx, hb, hml, hown, hts⟩ (c_X4_countWith l D k (d 8 2) (apL (lsO V S op) 0 (opnL (lsS V S))) ((opnL (lsS V S)).length) (nI i) (by omega) H.size) (va_cwS 3 hts gX4_mainPiece_X4_countWith rfl rfl rfl (by decide +kernel) ⟨Nat.le_of_ble_eq_true rfl, Nat.le_of_ble_eq_true rfl⟩) ⟨pr_blind, pr_at hN hPc hK hDc⟩ rfl rfl hl.1 rfl (lv_room (Nat.le_of_ble_eq_true rfl)) dX4_mainPiece_38 ⟨Nat.le_of_ble_eq_true rfl, Nat.le_of_ble_eq_true rfl⟩) hP hD hS hA [11] rfl (fun H locs hP hD hS => ?_)
      clear hPc hDc
      refine lv_istore (lv' := [(4, .int (cjtF (apL (lsO V S op) 0 (opnL (lsS V S))) (nI i) ((opnL (lsS V S)).length))), (3, .int (nI i)), (2, .int y2), (1, .int y1), (0, .ref (d 0 0))]) hx hb dX4_mainPiece_41 hl (by decide) rfl (fun ls hl => ?_)
      refine lv_iload hx hb dX4_mainPiece_43 (lv_at hl 0 rfl) ?_
      refine lv_iload_n hx hb dX4_mainPiece_45 rfl (lv_at hl 2 rfl) ?_
      refine lv_icmp_le (tgt := 54) hx hb dX4_mainPiece_46 (by decide) (fun c_2 => ?_) (fun c_2 => ?_)
      · refine lv_iinc (v := (nI (i + 1))) (lv' := [(3, .int (nI (i + 1))), (4, .int (cjtF (apL (lsO V S op) 0 (opnL (lsS V S))) (nI i) ((opnL (lsS V S)).length))), (2, .int y2), (1, .int y1), (0, .ref (d 0 0))]) hx hb dX4_mainPiece_54 hl (k := 1) rfl (nI_1 i) (by decide) rfl (fun ls hl => ?_)
        refine lv_goto (tgt := 17) hx hb dX4_mainPiece_57 (by decide) ?_
        exact ih_i (i + 1) y1 y2 (by omega) (by omega) (by rw [mpF, if_pos (by rw [← e_y2]; exact c_2)]; exact e_y1) (by rw [mpF, if_pos (by rw [← e_y2]; exact c_2)]; exact e_y2)  _ _ _ hP hD hS (lv_sub hl [0, 2, 3, 4] rfl)
      · refine lv_iload hx hb dX4_mainPiece_49 (lv_at hl 0 rfl) ?_
        refine lv_istore_n (lv' := [(2, .int (cjtF (apL (lsO V S op) 0 (opnL (lsS V S))) (nI i) ((opnL (lsS V S)).length))), (4, .int (cjtF (apL (lsO V S op) 0 (opnL (lsS V S))) (nI i) ((opnL (lsS V S)).length))), (3, .int (nI i)), (1, .int y1), (0, .ref (d 0 0))]) hx hb dX4_mainPiece_51 rfl hl (by decide) rfl (fun ls hl => ?_)
        refine lv_iload_n hx hb dX4_mainPiece_52 rfl (lv_at hl 2 rfl) ?_
        refine lv_istore_n (lv' := [(1, .int (nI i)), (2, .int (cjtF (apL (lsO V S op) 0 (opnL (lsS V S))) (nI i) ((opnL (lsS V S)).length))), (4, .int (cjtF (apL (lsO V S op) 0 (opnL (lsS V S))) (nI i) ((opnL (lsS V S)).length))), (3, .int (nI i)), (0, .ref (d 0 0))]) hx hb dX4_mainPiece_53 rfl hl (by decide) rfl (fun ls hl => ?_)
        refine lv_iinc (v := (nI (i + 1))) (lv' := [(3, .int (nI (i + 1))), (1, .int (nI i)), (2, .int (cjtF (apL (lsO V S op) 0 (opnL (lsS V S))) (nI i) ((opnL (lsS V S)).length))), (4, .int (cjtF (apL (lsO V S op) 0 (opnL (lsS V S))) (nI i) ((opnL (lsS V S)).length))), (0, .ref (d 0 0))]) hx hb dX4_mainPiece_54 hl (k := 3) rfl (nI_1 i) (by decide) rfl (fun ls hl => ?_)
        refine lv_goto (tgt := 17) hx hb dX4_mainPiece_57 (by decide) ?_
        exact ih_i (i + 1) (nI i) (cjtF (apL (lsO V S op) 0 (opnL (lsS V S))) (nI i) ((opnL (lsS V S)).length)) (by omega) (by omega) (by rw [mpF, if_neg (by rw [← e_y2]; exact c_2)]) (by rw [mpF, if_neg (by rw [← e_y2]; exact c_2)])  _ _ _ hP hD hS (lv_sub hl [0, 2, 1, 4] rfl)
