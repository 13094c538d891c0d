set_option maxHeartbeats 1000000 in
set_option maxRecDepth 100000 in
theorem c_X5_save (l : Launch) (D : va_G) (k : Nat → ClassId) (h : Nat → Nat) (th : Int32) (f asd sl kp sv : Nat → Int32) (tx : Nat → Int32) (ln : Int32) (dg : Int64) (n : Nat) (hn : n ≤ 6) : MV l yX5_save wsX5_save ({ frames := 0, cells := 0, slots := 0, locals := 0 }) D k [.ref (h 0)] (wMo k h th f asd sl kp sv (nI n) tx ln dg) (wMo k h th f asd sl kp (svM sv f n) (nI (snM n)) tx ln dg) := by
  intro sz
  refine Met.ofW (cc := cX5_save) (maxL := 2) (ret := none) (by decide) rfl ?_
  intro p e s m args below meth c s₁ B hml hv
  obtain ⟨rfl, hN, hsz, hP, hK, hD0⟩ := hv
  have hx := B.exec
  have hb := B.bytes
  have hr := B.returns
  have hts := atoms_spec (ws := wsX5_save) B.pre
  have hown : s.vm.findClass RX5 = some m.cls := findClass_of_methodNamed B.named
  have hlocks := B.notSynchronized
  subst hsz
  have hD := hD0.self (sz := s.heap.size)
  generalize hAe : va_A (wMo k h th f asd sl kp sv (nI n) tx ln dg) s.heap.size = A at hD ⊢
  have hA : ∀ q : Nat, s.heap.size ≤ q → A q := fun q h => by rw [← hAe]; exact Or.inr h
  have hS : va_S A s.heap s.heap [] := va_S.rf
  have hl := lv_entry ([.ref (h 0)]) (n := 2) (Nat.le_of_ble_eq_true rfl)
  rw [lg_entry_eq]
  generalize (lg_sl ([.ref (h 0)]) ++ List.replicate (2 - (lg_sl ([.ref (h 0)])).length) Slot.unset).toArray = ls at hl ⊢
  have hl : lv_has ls 2 [(0, .ref (h 0))] := hl
  obtain ⟨H, hHe⟩ : ∃ H, H = s.heap := ⟨_, rfl⟩
  have hP : va_P D vwCl (wMo k h th f asd sl kp sv (nI n) tx ln dg) H := by rw [hHe]; exact hP
  have hS : va_S A s.heap H [] := by rw [hHe]; exact hS
  rw [← hHe]
  refine absQ (fun Q hQ => ?_)
  refine lv_aload_n hx hb dX5_save_0 rfl (lv_at hl 0 rfl) ?_
  refine va_get (D := D) (ci := 5) (v := .int (nI n)) (C := RX5) (T := TX5) (N := 10) hx hb hts (fun _ h9 => (List.mem_cons_of_mem _ (List.mem_append_right _ h9))) hown hK hP 0 rfl rfl 6 (by decide) (hts _ (List.mem_of_getElem? (i := 1) rfl)) (fun _ h9 => h9) rfl dX5_save_1 ?_
  refine lv_bipush (v := 6) hx hb dX5_save_4 (by decide) ?_
  refine lv_icmp_ne (tgt := 49) hx hb dX5_save_6 (by decide) (fun c_1 => ?_) (fun c_1 => ?_)
  · have c_1 : ¬ (n = 6) := fun h9 => c_1 ((nI_eq (a := n) (b := 6) (by omega) (by omega)).mpr h9)
    refine lv_iconst (v := 0) hx hb dX5_save_49 (by decide) ?_
    refine lv_istore_n (lv' := [(1, .int 0), (0, .ref (h 0))]) hx hb dX5_save_50 rfl hl (by decide) rfl (fun ls hl => ?_)
    suffices LOOP_j : ∀ (fu_j j : Nat) (g2 : Nat → Int32), 72 - j < fu_j → j ≤ 72 → g2 = bkF sv f (72 * n) j → ∀ (H : Heap) (locs : List Loc) (ls : Array Slot), va_P D vwCl ([(h 0, .inr (5, [.int th, .ref (h 1), .ref (h 2), .ref (h 3), .ref (h 4), .ref (h 5), .int (nI n), .ref (h 6), .int ln, .long dg])), (h 1, .inl (k 0, 72, .inl f)), (h 2, .inl (k 0, 72, .inl asd)), (h 3, .inl (k 0, 144, .inl sl)), (h 4, .inl (k 1, 2, .inl kp)), (h 5, .inl (k 0, 432, .inl g2)), (h 6, .inl (k 0, 60, .inl tx))]) H → va_D A ([(h 0, .inr (5, [.int th, .ref (h 1), .ref (h 2), .ref (h 3), .ref (h 4), .ref (h 5), .int (nI n), .ref (h 6), .int ln, .long dg])), (h 1, .inl (k 0, 72, .inl f)), (h 2, .inl (k 0, 72, .inl asd)), (h 3, .inl (k 0, 144, .inl sl)), (h 4, .inl (k 1, 2, .inl kp)), (h 5, .inl (k 0, 432, .inl g2)), (h 6, .inl (k 0, 60, .inl tx))]) → va_S A s.heap H locs → lv_has ls 2 [(1, .int (nI j)), (0, .ref (h 0))] → W p l e ({ frames := 0, cells := 0, slots := 0, locals := 0 } : Room) s m ([.ref (h 0)] : List Value).toArray below meth c H locs 0 0 Q (F0 m 51 ls []) from LOOP_j (72 + 1) 0 sv (by omega) (by omega) ((bkF_0 _ _ _).symm)  _ _ _ hP hD hS (lv_sub hl [0, 1] rfl)
    clear hP hD hS hl hHe
    intro fu_j
    induction fu_j with
    | zero => intro j g2 hn_j; omega
    | succ fu_j ih_j =>
      intro j g2 hn_j hle_j e_g2  H locs ls hP hD hS hl
      refine lv_iload_n hx hb dX5_save_51 rfl (lv_at hl 0 rfl) ?_
      refine lv_bipush (v := 72) hx hb dX5_save_52 (by decide) ?_
      refine lv_icmp_ge (tgt := 83) hx hb dX5_save_54 (by decide) (fun c_2 => ?_) (fun c_2 => ?_)
      · have c_2 : 72 ≤ j := (nI_leI (a := 72) (b := j) (by omega) (by omega)).mp c_2
        have hz_j : 72 = j := by omega
        subst hz_j
        subst e_g2
        refine lv_aload_n hx hb dX5_save_83 rfl (lv_at hl 1 rfl) ?_
        refine lv_dup hx hb dX5_save_84 rfl ?_
        refine va_get (D := D) (ci := 5) (v := .int (nI n)) (C := RX5) (T := TX5) (N := 10) hx hb hts (fun _ h9 => (List.mem_cons_of_mem _ (List.mem_append_right _ h9))) hown hK hP 0 rfl rfl 6 (by decide) (hts _ (List.mem_of_getElem? (i := 1) rfl)) (fun _ h9 => h9) rfl dX5_save_85 ?_
        refine lv_iconst (v := 1) hx hb dX5_save_88 (by decide) ?_
        refine lv_iadd hx hb dX5_save_89 ?_
        refine tp_e (y := (nI (n + 1))) (nI_add n 1) ?_
        refine va_put (D := D) (ci := 5) (v := .int (nI (n + 1))) (ty := tyX5 6) (C := RX5) (T := TX5) (N := 10) hx hb hts (fun _ h9 => (List.mem_cons_of_mem _ (List.mem_append_right _ h9))) tyX5 tyX5_ok nmX5 hown hK hP hD hS 0 rfl rfl 6 (by decide) (hts _ (List.mem_of_getElem? (i := 1) rfl)) (fun _ h9 => h9) rfl (tyX5_ok 6 (by decide)) rfl rfl (Nat.le_of_ble_eq_true rfl) dX5_save_90 (fun H locs hP hD hS => ?_)
        have hP : va_P D vwCl ([(h 0, .inr (5, [.int th, .ref (h 1), .ref (h 2), .ref (h 3), .ref (h 4), .ref (h 5), .int (nI (n + 1)), .ref (h 6), .int ln, .long dg])), (h 1, .inl (k 0, 72, .inl f)), (h 2, .inl (k 0, 72, .inl asd)), (h 3, .inl (k 0, 144, .inl sl)), (h 4, .inl (k 1, 2, .inl kp)), (h 5, .inl (k 0, 432, .inl (bkF sv f (72 * n) 72))), (h 6, .inl (k 0, 60, .inl tx))]) H := hP
        have hD : va_D A ([(h 0, .inr (5, [.int th, .ref (h 1), .ref (h 2), .ref (h 3), .ref (h 4), .ref (h 5), .int (nI (n + 1)), .ref (h 6), .int ln, .long dg])), (h 1, .inl (k 0, 72, .inl f)), (h 2, .inl (k 0, 72, .inl asd)), (h 3, .inl (k 0, 144, .inl sl)), (h 4, .inl (k 1, 2, .inl kp)), (h 5, .inl (k 0, 432, .inl (bkF sv f (72 * n) 72))), (h 6, .inl (k 0, 60, .inl tx))]) := hD
        subst hQ
        exact rt_v hx hb hr hlocks hS dX5_save_93 (by rw [svM, snM, if_neg c_1, if_neg c_1]; exact hP)
      · have c_2 : ¬ (72 ≤ j) := fun h9 => c_2 ((nI_leI (a := 72) (b := j) (by omega) (by omega)).mpr h9)
        refine lv_aload_n hx hb dX5_save_57 rfl (lv_at hl 1 rfl) ?_
        refine va_get (D := D) (ci := 5) (v := .ref (h 5)) (C := RX5) (T := TX5) (N := 10) hx hb hts (fun _ h9 => (List.mem_cons_of_mem _ (List.mem_append_right _ h9))) hown hK hP 0 rfl rfl 5 (by decide) (hts _ (List.mem_of_getElem? (i := 2) rfl)) (fun _ h9 => h9) rfl dX5_save_58 ?_
        refine lv_bipush (v := 72) hx hb dX5_save_61 (by decide) ?_
        refine lv_aload_n hx hb dX5_save_63 rfl (lv_at hl 1 rfl) ?_
        refine va_get (D := D) (ci := 5) (v := .int (nI n)) (C := RX5) (T := TX5) (N := 10) hx hb hts (fun _ h9 => (List.mem_cons_of_mem _ (List.mem_append_right _ h9))) hown hK hP 0 rfl rfl 6 (by decide) (hts _ (List.mem_of_getElem? (i := 1) rfl)) (fun _ h9 => h9) rfl dX5_save_64 ?_
        refine lv_imul hx hb dX5_save_67 ?_
        refine tp_e (y := (nI (72 * n))) (pk_mul 72 n) ?_
        refine lv_iload_n hx hb dX5_save_68 rfl (lv_at hl 0 rfl) ?_
        refine lv_iadd hx hb dX5_save_69 ?_
        refine tp_e (y := (nI (72 * n + j))) (nI_add (72 * n) j) ?_
        refine lv_aload_n hx hb dX5_save_70 rfl (lv_at hl 1 rfl) ?_
        refine va_get (D := D) (ci := 5) (v := .ref (h 1)) (C := RX5) (T := TX5) (N := 10) hx hb hts (fun _ h9 => (List.mem_cons_of_mem _ (List.mem_append_right _ h9))) hown hK hP 0 rfl rfl 1 (by decide) (hts _ (List.mem_of_getElem? (i := 3) rfl)) (fun _ h9 => h9) rfl dX5_save_71 ?_
        refine lv_iload_n hx hb dX5_save_74 rfl (lv_at hl 0 rfl) ?_
        refine ar_ld hx hb hK hP 1 rfl j (nI_clamp (by omega)) (vp_in_nI (by omega) (by omega)) dX5_save_75 ?_
        refine ar_st hx hb hK hP hD hS 5 rfl (72 * n + j) (nI_clamp (by omega)) (vp_in_nI (by omega) (by omega)) dX5_save_76 (wn := [(h 0, .inr (5, [.int th, .ref (h 1), .ref (h 2), .ref (h 3), .ref (h 4), .ref (h 5), .int (nI n), .ref (h 6), .int ln, .long dg])), (h 1, .inl (k 0, 72, .inl f)), (h 2, .inl (k 0, 72, .inl asd)), (h 3, .inl (k 0, 144, .inl sl)), (h 4, .inl (k 1, 2, .inl kp)), (h 5, .inl (k 0, 432, .inl (upd g2 (72 * n + j) (f j)))), (h 6, .inl (k 0, 60, .inl tx))]) rfl (fun H locs hP hD hS => ?_)
        refine lv_iinc (v := (nI (j + 1))) (lv' := [(1, .int (nI (j + 1))), (0, .ref (h 0))]) hx hb dX5_save_77 hl (k := 0) rfl (nI_1 j) (by decide) rfl (fun ls hl => ?_)
        refine lv_goto (tgt := 51) hx hb dX5_save_80 (by decide) ?_
        exact ih_j (j + 1) (upd g2 (72 * n + j) (f j)) (by omega) (by omega) (by rw [e_g2]; exact bkF_s sv f (72 * n) j)  _ _ _ hP hD hS (lv_sub hl [0, 1] rfl)
  · have c_1 : n = 6 := (nI_eq (a := n) (b := 6) (by omega) (by omega)).mp c_1
    obtain rfl : n = 6 := c_1
    refine lv_iconst (v := 0) hx hb dX5_save_9 (by decide) ?_
    refine lv_istore_n (lv' := [(1, .int 0), (0, .ref (h 0))]) hx hb dX5_save_10 rfl hl (by decide) rfl (fun ls hl => ?_)
    suffices LOOP_i : ∀ (fu_i i : Nat) (g : Nat → Int32), 360 - i < fu_i → i ≤ 360 → g = fil (fun j => sv (72 + j)) sv i → ∀ (H : Heap) (locs : List Loc) (ls : Array Slot), va_P D vwCl ([(h 0, .inr (5, [.int th, .ref (h 1), .ref (h 2), .ref (h 3), .ref (h 4), .ref (h 5), .int 6, .ref (h 6), .int ln, .long dg])), (h 1, .inl (k 0, 72, .inl f)), (h 2, .inl (k 0, 72, .inl asd)), (h 3, .inl (k 0, 144, .inl sl)), (h 4, .inl (k 1, 2, .inl kp)), (h 5, .inl (k 0, 432, .inl g)), (h 6, .inl (k 0, 60, .inl tx))]) H → va_D A ([(h 0, .inr (5, [.int th, .ref (h 1), .ref (h 2), .ref (h 3), .ref (h 4), .ref (h 5), .int 6, .ref (h 6), .int ln, .long dg])), (h 1, .inl (k 0, 72, .inl f)), (h 2, .inl (k 0, 72, .inl asd)), (h 3, .inl (k 0, 144, .inl sl)), (h 4, .inl (k 1, 2, .inl kp)), (h 5, .inl (k 0, 432, .inl g)), (h 6, .inl (k 0, 60, .inl tx))]) → va_S A s.heap H locs → lv_has ls 2 [(1, .int (nI i)), (0, .ref (h 0))] → W p l e ({ frames := 0, cells := 0, slots := 0, locals := 0 } : Room) s m ([.ref (h 0)] : List Value).toArray below meth c H locs 0 0 Q (F0 m 11 ls []) from LOOP_i (360 + 1) 0 sv (by omega) (by omega) ((fil_0 _ _).symm)  _ _ _ hP hD hS (lv_sub hl [0, 1] rfl)
    clear hP hD hS hl hHe
    intro fu_i
    induction fu_i with
    | zero => intro i g hn_i; omega
    | succ fu_i ih_i =>
      intro i g hn_i hle_i e_g  H locs ls hP hD hS hl
      refine lv_iload_n hx hb dX5_save_11 rfl (lv_at hl 0 rfl) ?_
      refine lv_sipush (v := 360) hx hb dX5_save_12 (by decide) ?_
      refine lv_icmp_ge (tgt := 39) hx hb dX5_save_15 (by decide) (fun c_3 => ?_) (fun c_3 => ?_)
      · have c_3 : 360 ≤ i := (nI_leI (a := 360) (b := i) (by omega) (by omega)).mp c_3
        have hz_i : 360 = i := by omega
        subst hz_i
        subst e_g
        refine lv_aload_n hx hb dX5_save_39 rfl (lv_at hl 1 rfl) ?_
        refine lv_dup hx hb dX5_save_40 rfl ?_
        refine va_get (D := D) (ci := 5) (v := .int 6) (C := RX5) (T := TX5) (N := 10) hx hb hts (fun _ h9 => (List.mem_cons_of_mem _ (List.mem_append_right _ h9))) hown hK hP 0 rfl rfl 6 (by decide) (hts _ (List.mem_of_getElem? (i := 1) rfl)) (fun _ h9 => h9) rfl dX5_save_41 ?_
        refine lv_iconst (v := 1) hx hb dX5_save_44 (by decide) ?_
        refine lv_isub hx hb dX5_save_45 ?_
        refine tp_e (y := 5) (by decide) ?_
        refine va_put (D := D) (ci := 5) (v := .int 5) (ty := tyX5 6) (C := RX5) (T := TX5) (N := 10) hx hb hts (fun _ h9 => (List.mem_cons_of_mem _ (List.mem_append_right _ h9))) tyX5 tyX5_ok nmX5 hown hK hP hD hS 0 rfl rfl 6 (by decide) (hts _ (List.mem_of_getElem? (i := 1) rfl)) (fun _ h9 => h9) rfl (tyX5_ok 6 (by decide)) rfl rfl (Nat.le_of_ble_eq_true rfl) dX5_save_46 (fun H locs hP hD hS => ?_)
        have hP : va_P D vwCl ([(h 0, .inr (5, [.int th, .ref (h 1), .ref (h 2), .ref (h 3), .ref (h 4), .ref (h 5), .int 5, .ref (h 6), .int ln, .long dg])), (h 1, .inl (k 0, 72, .inl f)), (h 2, .inl (k 0, 72, .inl asd)), (h 3, .inl (k 0, 144, .inl sl)), (h 4, .inl (k 1, 2, .inl kp)), (h 5, .inl (k 0, 432, .inl (fil (fun j => sv (72 + j)) sv 360))), (h 6, .inl (k 0, 60, .inl tx))]) H := hP
        have hD : va_D A ([(h 0, .inr (5, [.int th, .ref (h 1), .ref (h 2), .ref (h 3), .ref (h 4), .ref (h 5), .int 5, .ref (h 6), .int ln, .long dg])), (h 1, .inl (k 0, 72, .inl f)), (h 2, .inl (k 0, 72, .inl asd)), (h 3, .inl (k 0, 144, .inl sl)), (h 4, .inl (k 1, 2, .inl kp)), (h 5, .inl (k 0, 432, .inl (fil (fun j => sv (72 + j)) sv 360))), (h 6, .inl (k 0, 60, .inl tx))]) := hD
        refine lv_iconst (v := 0) hx hb dX5_save_49 (by decide) ?_
        refine lv_istore_n (lv' := [(1, .int 0), (0, .ref (h 0))]) hx hb dX5_save_50 rfl hl (by decide) rfl (fun ls hl => ?_)
        suffices LOOP_j : ∀ (fu_j j : Nat) (g2 : Nat → Int32), 72 - j < fu_j → j ≤ 72 → g2 = bkF (fil (fun j => sv (72 + j)) sv 360) f 360 j → ∀ (H : Heap) (locs : List Loc) (ls : Array Slot), va_P D vwCl ([(h 0, .inr (5, [.int th, .ref (h 1), .ref (h 2), .ref (h 3), .ref (h 4), .ref (h 5), .int 5, .ref (h 6), .int ln, .long dg])), (h 1, .inl (k 0, 72, .inl f)), (h 2, .inl (k 0, 72, .inl asd)), (h 3, .inl (k 0, 144, .inl sl)), (h 4, .inl (k 1, 2, .inl kp)), (h 5, .inl (k 0, 432, .inl g2)), (h 6, .inl (k 0, 60, .inl tx))]) H → va_D A ([(h 0, .inr (5, [.int th, .ref (h 1), .ref (h 2), .ref (h 3), .ref (h 4), .ref (h 5), .int 5, .ref (h 6), .int ln, .long dg])), (h 1, .inl (k 0, 72, .inl f)), (h 2, .inl (k 0, 72, .inl asd)), (h 3, .inl (k 0, 144, .inl sl)), (h 4, .inl (k 1, 2, .inl kp)), (h 5, .inl (k 0, 432, .inl g2)), (h 6, .inl (k 0, 60, .inl tx))]) → va_S A s.heap H locs → lv_has ls 2 [(1, .int (nI j)), (0, .ref (h 0))] → W p l e ({ frames := 0, cells := 0, slots := 0, locals := 0 } : Room) s m ([.ref (h 0)] : List Value).toArray below meth c H locs 0 0 Q (F0 m 51 ls []) from LOOP_j (72 + 1) 0 (fil (fun j => sv (72 + j)) sv 360) (by omega) (by omega) ((bkF_0 _ _ _).symm)  _ _ _ hP hD hS (lv_sub hl [0, 1] rfl)
        clear hP hD hS hl
        intro fu_j
        induction fu_j with
        | zero => intro j g2 hn_j; omega
        | succ fu_j ih_j =>
          intro j g2 hn_j hle_j e_g2  H locs ls hP hD hS hl
          refine lv_iload_n hx hb dX5_save_51 rfl (lv_at hl 0 rfl) ?_
          refine lv_bipush (v := 72) hx hb dX5_save_52 (by decide) ?_
          refine lv_icmp_ge (tgt := 83) hx hb dX5_save_54 (by decide) (fun c_4 => ?_) (fun c_4 => ?_)
          · have c_4 : 72 ≤ j := (nI_leI (a := 72) (b := j) (by omega) (by omega)).mp c_4
            have hz_j : 72 = j := by omega
            subst hz_j
            subst e_g2
            refine lv_aload_n hx hb dX5_save_83 rfl (lv_at hl 1 rfl) ?_
            refine lv_dup hx hb dX5_save_84 rfl ?_
            refine va_get (D := D) (ci := 5) (v := .int 5) (C := RX5) (T := TX5) (N := 10) hx hb hts (fun _ h9 => (List.mem_cons_of_mem _ (List.mem_append_right _ h9))) hown hK hP 0 rfl rfl 6 (by decide) (hts _ (List.mem_of_getElem? (i := 1) rfl)) (fun _ h9 => h9) rfl dX5_save_85 ?_
            refine lv_iconst (v := 1) hx hb dX5_save_88 (by decide) ?_
            refine lv_iadd hx hb dX5_save_89 ?_
            refine tp_e (y := 6) (by decide) ?_
            refine va_put (D := D) (ci := 5) (v := .int 6) (ty := tyX5 6) (C := RX5) (T := TX5) (N := 10) hx hb hts (fun _ h9 => (List.mem_cons_of_mem _ (List.mem_append_right _ h9))) tyX5 tyX5_ok nmX5 hown hK hP hD hS 0 rfl rfl 6 (by decide) (hts _ (List.mem_of_getElem? (i := 1) rfl)) (fun _ h9 => h9) rfl (tyX5_ok 6 (by decide)) rfl rfl (Nat.le_of_ble_eq_true rfl) dX5_save_90 (fun H locs hP hD hS => ?_)
            have hP : va_P D vwCl ([(h 0, .inr (5, [.int th, .ref (h 1), .ref (h 2), .ref (h 3), .ref (h 4), .ref (h 5), .int 6, .ref (h 6), .int ln, .long dg])), (h 1, .inl (k 0, 72, .inl f)), (h 2, .inl (k 0, 72, .inl asd)), (h 3, .inl (k 0, 144, .inl sl)), (h 4, .inl (k 1, 2, .inl kp)), (h 5, .inl (k 0, 432, .inl (bkF (fil (fun j => sv (72 + j)) sv 360) f 360 72))), (h 6, .inl (k 0, 60, .inl tx))]) H := hP
            have hD : va_D A ([(h 0, .inr (5, [.int th, .ref (h 1), .ref (h 2), .ref (h 3), .ref (h 4), .ref (h 5), .int 6, .ref (h 6), .int ln, .long dg])), (h 1, .inl (k 0, 72, .inl f)), (h 2, .inl (k 0, 72, .inl asd)), (h 3, .inl (k 0, 144, .inl sl)), (h 4, .inl (k 1, 2, .inl kp)), (h 5, .inl (k 0, 432, .inl (bkF (fil (fun j => sv (72 + j)) sv 360) f 360 72))), (h 6, .inl (k 0, 60, .inl tx))]) := hD
            subst hQ
            exact rt_v hx hb hr hlocks hS dX5_save_93 (by rw [svM, snM, if_pos rfl, if_pos rfl]; exact hP)
          · have c_4 : ¬ (72 ≤ j) := fun h9 => c_4 ((nI_leI (a := 72) (b := j) (by omega) (by omega)).mpr h9)
            refine lv_aload_n hx hb dX5_save_57 rfl (lv_at hl 1 rfl) ?_
            refine va_get (D := D) (ci := 5) (v := .ref (h 5)) (C := RX5) (T := TX5) (N := 10) hx hb hts (fun _ h9 => (List.mem_cons_of_mem _ (List.mem_append_right _ h9))) hown hK hP 0 rfl rfl 5 (by decide) (hts _ (List.mem_of_getElem? (i := 2) rfl)) (fun _ h9 => h9) rfl dX5_save_58 ?_
            refine lv_bipush (v := 72) hx hb dX5_save_61 (by decide) ?_
            refine lv_aload_n hx hb dX5_save_63 rfl (lv_at hl 1 rfl) ?_
            refine va_get (D := D) (ci := 5) (v := .int 5) (C := RX5) (T := TX5) (N := 10) hx hb hts (fun _ h9 => (List.mem_cons_of_mem _ (List.mem_append_right _ h9))) hown hK hP 0 rfl rfl 6 (by decide) (hts _ (List.mem_of_getElem? (i := 1) rfl)) (fun _ h9 => h9) rfl dX5_save_64 ?_
            refine lv_imul hx hb dX5_save_67 ?_
            refine tp_e (y := 360) (by decide) ?_
            refine lv_iload_n hx hb dX5_save_68 rfl (lv_at hl 0 rfl) ?_
            refine lv_iadd hx hb dX5_save_69 ?_
            refine tp_e (y := (nI (360 + j))) (nI_add 360 j) ?_
            refine lv_aload_n hx hb dX5_save_70 rfl (lv_at hl 1 rfl) ?_
            refine va_get (D := D) (ci := 5) (v := .ref (h 1)) (C := RX5) (T := TX5) (N := 10) hx hb hts (fun _ h9 => (List.mem_cons_of_mem _ (List.mem_append_right _ h9))) hown hK hP 0 rfl rfl 1 (by decide) (hts _ (List.mem_of_getElem? (i := 3) rfl)) (fun _ h9 => h9) rfl dX5_save_71 ?_
            refine lv_iload_n hx hb dX5_save_74 rfl (lv_at hl 0 rfl) ?_
            refine ar_ld hx hb hK hP 1 rfl j (nI_clamp (by omega)) (vp_in_nI (by omega) (by omega)) dX5_save_75 ?_
            refine ar_st hx hb hK hP hD hS 5 rfl (360 + j) (nI_clamp (by omega)) (vp_in_nI (by omega) (by omega)) dX5_save_76 (wn := [(h 0, .inr (5, [.int th, .ref (h 1), .ref (h 2), .ref (h 3), .ref (h 4), .ref (h 5), .int 5, .ref (h 6), .int ln, .long dg])), (h 1, .inl (k 0, 72, .inl f)), (h 2, .inl (k 0, 72, .inl asd)), (h 3, .inl (k 0, 144, .inl sl)), (h 4, .inl (k 1, 2, .inl kp)), (h 5, .inl (k 0, 432, .inl (upd g2 (360 + j) (f j)))), (h 6, .inl (k 0, 60, .inl tx))]) rfl (fun H locs hP hD hS => ?_)
            refine lv_iinc (v := (nI (j + 1))) (lv' := [(1, .int (nI (j + 1))), (0, .ref (h 0))]) hx hb dX5_save_77 hl (k := 0) rfl (nI_1 j) (by decide) rfl (fun ls hl => ?_)
            refine lv_goto (tgt := 51) hx hb dX5_save_80 (by decide) ?_
            exact ih_j (j + 1) (upd g2 (360 + j) (f j)) (by omega) (by omega) (by rw [e_g2]; exact bkF_s (fil (fun j => sv (72 + j)) sv 360) f 360 j)  _ _ _ hP hD hS (lv_sub hl [0, 1] rfl)
      · have c_3 : ¬ (360 ≤ i) := fun h9 => c_3 ((nI_leI (a := 360) (b := i) (by omega) (by omega)).mpr h9)
        refine lv_aload_n hx hb dX5_save_18 rfl (lv_at hl 1 rfl) ?_
        refine va_get (D := D) (ci := 5) (v := .ref (h 5)) (C := RX5) (T := TX5) (N := 10) hx hb hts (fun _ h9 => (List.mem_cons_of_mem _ (List.mem_append_right _ h9))) hown hK hP 0 rfl rfl 5 (by decide) (hts _ (List.mem_of_getElem? (i := 2) rfl)) (fun _ h9 => h9) rfl dX5_save_19 ?_
        refine lv_iload_n hx hb dX5_save_22 rfl (lv_at hl 0 rfl) ?_
        refine lv_aload_n hx hb dX5_save_23 rfl (lv_at hl 1 rfl) ?_
        refine va_get (D := D) (ci := 5) (v := .ref (h 5)) (C := RX5) (T := TX5) (N := 10) hx hb hts (fun _ h9 => (List.mem_cons_of_mem _ (List.mem_append_right _ h9))) hown hK hP 0 rfl rfl 5 (by decide) (hts _ (List.mem_of_getElem? (i := 2) rfl)) (fun _ h9 => h9) rfl dX5_save_24 ?_
        refine lv_bipush (v := 72) hx hb dX5_save_27 (by decide) ?_
        refine lv_iload_n hx hb dX5_save_29 rfl (lv_at hl 0 rfl) ?_
        refine lv_iadd hx hb dX5_save_30 ?_
        refine tp_e (y := (nI (72 + i))) (nI_add 72 i) ?_
        refine ar_ld hx hb hK hP 5 rfl (72 + i) (nI_clamp (by omega)) (vp_in_nI (by omega) (by omega)) dX5_save_31 ?_
        refine ar_st hx hb hK hP hD hS 5 rfl i (nI_clamp (by omega)) (vp_in_nI (by omega) (by omega)) dX5_save_32 (wn := [(h 0, .inr (5, [.int th, .ref (h 1), .ref (h 2), .ref (h 3), .ref (h 4), .ref (h 5), .int 6, .ref (h 6), .int ln, .long dg])), (h 1, .inl (k 0, 72, .inl f)), (h 2, .inl (k 0, 72, .inl asd)), (h 3, .inl (k 0, 144, .inl sl)), (h 4, .inl (k 1, 2, .inl kp)), (h 5, .inl (k 0, 432, .inl (upd g i (g (72 + i))))), (h 6, .inl (k 0, 60, .inl tx))]) rfl (fun H locs hP hD hS => ?_)
        refine lv_iinc (v := (nI (i + 1))) (lv' := [(1, .int (nI (i + 1))), (0, .ref (h 0))]) hx hb dX5_save_33 hl (k := 0) rfl (nI_1 i) (by decide) rfl (fun ls hl => ?_)
        refine lv_goto (tgt := 11) hx hb dX5_save_36 (by decide) ?_
        exact ih_i (i + 1) (upd g i (g (72 + i))) (by omega) (by omega) (by rw [e_g, show fil (fun j => sv (72 + j)) sv i (72 + i) = sv (72 + i) from if_neg (by omega)]; exact fil_s (fun j => sv (72 + j)) sv i)  _ _ _ hP hD hS (lv_sub hl [0, 1] rfl)
