set_option maxHeartbeats 1000000 in
set_option maxRecDepth 100000 in
theorem c_X3_pickOpen (l : Launch) (D : va_G) (k : Nat → ClassId) (a b : Nat → Nat) (S : Nat → Nat → Int32) (op wf : Nat → Int32) (no : Int32) (al : Nat → Int32) (L : List Int32) (hL : L.length ≤ 511) : MV l yX3_pickOpen wsX3_pickOpen ({ frames := 2, cells := 0, slots := 0, locals := 43 }) D k [.ref (a 0)] (wWy k a b S (apL al 0 L) op wf (nI L.length) no) (wWy k a b S (apL al 0 L) (apL op 0 (opnF S L)) wf (nI L.length) (nI (opnF S L).length)) := by
  intro sz
  refine Met.ofW (cc := cX3_pickOpen) (maxL := 2) (ret := none) (by decide) rfl ?_
  intro p e s m args below meth c s₁ B hml hv
  obtain ⟨rfl, hN, hsz, hP, hK, hD0⟩ := hv
  have hx := B.exec
  have hb := B.bytes
  have hr := B.returns
  have hts := atoms_spec (ws := wsX3_pickOpen) B.pre
  have hown : s.vm.findClass RX3 = some m.cls := findClass_of_methodNamed B.named
  have hlocks := B.notSynchronized
  subst hsz
  have hD := hD0.self (sz := s.heap.size)
  generalize hAe : va_A (wWy k a b S (apL al 0 L) op wf (nI L.length) no) s.heap.size = A at hD ⊢
  have hA : ∀ q : Nat, s.heap.size ≤ q → A q := fun q h => by rw [← hAe]; exact Or.inr h
  have hS : va_S A s.heap s.heap [] := va_S.rf
  have hl := lv_entry ([.ref (a 0)]) (n := 2) (Nat.le_of_ble_eq_true rfl)
  rw [lg_entry_eq]
  generalize (lg_sl ([.ref (a 0)]) ++ List.replicate (2 - (lg_sl ([.ref (a 0)])).length) Slot.unset).toArray = ls at hl ⊢
  have hl : lv_has ls 2 [(0, .ref (a 0))] := hl
  obtain ⟨H, hHe⟩ : ∃ H, H = s.heap := ⟨_, rfl⟩
  have hP : va_P D vwCl (wWy k a b S (apL al 0 L) op wf (nI L.length) no) H := by rw [hHe]; exact hP
  have hS : va_S A s.heap H [] := by rw [hHe]; exact hS
  rw [← hHe]
  refine absQ (fun Q hQ => ?_)
  refine lv_aload_n hx hb dX3_pickOpen_0 rfl (lv_at hl 0 rfl) ?_
  refine lv_iconst (v := 0) hx hb dX3_pickOpen_1 (by decide) ?_
  refine va_put (D := D) (ci := 3) (v := .int 0) (ty := tyX3 3) (C := RX3) (T := TX3) (N := 6) hx hb hts (fun _ h9 => (List.mem_cons_of_mem _ (List.mem_append_left _ (List.mem_append_right _ h9)))) tyX3 tyX3_ok nmX3 hown hK hP hD hS 0 rfl rfl 3 (by decide) (hts _ (List.mem_of_getElem? (i := 1) rfl)) (fun _ h9 => h9) rfl (tyX3_ok 3 (by decide)) rfl rfl (Nat.le_of_ble_eq_true rfl) dX3_pickOpen_2 (fun H locs hP hD hS => ?_)
  have hP : va_P D vwCl ([(a 0, .inr (3, [.ref (a 1), .ref (a 2), .int (nI L.length), .int 0, .ref (b 0), .ref (a 3)])), (a 1, .inl (k 0, 512, .inl (apL al 0 L))), (a 2, .inl (k 0, 512, .inl op)), (a 3, .inl (k 0, 9, .inl wf)), (b 0, .inr (1, [.ref (b 1), .ref (b 2), .ref (b 3), .ref (b 4), .ref (b 5), .ref (b 6), .ref (b 7), .int (S 7 0), .int (S 7 1), .int (S 7 2)])), (b 1, .inl (k 0, 9, .inl (S 0))), (b 2, .inl (k 0, 9, .inl (S 1))), (b 3, .inl (k 0, 9, .inl (S 2))), (b 4, .inl (k 0, 9, .inl (S 3))), (b 5, .inl (k 0, 9, .inl (S 4))), (b 6, .inl (k 0, 12, .inl (S 5))), (b 7, .inl (k 0, 12, .inl (S 6)))]) H := hP
  have hD : va_D A ([(a 0, .inr (3, [.ref (a 1), .ref (a 2), .int (nI L.length), .int 0, .ref (b 0), .ref (a 3)])), (a 1, .inl (k 0, 512, .inl (apL al 0 L))), (a 2, .inl (k 0, 512, .inl op)), (a 3, .inl (k 0, 9, .inl wf)), (b 0, .inr (1, [.ref (b 1), .ref (b 2), .ref (b 3), .ref (b 4), .ref (b 5), .ref (b 6), .ref (b 7), .int (S 7 0), .int (S 7 1), .int (S 7 2)])), (b 1, .inl (k 0, 9, .inl (S 0))), (b 2, .inl (k 0, 9, .inl (S 1))), (b 3, .inl (k 0, 9, .inl (S 2))), (b 4, .inl (k 0, 9, .inl (S 3))), (b 5, .inl (k 0, 9, .inl (S 4))), (b 6, .inl (k 0, 12, .inl (S 5))), (b 7, .inl (k 0, 12, .inl (S 6)))]) := hD
  refine lv_iconst (v := 0) hx hb dX3_pickOpen_5 (by decide) ?_
  refine lv_istore_n (lv' := [(1, .int 0), (0, .ref (a 0))]) hx hb dX3_pickOpen_6 rfl hl (by decide) rfl (fun ls hl => ?_)
  suffices LOOP_i : ∀ (fu_i i : Nat) (op1 : Nat → Int32) (no1 : Int32), L.length - i < fu_i → i ≤ L.length → op1 = apL op 0 (opnF S (L.take i)) → no1 = nI (opnF S (L.take i)).length → ∀ (H : Heap) (locs : List Loc) (ls : Array Slot), va_P D vwCl ([(a 0, .inr (3, [.ref (a 1), .ref (a 2), .int (nI L.length), .int no1, .ref (b 0), .ref (a 3)])), (a 1, .inl (k 0, 512, .inl (apL al 0 L))), (a 2, .inl (k 0, 512, .inl op1)), (a 3, .inl (k 0, 9, .inl wf)), (b 0, .inr (1, [.ref (b 1), .ref (b 2), .ref (b 3), .ref (b 4), .ref (b 5), .ref (b 6), .ref (b 7), .int (S 7 0), .int (S 7 1), .int (S 7 2)])), (b 1, .inl (k 0, 9, .inl (S 0))), (b 2, .inl (k 0, 9, .inl (S 1))), (b 3, .inl (k 0, 9, .inl (S 2))), (b 4, .inl (k 0, 9, .inl (S 3))), (b 5, .inl (k 0, 9, .inl (S 4))), (b 6, .inl (k 0, 12, .inl (S 5))), (b 7, .inl (k 0, 12, .inl (S 6)))]) H → va_D A ([(a 0, .inr (3, [.ref (a 1), .ref (a 2), .int (nI L.length), .int no1, .ref (b 0), .ref (a 3)])), (a 1, .inl (k 0, 512, .inl (apL al 0 L))), (a 2, .inl (k 0, 512, .inl op1)), (a 3, .inl (k 0, 9, .inl wf)), (b 0, .inr (1, [.ref (b 1), .ref (b 2), .ref (b 3), .ref (b 4), .ref (b 5), .ref (b 6), .ref (b 7), .int (S 7 0), .int (S 7 1), .int (S 7 2)])), (b 1, .inl (k 0, 9, .inl (S 0))), (b 2, .inl (k 0, 9, .inl (S 1))), (b 3, .inl (k 0, 9, .inl (S 2))), (b 4, .inl (k 0, 9, .inl (S 3))), (b 5, .inl (k 0, 9, .inl (S 4))), (b 6, .inl (k 0, 12, .inl (S 5))), (b 7, .inl (k 0, 12, .inl (S 6)))]) → va_S A s.heap H locs → lv_has ls 2 [(1, .int (nI i)), (0, .ref (a 0))] → W p l e ({ frames := 2, cells := 0, slots := 0, locals := 43 } : Room) s m ([.ref (a 0)] : List Value).toArray below meth c H locs 0 0 Q (F0 m 7 ls []) from LOOP_i (L.length + 1) 0 op 0 (by omega) (by omega) (by simp [opnF, apL_nil]) (by simp [opnF]; rfl)  _ _ _ hP hD hS (lv_sub hl [0, 1] rfl)
  clear hP hD hS hl hHe
  intro fu_i
  induction fu_i with
  | zero => intro i op1 no1 hn_i; omega
  | succ fu_i ih_i =>
    intro i op1 no1 hn_i hle_i e_op1 e_no1  H locs ls hP hD hS hl
    subst e_op1
    subst e_no1
    refine lv_iload_n hx hb dX3_pickOpen_7 rfl (lv_at hl 0 rfl) ?_
    refine lv_aload_n hx hb dX3_pickOpen_8 rfl (lv_at hl 1 rfl) ?_
    refine va_get (D := D) (ci := 3) (v := .int (nI L.length)) (C := RX3) (T := TX3) (N := 6) hx hb hts (fun _ h9 => (List.mem_cons_of_mem _ (List.mem_append_left _ (List.mem_append_right _ h9)))) hown hK hP 0 rfl rfl 2 (by decide) (hts _ (List.mem_of_getElem? (i := 2) rfl)) (fun _ h9 => h9) rfl dX3_pickOpen_9 ?_
    refine lv_icmp_ge (tgt := 79) hx hb dX3_pickOpen_12 (by decide) (fun c_1 => ?_) (fun c_1 => ?_)
    · have c_1 : L.length ≤ i := (nI_leI (a := L.length) (b := i) (by omega) (by omega)).mp c_1
      obtain rfl : i = L.length := by omega
      subst hQ
      exact rt_v hx hb hr hlocks hS dX3_pickOpen_79 (by rw [List.take_length] at hP; exact hP)
    · have c_1 : ¬ (L.length ≤ i) := fun h9 => c_1 ((nI_leI (a := L.length) (b := i) (by omega) (by omega)).mpr h9)
      refine lv_iload_n hx hb dX3_pickOpen_15 rfl (lv_at hl 0 rfl) ?_
      refine lv_sipush (v := 512) hx hb dX3_pickOpen_16 (by decide) ?_
      refine lv_icmp_ge (tgt := 79) hx hb dX3_pickOpen_19 (by decide) (fun c_2 => ?_) (fun c_2 => ?_)
      · have c_2 : 512 ≤ i := (nI_leI (a := 512) (b := i) (by omega) (by omega)).mp c_2
        exact absurd c_2 (by omega)
      · have c_2 : ¬ (512 ≤ i) := fun h9 => c_2 ((nI_leI (a := 512) (b := i) (by omega) (by omega)).mpr h9)
        refine lv_aload_n hx hb dX3_pickOpen_22 rfl (lv_at hl 1 rfl) ?_
        refine va_get (D := D) (ci := 3) (v := .ref (b 0)) (C := RX3) (T := TX3) (N := 6) hx hb hts (fun _ h9 => (List.mem_cons_of_mem _ (List.mem_append_left _ (List.mem_append_right _ h9)))) hown hK hP 0 rfl rfl 4 (by decide) (hts _ (List.mem_of_getElem? (i := 3) rfl)) (fun _ h9 => h9) rfl dX3_pickOpen_23 ?_
        refine lv_aload_n hx hb dX3_pickOpen_26 rfl (lv_at hl 1 rfl) ?_
        refine va_get (D := D) (ci := 3) (v := .ref (a 1)) (C := RX3) (T := TX3) (N := 6) hx hb hts (fun _ h9 => (List.mem_cons_of_mem _ (List.mem_append_left _ (List.mem_append_right _ h9)))) hown hK hP 0 rfl rfl 0 (by decide) (hts _ (List.mem_of_getElem? (i := 4) rfl)) (fun _ h9 => h9) rfl dX3_pickOpen_27 ?_
        refine lv_iload_n hx hb dX3_pickOpen_30 rfl (lv_at hl 0 rfl) ?_
        refine ar_ld hx hb hK hP 1 rfl i (nI_clamp (by omega)) (vp_in_nI (by omega) (by omega)) dX3_pickOpen_31 ?_
        have hPc : va_P D vwCl (wSt k b S) H := hP.sub [4, 5, 6, 7, 8, 9, 10, 11] rfl
        have hDc : va_D A (wSt k b S) := hD.sub [4, 5, 6, 7, 8, 9, 10, 11] (by decide +kernel) rfl
        refine cl_i0 (va_runV (As := [.int ((apL al 0 L) i)]) (rest := []) ⟨hx, hb, hml, hown, hts⟩ (c_X1_isOpen l D k b S ((apL al 0 L) i) H.size) (cwV 1 hts gX3_pickOpen_X1_isOpen rfl rfl rfl (by decide +kernel) ⟨Nat.le_of_ble_eq_true rfl, Nat.le_of_ble_eq_true rfl⟩) ⟨pr_blind, va_recv hK hP (ci := 1) (q0 := 4) rfl rfl, pr_at hN hPc hK hDc⟩ rfl rfl hl.1 rfl (lv_room (Nat.le_of_ble_eq_true rfl)) dX3_pickOpen_32 ⟨Nat.le_of_ble_eq_true rfl, Nat.le_of_ble_eq_true rfl⟩) hP hD hS hA [4, 5, 6, 7, 8, 9, 10, 11] rfl (fun H locs hP hD hS => ?_)
        clear hPc hDc
        refine lv_if_eq (tgt := 73) hx hb dX3_pickOpen_35 (by decide) (fun c_3 => ?_) (fun c_3 => ?_)
        · have c_3 := bI_eq.mp c_3
          have ho := opnF_len S L i
          refine lv_iinc (v := (nI (i + 1))) (lv' := [(1, .int (nI (i + 1))), (0, .ref (a 0))]) hx hb dX3_pickOpen_73 hl (k := 0) rfl (nI_1 i) (by decide) rfl (fun ls hl => ?_)
          refine lv_goto (tgt := 7) hx hb dX3_pickOpen_76 (by decide) ?_
          exact ih_i (i + 1) (apL op 0 (opnF S (L.take i))) (nI ((opnF S (L.take i)).length)) (by omega) (by omega) (by rw [opnF_f S L (show i < L.length from by omega) (by rw [← apL_get0 al L (show i < L.length from by omega)]; exact c_3)]) (by rw [opnF_f S L (show i < L.length from by omega) (by rw [← apL_get0 al L (show i < L.length from by omega)]; exact c_3)])  _ _ _ hP hD hS (lv_sub hl [0, 1] rfl)
        · have c_3 := bI_ne.mp c_3
          have ho := opnF_len S L i
          refine lv_aload_n hx hb dX3_pickOpen_38 rfl (lv_at hl 1 rfl) ?_
          refine va_get (D := D) (ci := 3) (v := .int (nI ((opnF S (L.take i)).length))) (C := RX3) (T := TX3) (N := 6) hx hb hts (fun _ h9 => (List.mem_cons_of_mem _ (List.mem_append_left _ (List.mem_append_right _ h9)))) hown hK hP 0 rfl rfl 3 (by decide) (hts _ (List.mem_of_getElem? (i := 1) rfl)) (fun _ h9 => h9) rfl dX3_pickOpen_39 ?_
          refine lv_sipush (v := 512) hx hb dX3_pickOpen_42 (by decide) ?_
          refine lv_icmp_ge (tgt := 73) hx hb dX3_pickOpen_45 (by decide) (fun c_4 => ?_) (fun c_4 => ?_)
          · have c_4 : 512 ≤ (opnF S (L.take i)).length := (nI_leI (a := 512) (b := (opnF S (L.take i)).length) (by omega) (by omega)).mp c_4
            exact absurd c_4 (by omega)
          · have c_4 : ¬ (512 ≤ (opnF S (L.take i)).length) := fun h9 => c_4 ((nI_leI (a := 512) (b := (opnF S (L.take i)).length) (by omega) (by omega)).mpr h9)
            refine lv_aload_n hx hb dX3_pickOpen_48 rfl (lv_at hl 1 rfl) ?_
            refine va_get (D := D) (ci := 3) (v := .ref (a 2)) (C := RX3) (T := TX3) (N := 6) hx hb hts (fun _ h9 => (List.mem_cons_of_mem _ (List.mem_append_left _ (List.mem_append_right _ h9)))) hown hK hP 0 rfl rfl 1 (by decide) (hts _ (List.mem_of_getElem? (i := 5) rfl)) (fun _ h9 => h9) rfl dX3_pickOpen_49 ?_
            refine lv_aload_n hx hb dX3_pickOpen_52 rfl (lv_at hl 1 rfl) ?_
            refine va_get (D := D) (ci := 3) (v := .int (nI ((opnF S (L.take i)).length))) (C := RX3) (T := TX3) (N := 6) hx hb hts (fun _ h9 => (List.mem_cons_of_mem _ (List.mem_append_left _ (List.mem_append_right _ h9)))) hown hK hP 0 rfl rfl 3 (by decide) (hts _ (List.mem_of_getElem? (i := 1) rfl)) (fun _ h9 => h9) rfl dX3_pickOpen_53 ?_
            refine lv_aload_n hx hb dX3_pickOpen_56 rfl (lv_at hl 1 rfl) ?_
            refine va_get (D := D) (ci := 3) (v := .ref (a 1)) (C := RX3) (T := TX3) (N := 6) hx hb hts (fun _ h9 => (List.mem_cons_of_mem _ (List.mem_append_left _ (List.mem_append_right _ h9)))) hown hK hP 0 rfl rfl 0 (by decide) (hts _ (List.mem_of_getElem? (i := 4) rfl)) (fun _ h9 => h9) rfl dX3_pickOpen_57 ?_
            refine lv_iload_n hx hb dX3_pickOpen_60 rfl (lv_at hl 0 rfl) ?_
            refine ar_ld hx hb hK hP 1 rfl i (nI_clamp (by omega)) (vp_in_nI (by omega) (by omega)) dX3_pickOpen_61 ?_
            refine ar_st hx hb hK hP hD hS 2 rfl ((opnF S (L.take i)).length) (nI_clamp (by omega)) (vp_in_nI (by omega) (by omega)) dX3_pickOpen_62 (wn := [(a 0, .inr (3, [.ref (a 1), .ref (a 2), .int (nI L.length), .int (nI ((opnF S (L.take i)).length)), .ref (b 0), .ref (a 3)])), (a 1, .inl (k 0, 512, .inl (apL al 0 L))), (a 2, .inl (k 0, 512, .inl (upd (apL op 0 (opnF S (L.take i))) ((opnF S (L.take i)).length) ((apL al 0 L) i)))), (a 3, .inl (k 0, 9, .inl wf)), (b 0, .inr (1, [.ref (b 1), .ref (b 2), .ref (b 3), .ref (b 4), .ref (b 5), .ref (b 6), .ref (b 7), .int (S 7 0), .int (S 7 1), .int (S 7 2)])), (b 1, .inl (k 0, 9, .inl (S 0))), (b 2, .inl (k 0, 9, .inl (S 1))), (b 3, .inl (k 0, 9, .inl (S 2))), (b 4, .inl (k 0, 9, .inl (S 3))), (b 5, .inl (k 0, 9, .inl (S 4))), (b 6, .inl (k 0, 12, .inl (S 5))), (b 7, .inl (k 0, 12, .inl (S 6)))]) rfl (fun H locs hP hD hS => ?_)
            refine lv_aload_n hx hb dX3_pickOpen_63 rfl (lv_at hl 1 rfl) ?_
            refine lv_dup hx hb dX3_pickOpen_64 rfl ?_
            refine va_get (D := D) (ci := 3) (v := .int (nI ((opnF S (L.take i)).length))) (C := RX3) (T := TX3) (N := 6) hx hb hts (fun _ h9 => (List.mem_cons_of_mem _ (List.mem_append_left _ (List.mem_append_right _ h9)))) hown hK hP 0 rfl rfl 3 (by decide) (hts _ (List.mem_of_getElem? (i := 1) rfl)) (fun _ h9 => h9) rfl dX3_pickOpen_65 ?_
            refine lv_iconst (v := 1) hx hb dX3_pickOpen_68 (by decide) ?_
            refine lv_iadd hx hb dX3_pickOpen_69 ?_
            refine tp_e (y := (nI ((opnF S (L.take i)).length + 1))) (nI_add _ _) ?_
            refine va_put (D := D) (ci := 3) (v := .int (nI ((opnF S (L.take i)).length + 1))) (ty := tyX3 3) (C := RX3) (T := TX3) (N := 6) hx hb hts (fun _ h9 => (List.mem_cons_of_mem _ (List.mem_append_left _ (List.mem_append_right _ h9)))) tyX3 tyX3_ok nmX3 hown hK hP hD hS 0 rfl rfl 3 (by decide) (hts _ (List.mem_of_getElem? (i := 1) rfl)) (fun _ h9 => h9) rfl (tyX3_ok 3 (by decide)) rfl rfl (Nat.le_of_ble_eq_true rfl) dX3_pickOpen_70 (fun H locs hP hD hS => ?_)
            have hP : va_P D vwCl ([(a 0, .inr (3, [.ref (a 1), .ref (a 2), .int (nI L.length), .int (nI ((opnF S (L.take i)).length + 1)), .ref (b 0), .ref (a 3)])), (a 1, .inl (k 0, 512, .inl (apL al 0 L))), (a 2, .inl (k 0, 512, .inl (upd (apL op 0 (opnF S (L.take i))) ((opnF S (L.take i)).length) ((apL al 0 L) i)))), (a 3, .inl (k 0, 9, .inl wf)), (b 0, .inr (1, [.ref (b 1), .ref (b 2), .ref (b 3), .ref (b 4), .ref (b 5), .ref (b 6), .ref (b 7), .int (S 7 0), .int (S 7 1), .int (S 7 2)])), (b 1, .inl (k 0, 9, .inl (S 0))), (b 2, .inl (k 0, 9, .inl (S 1))), (b 3, .inl (k 0, 9, .inl (S 2))), (b 4, .inl (k 0, 9, .inl (S 3))), (b 5, .inl (k 0, 9, .inl (S 4))), (b 6, .inl (k 0, 12, .inl (S 5))), (b 7, .inl (k 0, 12, .inl (S 6)))]) H := hP
            have hD : va_D A ([(a 0, .inr (3, [.ref (a 1), .ref (a 2), .int (nI L.length), .int (nI ((opnF S (L.take i)).length + 1)), .ref (b 0), .ref (a 3)])), (a 1, .inl (k 0, 512, .inl (apL al 0 L))), (a 2, .inl (k 0, 512, .inl (upd (apL op 0 (opnF S (L.take i))) ((opnF S (L.take i)).length) ((apL al 0 L) i)))), (a 3, .inl (k 0, 9, .inl wf)), (b 0, .inr (1, [.ref (b 1), .ref (b 2), .ref (b 3), .ref (b 4), .ref (b 5), .ref (b 6), .ref (b 7), .int (S 7 0), .int (S 7 1), .int (S 7 2)])), (b 1, .inl (k 0, 9, .inl (S 0))), (b 2, .inl (k 0, 9, .inl (S 1))), (b 3, .inl (k 0, 9, .inl (S 2))), (b 4, .inl (k 0, 9, .inl (S 3))), (b 5, .inl (k 0, 9, .inl (S 4))), (b 6, .inl (k 0, 12, .inl (S 5))), (b 7, .inl (k 0, 12, .inl (S 6)))]) := hD
            refine lv_iinc (v := (nI (i + 1))) (lv' := [(1, .int (nI (i + 1))), (0, .ref (a 0))]) hx hb dX3_pickOpen_73 hl (k := 0) rfl (nI_1 i) (by decide) rfl (fun ls hl => ?_)
            refine lv_goto (tgt := 7) hx hb dX3_pickOpen_76 (by decide) ?_
            exact ih_i (i + 1) (upd (apL op 0 (opnF S (L.take i))) ((opnF S (L.take i)).length) ((apL al 0 L) i)) (nI ((opnF S (L.take i)).length + 1)) (by omega) (by omega) (by rw [apL_get0 al L (show i < L.length from by omega), opnF_t S L (show i < L.length from by omega) (by rw [← apL_get0 al L (show i < L.length from by omega)]; exact c_3), ← apL_snoc0]) (by rw [opnF_t S L (show i < L.length from by omega) (by rw [← apL_get0 al L (show i < L.length from by omega)]; exact c_3), List.length_append]; rfl)  _ _ _ hP hD hS (lv_sub hl [0, 1] rfl)
