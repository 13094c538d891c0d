theorem loopL_z (f : Nat → List Int32) (i : Nat) : loopL f 0 (i + 1) = loopL f 0 i ++ f i := by rw [loopL, Nat.zero_add]
theorem lsS_t {V T : Nat → Nat → Int32} (h : lsR V T 9 0 = true) : lsS V T = V := if_pos h
theorem lsS_f {V T : Nat → Nat → Int32} (h : lsR V T 9 0 = false) : lsS V T = mkS (T 0) (T 1) (T 2) (T 3) (V 4) (V 5) (V 6) (V 7) := if_neg (by rw [h]; decide)
theorem lsA_t {V T : Nat → Nat → Int32} {al : Nat → Int32} (h : lsR V T 9 0 = true) : lsA V T al = al := if_pos h
theorem lsA_f {V T : Nat → Nat → Int32} {al : Nat → Int32} (h : lsR V T 9 0 = false) : lsA V T al = apL al 0 (allL V) := if_neg (by rw [h]; decide)
theorem lsO_t {V T : Nat → Nat → Int32} {op : Nat → Int32} (h : lsR V T 9 0 = true) : lsO V T op = op := if_pos h
theorem lsO_f {V T : Nat → Nat → Int32} {op : Nat → Int32} (h : lsR V T 9 0 = false) : lsO V T op = apL op 0 (opnL V) := if_neg (by rw [h]; decide)

set_option maxHeartbeats 1000000 in
set_option maxRecDepth 100000 in
theorem c_X3_list (l : Launch) (D : va_G) (k : Nat → ClassId) (a b g : Nat → Nat) (V T : Nat → Nat → Int32) (al op wf : Nat → Int32)  : MV l yX3_list wsX3_list ({ frames := 12, cells := 0, slots := 0, locals := 425 }) D k [.ref (a 0), .ref (g 0)] (wWy k a b V (apL al 0 (allL V)) (apL op 0 (opnL V)) wf (nI ((allL V).length)) (nI ((opnL V).length)) ++ (wSt k g T)) (wWays k a b (lsS V T) (lsA V T al) (lsO V T op) wf ++ wSt k g T) := by
  intro sz
  refine Met.ofW (cc := cX3_list) (maxL := 3) (ret := none) (by decide) rfl ?_
  intro p e s m args below meth c s₁ B hml hv
  obtain ⟨rfl, hN, hsz, hP, hK, hD0⟩ := hv
  have hx := B.exec
  have hb := B.bytes
  have hr := B.returns
  have hts := atoms_spec (ws := wsX3_list) B.pre
  have hown : s.vm.findClass RX3 = some m.cls := findClass_of_methodNamed B.named
  have hlocks := B.notSynchronized
  subst hsz
  have hD := hD0.self (sz := s.heap.size)
  generalize hAe : va_A (wWy k a b V (apL al 0 (allL V)) (apL op 0 (opnL V)) wf (nI ((allL V).length)) (nI ((opnL V).length)) ++ (wSt k g T)) s.heap.size = A at hD ⊢
  have hA : ∀ q : Nat, s.heap.size ≤ q → A q := fun q h => by rw [← hAe]; exact Or.inr h
  have hS : va_S A s.heap s.heap [] := va_S.rf
  have hl := lv_entry ([.ref (a 0), .ref (g 0)]) (n := 3) (Nat.le_of_ble_eq_true rfl)
  rw [lg_entry_eq]
  generalize (lg_sl ([.ref (a 0), .ref (g 0)]) ++ List.replicate (3 - (lg_sl ([.ref (a 0), .ref (g 0)])).length) Slot.unset).toArray = ls at hl ⊢
  have hl : lv_has ls 3 [(0, .ref (a 0)), (1, .ref (g 0))] := hl
  obtain ⟨H, hHe⟩ : ∃ H, H = s.heap := ⟨_, rfl⟩
  have hP : va_P D vwCl (wWy k a b V (apL al 0 (allL V)) (apL op 0 (opnL V)) wf (nI ((allL V).length)) (nI ((opnL V).length)) ++ (wSt k g T)) H := by rw [hHe]; exact hP
  have hS : va_S A s.heap H [] := by rw [hHe]; exact hS
  rw [← hHe]
  refine absQ (fun Q hQ => ?_)
  refine lv_aload_n hx hb dX3_list_0 rfl (lv_at hl 0 rfl) ?_
  refine lv_aload_n hx hb dX3_list_1 rfl (lv_at hl 1 rfl) ?_
  have hPc : va_P D vwCl (wWy k a b V (apL al 0 (allL V)) (apL op 0 (opnL V)) wf (nI ((allL V).length)) (nI ((opnL V).length)) ++ (wSt k g T)) H := hP.sub [0, 1, 2, 3, 4, 5, 6, 7, 8, 9, 10, 11, 12, 13, 14, 15, 16, 17, 18, 19] rfl
  have hDc : va_D A (wWy k a b V (apL al 0 (allL V)) (apL op 0 (opnL V)) wf (nI ((allL V).length)) (nI ((opnL V).length)) ++ (wSt k g T)) := hD.sub [0, 1, 2, 3, 4, 5, 6, 7, 8, 9, 10, 11, 12, 13, 14, 15, 16, 17, 18, 19] (by decide +kernel) rfl
  refine cl_i0 (va_runV (As := [.ref (g 0)]) (rest := []) ⟨hx, hb, hml, hown, hts⟩ (c_X3_isListed l D k a b g V T (apL al 0 (allL V)) (apL op 0 (opnL V)) wf (nI (allL V).length) (nI (opnL V).length) H.size) (cwV 1 hts gX3_list_X3_isListed rfl rfl rfl (by decide +kernel) ⟨Nat.le_of_ble_eq_true rfl, Nat.le_of_ble_eq_true rfl⟩) ⟨pr_blind, va_recv hK hP (ci := 3) (q0 := 0) rfl rfl, pr_at hN hPc hK hDc⟩ rfl rfl hl.1 rfl (lv_room (Nat.le_of_ble_eq_true rfl)) dX3_list_2 ⟨Nat.le_of_ble_eq_true rfl, Nat.le_of_ble_eq_true rfl⟩) hP hD hS hA [0, 1, 2, 3, 4, 5, 6, 7, 8, 9, 10, 11, 12, 13, 14, 15, 16, 17, 18, 19] rfl (fun H locs hP hD hS => ?_)
  clear hPc hDc
  refine lv_if_eq (tgt := 9) hx hb dX3_list_5 (by decide) (fun c_1 => ?_) (fun c_1 => ?_)
  · have c_1 := bI_eq.mp c_1
    refine lv_aload_n hx hb dX3_list_9 rfl (lv_at hl 0 rfl) ?_
    refine va_get (D := D) (ci := 3) (v := .ref (b 0)) (C := RX3) (T := TX3) (N := 6) hx hb hts (fun _ h9 => (List.mem_cons_of_mem _ (List.mem_append_left _ (List.mem_append_right _ h9)))) hown hK hP 0 rfl rfl 4 (by decide) (hts _ (List.mem_of_getElem? (i := 1) rfl)) (fun _ h9 => h9) rfl dX3_list_10 ?_
    refine lv_aload_n hx hb dX3_list_13 rfl (lv_at hl 1 rfl) ?_
    have hPc : va_P D vwCl (wSt k b V ++ wSt k g T) H := hP.sub [4, 5, 6, 7, 8, 9, 10, 11, 12, 13, 14, 15, 16, 17, 18, 19] rfl
    have hDc : va_D A (wSt k b V ++ wSt k g T) := hD.sub [4, 5, 6, 7, 8, 9, 10, 11, 12, 13, 14, 15, 16, 17, 18, 19] (by decide +kernel) rfl
    refine cl_v (va_runV (As := [.ref (g 0)]) (rest := []) ⟨hx, hb, hml, hown, hts⟩ (c_X1_copyGraph l D k b g V T H.size) (cwV 1 hts gX3_list_X1_copyGraph rfl rfl rfl (by decide +kernel) ⟨Nat.le_of_ble_eq_true rfl, Nat.le_of_ble_eq_true rfl⟩) ⟨pr_blind, va_recv hK hP (ci := 1) (q0 := 4) rfl rfl, pr_at hN hPc hK hDc⟩ rfl rfl hl.1 rfl (lv_room (Nat.le_of_ble_eq_true rfl)) dX3_list_14 ⟨Nat.le_of_ble_eq_true rfl, Nat.le_of_ble_eq_true rfl⟩) hP hD hS hA [4, 5, 6, 7, 8, 9, 10, 11, 12, 13, 14, 15, 16, 17, 18, 19] [0, 1, 2, 3] ([(a 0, .inr (3, [.ref (a 1), .ref (a 2), .int (nI ((allL V).length)), .int (nI ((opnL V).length)), .ref (b 0), .ref (a 3)])), (a 1, .inl (k 0, 512, .inl (apL al 0 (allL V)))), (a 2, .inl (k 0, 512, .inl (apL op 0 (opnL V)))), (a 3, .inl (k 0, 9, .inl wf))]) [a 0, a 1, a 2, a 3, b 0, b 1, b 2, b 3, b 4, b 5, b 6, b 7, g 0, g 1, g 2, g 3, g 4, g 5, g 6, g 7] 20 rfl (wn := ([(a 0, .inr (3, [.ref (a 1), .ref (a 2), .int (nI ((allL V).length)), .int (nI ((opnL V).length)), .ref (b 0), .ref (a 3)])), (a 1, .inl (k 0, 512, .inl (apL al 0 (allL V)))), (a 2, .inl (k 0, 512, .inl (apL op 0 (opnL V)))), (a 3, .inl (k 0, 9, .inl wf)), (b 0, .inr (1, [.ref (b 1), .ref (b 2), .ref (b 3), .ref (b 4), .ref (b 5), .ref (b 6), .ref (b 7), .int (V 7 0), .int (V 7 1), .int (V 7 2)])), (b 1, .inl (k 0, 9, .inl (T 0))), (b 2, .inl (k 0, 9, .inl (T 1))), (b 3, .inl (k 0, 9, .inl (T 2))), (b 4, .inl (k 0, 9, .inl (T 3))), (b 5, .inl (k 0, 9, .inl (V 4))), (b 6, .inl (k 0, 12, .inl (V 5))), (b 7, .inl (k 0, 12, .inl (V 6)))] ++ (wSt k g T))) rfl rfl rfl rfl (by decide +kernel) rfl rfl (fun H locs hP hD hS => ?_)
    clear hPc hDc
    refine lv_aload_n hx hb dX3_list_17 rfl (lv_at hl 0 rfl) ?_
    refine lv_iconst (v := 0) hx hb dX3_list_18 (by decide) ?_
    refine va_put (D := D) (ci := 3) (v := .int 0) (ty := tyX3 2) (C := RX3) (T := TX3) (N := 6) hx hb hts (fun _ h9 => (List.mem_cons_of_mem _ (List.mem_append_left _ (List.mem_append_right _ h9)))) tyX3 tyX3_ok nmX3 hown hK hP hD hS 0 rfl rfl 2 (by decide) (hts _ (List.mem_of_getElem? (i := 2) rfl)) (fun _ h9 => h9) rfl (tyX3_ok 2 (by decide)) rfl rfl (Nat.le_of_ble_eq_true rfl) dX3_list_19 (fun H locs hP hD hS => ?_)
    have hP : va_P D vwCl ([(a 0, .inr (3, [.ref (a 1), .ref (a 2), .int 0, .int (nI ((opnL V).length)), .ref (b 0), .ref (a 3)])), (a 1, .inl (k 0, 512, .inl (apL al 0 (allL V)))), (a 2, .inl (k 0, 512, .inl (apL op 0 (opnL V)))), (a 3, .inl (k 0, 9, .inl wf)), (b 0, .inr (1, [.ref (b 1), .ref (b 2), .ref (b 3), .ref (b 4), .ref (b 5), .ref (b 6), .ref (b 7), .int (V 7 0), .int (V 7 1), .int (V 7 2)])), (b 1, .inl (k 0, 9, .inl (T 0))), (b 2, .inl (k 0, 9, .inl (T 1))), (b 3, .inl (k 0, 9, .inl (T 2))), (b 4, .inl (k 0, 9, .inl (T 3))), (b 5, .inl (k 0, 9, .inl (V 4))), (b 6, .inl (k 0, 12, .inl (V 5))), (b 7, .inl (k 0, 12, .inl (V 6)))] ++ (wSt k g T)) H := hP
    have hD : va_D A ([(a 0, .inr (3, [.ref (a 1), .ref (a 2), .int 0, .int (nI ((opnL V).length)), .ref (b 0), .ref (a 3)])), (a 1, .inl (k 0, 512, .inl (apL al 0 (allL V)))), (a 2, .inl (k 0, 512, .inl (apL op 0 (opnL V)))), (a 3, .inl (k 0, 9, .inl wf)), (b 0, .inr (1, [.ref (b 1), .ref (b 2), .ref (b 3), .ref (b 4), .ref (b 5), .ref (b 6), .ref (b 7), .int (V 7 0), .int (V 7 1), .int (V 7 2)])), (b 1, .inl (k 0, 9, .inl (T 0))), (b 2, .inl (k 0, 9, .inl (T 1))), (b 3, .inl (k 0, 9, .inl (T 2))), (b 4, .inl (k 0, 9, .inl (T 3))), (b 5, .inl (k 0, 9, .inl (V 4))), (b 6, .inl (k 0, 12, .inl (V 5))), (b 7, .inl (k 0, 12, .inl (V 6)))] ++ (wSt k g T)) := hD
    refine lv_iconst (v := 0) hx hb dX3_list_22 (by decide) ?_
    refine lv_istore_n (lv' := [(2, .int 0), (0, .ref (a 0)), (1, .ref (g 0))]) hx hb dX3_list_23 rfl hl (by decide) rfl (fun ls hl => ?_)
    suffices LOOP_i : ∀ (fu_i i : Nat) (al1 : Nat → Int32) (na1 : Int32), 9 - i < fu_i → i ≤ 9 → al1 = apL (apL al 0 (allL V)) 0 (loopL (fun q => if T 1 q &&& 1 = 0 then [] else walkL (T 2) (T 1) 9 q 0) 0 i) → na1 = nI (loopL (fun q => if T 1 q &&& 1 = 0 then [] else walkL (T 2) (T 1) 9 q 0) 0 i).length → ∀ (H : Heap) (locs : List Loc) (ls : Array Slot), va_P D vwCl ([(a 0, .inr (3, [.ref (a 1), .ref (a 2), .int na1, .int (nI ((opnL V).length)), .ref (b 0), .ref (a 3)])), (a 1, .inl (k 0, 512, .inl al1)), (a 2, .inl (k 0, 512, .inl (apL op 0 (opnL V)))), (a 3, .inl (k 0, 9, .inl wf)), (b 0, .inr (1, [.ref (b 1), .ref (b 2), .ref (b 3), .ref (b 4), .ref (b 5), .ref (b 6), .ref (b 7), .int (V 7 0), .int (V 7 1), .int (V 7 2)])), (b 1, .inl (k 0, 9, .inl (T 0))), (b 2, .inl (k 0, 9, .inl (T 1))), (b 3, .inl (k 0, 9, .inl (T 2))), (b 4, .inl (k 0, 9, .inl (T 3))), (b 5, .inl (k 0, 9, .inl (V 4))), (b 6, .inl (k 0, 12, .inl (V 5))), (b 7, .inl (k 0, 12, .inl (V 6)))] ++ (wSt k g T)) H → va_D A ([(a 0, .inr (3, [.ref (a 1), .ref (a 2), .int na1, .int (nI ((opnL V).length)), .ref (b 0), .ref (a 3)])), (a 1, .inl (k 0, 512, .inl al1)), (a 2, .inl (k 0, 512, .inl (apL op 0 (opnL V)))), (a 3, .inl (k 0, 9, .inl wf)), (b 0, .inr (1, [.ref (b 1), .ref (b 2), .ref (b 3), .ref (b 4), .ref (b 5), .ref (b 6), .ref (b 7), .int (V 7 0), .int (V 7 1), .int (V 7 2)])), (b 1, .inl (k 0, 9, .inl (T 0))), (b 2, .inl (k 0, 9, .inl (T 1))), (b 3, .inl (k 0, 9, .inl (T 2))), (b 4, .inl (k 0, 9, .inl (T 3))), (b 5, .inl (k 0, 9, .inl (V 4))), (b 6, .inl (k 0, 12, .inl (V 5))), (b 7, .inl (k 0, 12, .inl (V 6)))] ++ (wSt k g T)) → va_S A s.heap H locs → lv_has ls 3 [(2, .int (nI i)), (0, .ref (a 0)), (1, .ref (g 0))] → W p l e ({ frames := 12, cells := 0, slots := 0, locals := 425 } : Room) s m ([.ref (a 0), .ref (g 0)] : List Value).toArray below meth c H locs 0 0 Q (F0 m 24 ls []) from LOOP_i (9 + 1) 0 (apL al 0 (allL V)) 0 (by omega) (by omega) ((apL_nil _ _).symm) (rfl)  _ _ _ hP hD hS (lv_sub hl [0, 1, 2] rfl)
    clear hP hD hS hl hHe
    intro fu_i
    induction fu_i with
    | zero => intro i al1 na1 hn_i; omega
    | succ fu_i ih_i =>
      intro i al1 na1 hn_i hle_i e_al1 e_na1  H locs ls hP hD hS hl
      subst e_al1
      subst e_na1
      refine lv_iload_n hx hb dX3_list_24 rfl (lv_at hl 0 rfl) ?_
      refine lv_bipush (v := 9) hx hb dX3_list_25 (by decide) ?_
      refine lv_icmp_ge (tgt := 57) hx hb dX3_list_27 (by decide) (fun c_2 => ?_) (fun c_2 => ?_)
      · have c_2 : 9 ≤ i := (nI_leI (a := 9) (b := i) (by omega) (by omega)).mp c_2
        obtain rfl : i = 9 := by omega
        refine lv_aload_n hx hb dX3_list_57 rfl (lv_at hl 1 rfl) ?_
        have hPc : va_P D vwCl (wWy k a b (mkS (T 0) (T 1) (T 2) (T 3) (V 4) (V 5) (V 6) (V 7)) (apL (apL al 0 (allL V)) 0 (loopL (fun q => if T 1 q &&& 1 = 0 then [] else walkL (T 2) (T 1) 9 q 0) 0 9)) (apL op 0 (opnL V)) wf (nI (loopL (fun q => if T 1 q &&& 1 = 0 then [] else walkL (T 2) (T 1) 9 q 0) 0 9).length) (nI (opnL V).length)) H := hP.sub [0, 1, 2, 3, 4, 5, 6, 7, 8, 9, 10, 11] rfl
        have hDc : va_D A (wWy k a b (mkS (T 0) (T 1) (T 2) (T 3) (V 4) (V 5) (V 6) (V 7)) (apL (apL al 0 (allL V)) 0 (loopL (fun q => if T 1 q &&& 1 = 0 then [] else walkL (T 2) (T 1) 9 q 0) 0 9)) (apL op 0 (opnL V)) wf (nI (loopL (fun q => if T 1 q &&& 1 = 0 then [] else walkL (T 2) (T 1) 9 q 0) 0 9).length) (nI (opnL V).length)) := hD.sub [0, 1, 2, 3, 4, 5, 6, 7, 8, 9, 10, 11] (by decide +kernel) rfl
        refine cl_v (va_runV (As := []) (rest := []) ⟨hx, hb, hml, hown, hts⟩ (c_X3_pickOpen l D k a b (mkS (T 0) (T 1) (T 2) (T 3) (V 4) (V 5) (V 6) (V 7)) (apL op 0 (opnL V)) wf (nI (opnL V).length) (apL al 0 (allL V)) (loopL (fun q => if T 1 q &&& 1 = 0 then [] else walkL (T 2) (T 1) 9 q 0) 0 9) (allL_len (mkS (T 0) (T 1) (T 2) (T 3) (V 4) (V 5) (V 6) (V 7))) H.size) (cwV 0 hts gX3_list_X3_pickOpen rfl rfl rfl (by decide +kernel) ⟨Nat.le_of_ble_eq_true rfl, Nat.le_of_ble_eq_true rfl⟩) ⟨pr_blind, va_recv hK hP (ci := 3) (q0 := 0) rfl rfl, pr_at hN hPc hK hDc⟩ rfl rfl hl.1 rfl (lv_room (Nat.le_of_ble_eq_true rfl)) dX3_list_58 ⟨Nat.le_of_ble_eq_true rfl, Nat.le_of_ble_eq_true rfl⟩) hP hD hS hA [0, 1, 2, 3, 4, 5, 6, 7, 8, 9, 10, 11] [12, 13, 14, 15, 16, 17, 18, 19] (wSt k g T) [a 0, a 1, a 2, a 3, b 0, b 1, b 2, b 3, b 4, b 5, b 6, b 7, g 0, g 1, g 2, g 3, g 4, g 5, g 6, g 7] 20 rfl (wn := ([(a 0, .inr (3, [.ref (a 1), .ref (a 2), .int (nI ((loopL (fun q => if T 1 q &&& 1 = 0 then [] else walkL (T 2) (T 1) 9 q 0) 0 9).length)), .int (nI ((opnF (mkS (T 0) (T 1) (T 2) (T 3) (V 4) (V 5) (V 6) (V 7)) (loopL (fun q => if T 1 q &&& 1 = 0 then [] else walkL (T 2) (T 1) 9 q 0) 0 9)).length)), .ref (b 0), .ref (a 3)])), (a 1, .inl (k 0, 512, .inl (apL (apL al 0 (allL V)) 0 (loopL (fun q => if T 1 q &&& 1 = 0 then [] else walkL (T 2) (T 1) 9 q 0) 0 9)))), (a 2, .inl (k 0, 512, .inl (apL (apL op 0 (opnL V)) 0 (opnF (mkS (T 0) (T 1) (T 2) (T 3) (V 4) (V 5) (V 6) (V 7)) (loopL (fun q => if T 1 q &&& 1 = 0 then [] else walkL (T 2) (T 1) 9 q 0) 0 9))))), (a 3, .inl (k 0, 9, .inl wf)), (b 0, .inr (1, [.ref (b 1), .ref (b 2), .ref (b 3), .ref (b 4), .ref (b 5), .ref (b 6), .ref (b 7), .int (V 7 0), .int (V 7 1), .int (V 7 2)])), (b 1, .inl (k 0, 9, .inl (T 0))), (b 2, .inl (k 0, 9, .inl (T 1))), (b 3, .inl (k 0, 9, .inl (T 2))), (b 4, .inl (k 0, 9, .inl (T 3))), (b 5, .inl (k 0, 9, .inl (V 4))), (b 6, .inl (k 0, 12, .inl (V 5))), (b 7, .inl (k 0, 12, .inl (V 6)))] ++ (wSt k g T))) rfl rfl rfl rfl (by decide +kernel) rfl rfl (fun H locs hP hD hS => ?_)
        clear hPc hDc
        subst hQ
        exact rt_v hx hb hr hlocks hS dX3_list_61 (by rw [lsS_f c_1, lsA_f c_1, lsO_f c_1]; exact hP)
      · have c_2 : ¬ (9 ≤ i) := fun h9 => c_2 ((nI_leI (a := 9) (b := i) (by omega) (by omega)).mpr h9)
        refine lv_aload_n hx hb dX3_list_30 rfl (lv_at hl 1 rfl) ?_
        refine va_get (D := D) (ci := 3) (v := .ref (b 0)) (C := RX3) (T := TX3) (N := 6) hx hb hts (fun _ h9 => (List.mem_cons_of_mem _ (List.mem_append_left _ (List.mem_append_right _ h9)))) hown hK hP 0 rfl rfl 4 (by decide) (hts _ (List.mem_of_getElem? (i := 1) rfl)) (fun _ h9 => h9) rfl dX3_list_31 ?_
        refine va_get (D := D) (ci := 1) (v := .ref (b 2)) (C := RX1) (T := TX1) (N := 10) hx hb hts (fun _ h9 => (List.mem_cons_of_mem _ (List.mem_append_right _ h9))) hown hK hP 4 rfl rfl 1 (by decide) (hts _ (List.mem_of_getElem? (i := 3) rfl)) (fun _ h9 => h9) rfl dX3_list_34 ?_
        refine lv_iload_n hx hb dX3_list_37 rfl (lv_at hl 0 rfl) ?_
        refine ar_ld hx hb hK hP 6 rfl i (nI_clamp (by omega)) (vp_in_nI (by omega) (by omega)) dX3_list_38 ?_
        refine lv_iconst (v := 1) hx hb dX3_list_39 (by decide) ?_
        refine lv_iand hx hb dX3_list_40 ?_
        refine lv_if_eq (tgt := 51) hx hb dX3_list_41 (by decide) (fun c_3 => ?_) (fun c_3 => ?_)
        · refine lv_iinc (v := (nI (i + 1))) (lv' := [(2, .int (nI (i + 1))), (0, .ref (a 0)), (1, .ref (g 0))]) hx hb dX3_list_51 hl (k := 0) rfl (nI_1 i) (by decide) rfl (fun ls hl => ?_)
          refine lv_goto (tgt := 24) hx hb dX3_list_54 (by decide) ?_
          exact ih_i (i + 1) (apL (apL al 0 (allL V)) 0 (loopL (fun q => if T 1 q &&& 1 = 0 then [] else walkL (T 2) (T 1) 9 q 0) 0 i)) (nI ((loopL (fun q => if T 1 q &&& 1 = 0 then [] else walkL (T 2) (T 1) 9 q 0) 0 i).length)) (by omega) (by omega) (by rw [loopL_z]; simp only [if_pos c_3, List.append_nil]) (by rw [loopL_z]; simp only [if_pos c_3, List.append_nil])  _ _ _ hP hD hS (lv_sub hl [0, 1, 2] rfl)
        · refine lv_aload_n hx hb dX3_list_44 rfl (lv_at hl 1 rfl) ?_
          refine lv_iload_n hx hb dX3_list_45 rfl (lv_at hl 0 rfl) ?_
          refine lv_iconst (v := 0) hx hb dX3_list_46 (by decide) ?_
          refine lv_iconst (v := 0) hx hb dX3_list_47 (by decide) ?_
          have hlc : (loopL (fun q => if T 1 q &&& 1 = 0 then [] else walkL (T 2) (T 1) 9 q 0) 0 i).length + (walkL (T 2) (T 1) 9 i 0).length ≤ 512 := by
            have h9 := loopL_le (fun q => if T 1 q &&& 1 = 0 then [] else walkL (T 2) (T 1) 9 q 0) 0 i 9 (Nat.zero_le _) (by omega)
            have h8 : (loopL (fun q => if T 1 q &&& 1 = 0 then [] else walkL (T 2) (T 1) 9 q 0) 0 9).length ≤ 511 := allL_len (mkS (T 0) (T 1) (T 2) (T 3) (V 4) (V 5) (V 6) (V 7))
            rw [Nat.sub_zero] at h9
            simp only [if_neg c_3] at h9
            omega
          have hPc : va_P D vwCl (wWy k a b (mkS (T 0) (T 1) (T 2) (T 3) (V 4) (V 5) (V 6) (V 7)) (apL (apL al 0 (allL V)) 0 (loopL (fun q => if T 1 q &&& 1 = 0 then [] else walkL (T 2) (T 1) 9 q 0) 0 i)) (apL op 0 (opnL V)) wf (nI (loopL (fun q => if T 1 q &&& 1 = 0 then [] else walkL (T 2) (T 1) 9 q 0) 0 i).length) (nI (opnL V).length)) H := hP.sub [0, 1, 2, 3, 4, 5, 6, 7, 8, 9, 10, 11] rfl
          have hDc : va_D A (wWy k a b (mkS (T 0) (T 1) (T 2) (T 3) (V 4) (V 5) (V 6) (V 7)) (apL (apL al 0 (allL V)) 0 (loopL (fun q => if T 1 q &&& 1 = 0 then [] else walkL (T 2) (T 1) 9 q 0) 0 i)) (apL op 0 (opnL V)) wf (nI (loopL (fun q => if T 1 q &&& 1 = 0 then [] else walkL (T 2) (T 1) 9 q 0) 0 i).length) (nI (opnL V).length)) := hD.sub [0, 1, 2, 3, 4, 5, 6, 7, 8, 9, 10, 11] (by decide +kernel) rfl
          refine cl_v (va_runS (As := [.ref (a 0), .int (nI i), .int 0, .int 0]) (rest := []) ⟨hx, hb, hml, hown, hts⟩ (c_X3_walk l D k a b (mkS (T 0) (T 1) (T 2) (T 3) (V 4) (V 5) (V 6) (V 7)) (apL op 0 (opnL V)) wf (nI (opnL V).length) 9 i 0 (loopL (fun q => if T 1 q &&& 1 = 0 then [] else walkL (T 2) (T 1) 9 q 0) 0 i).length 0 (apL (apL al 0 (allL V)) 0 (loopL (fun q => if T 1 q &&& 1 = 0 then [] else walkL (T 2) (T 1) 9 q 0) 0 i)) (by omega) (by omega) (by omega) hlc H.size) (va_cwS 4 hts gX3_list_X3_walk rfl rfl rfl (by decide +kernel) ⟨Nat.le_of_ble_eq_true rfl, Nat.le_of_ble_eq_true rfl⟩) ⟨pr_blind, pr_at hN hPc hK hDc⟩ rfl rfl hl.1 rfl (lv_room (Nat.le_of_ble_eq_true rfl)) dX3_list_48 ⟨Nat.le_of_ble_eq_true rfl, Nat.le_of_ble_eq_true rfl⟩) hP hD hS hA [0, 1, 2, 3, 4, 5, 6, 7, 8, 9, 10, 11] [12, 13, 14, 15, 16, 17, 18, 19] (wSt k g T) [a 0, a 1, a 2, a 3, b 0, b 1, b 2, b 3, b 4, b 5, b 6, b 7, g 0, g 1, g 2, g 3, g 4, g 5, g 6, g 7] 20 rfl (wn := ([(a 0, .inr (3, [.ref (a 1), .ref (a 2), .int (nI ((loopL (fun q => if T 1 q &&& 1 = 0 then [] else walkL (T 2) (T 1) 9 q 0) 0 i).length + (walkL (T 2) (T 1) 9 i 0).length)), .int (nI ((opnL V).length)), .ref (b 0), .ref (a 3)])), (a 1, .inl (k 0, 512, .inl (apL (apL (apL al 0 (allL V)) 0 (loopL (fun q => if T 1 q &&& 1 = 0 then [] else walkL (T 2) (T 1) 9 q 0) 0 i)) (loopL (fun q => if T 1 q &&& 1 = 0 then [] else walkL (T 2) (T 1) 9 q 0) 0 i).length (walkL (T 2) (T 1) 9 i 0)))), (a 2, .inl (k 0, 512, .inl (apL op 0 (opnL V)))), (a 3, .inl (k 0, 9, .inl wf)), (b 0, .inr (1, [.ref (b 1), .ref (b 2), .ref (b 3), .ref (b 4), .ref (b 5), .ref (b 6), .ref (b 7), .int (V 7 0), .int (V 7 1), .int (V 7 2)])), (b 1, .inl (k 0, 9, .inl (T 0))), (b 2, .inl (k 0, 9, .inl (T 1))), (b 3, .inl (k 0, 9, .inl (T 2))), (b 4, .inl (k 0, 9, .inl (T 3))), (b 5, .inl (k 0, 9, .inl (V 4))), (b 6, .inl (k 0, 12, .inl (V 5))), (b 7, .inl (k 0, 12, .inl (V 6)))] ++ (wSt k g T))) rfl rfl rfl rfl (by decide +kernel) rfl rfl (fun H locs hP hD hS => ?_)
          clear hPc hDc
          refine lv_iinc (v := (nI (i + 1))) (lv' := [(2, .int (nI (i + 1))), (0, .ref (a 0)), (1, .ref (g 0))]) hx hb dX3_list_51 hl (k := 0) rfl (nI_1 i) (by decide) rfl (fun ls hl => ?_)
          refine lv_goto (tgt := 24) hx hb dX3_list_54 (by decide) ?_
          exact ih_i (i + 1) (apL (apL (apL al 0 (allL V)) 0 (loopL (fun q => if T 1 q &&& 1 = 0 then [] else walkL (T 2) (T 1) 9 q 0) 0 i)) (loopL (fun q => if T 1 q &&& 1 = 0 then [] else walkL (T 2) (T 1) 9 q 0) 0 i).length (walkL (T 2) (T 1) 9 i 0)) (nI ((loopL (fun q => if T 1 q &&& 1 = 0 then [] else walkL (T 2) (T 1) 9 q 0) 0 i).length + (walkL (T 2) (T 1) 9 i 0).length)) (by omega) (by omega) (by rw [apL_app0, loopL_z]; simp only [if_neg c_3]) (by rw [loopL_z, List.length_append]; simp only [if_neg c_3])  _ _ _ hP hD hS (lv_sub hl [0, 1, 2] rfl)
  · have c_1 := bI_ne.mp c_1
    subst hQ
    exact rt_v hx hb hr hlocks hS dX3_list_8 (by rw [lsS_t c_1, lsA_t c_1, lsO_t c_1]; exact hP)
