set_option maxHeartbeats 1000000 in
set_option maxRecDepth 100000 in
theorem c_X5_load (l : Launch) (D : va_G) (k : Nat → ClassId) (h : Nat → Nat) (th : Int32) (f asd sl kp sv : Nat → Int32) (tx : Nat → Int32) (ln : Nat) (dg : Int64) (n : Nat) (hln : ln ≤ 60) (hn : n ≤ 6) (h1 : wrM tx ln 0 = -1) : MI l yX5_load wsX5_load ({ frames := 5, cells := 0, slots := 0, locals := 109 }) D k [.ref (h 0)] (wMo k h th f asd sl kp sv (nI n) tx (nI ln) dg) (jnM (anM (ldM tx ln 0 (bkF f (fun _ => 0) 0 45))) 9) (wMo k h 0 (anM (ldM tx ln 0 (bkF f (fun _ => 0) 0 45))) asd sl kp (svM sv f n) (nI (snM n)) tx 0 dg) := by
  intro sz
  refine Met.ofW (cc := cX5_load) (maxL := 3) (ret := (some .int)) (by decide) rfl ?_
  intro p e s m args below meth c s₁ B hml hv
  obtain ⟨rfl, hN, hsz, hP, hK, hD0⟩ := hv
  have hx := B.exec
  have hb := B.bytes
  have hr := B.returns
  have hts := atoms_spec (ws := wsX5_load) B.pre
  have hown : s.vm.findClass RX5 = some m.cls := findClass_of_methodNamed B.named
  have hlocks := B.notSynchronized
  subst hsz
  have hD := hD0.self (sz := s.heap.size)
  generalize hAe : va_A (wMo k h th f asd sl kp sv (nI n) tx (nI ln) dg) s.heap.size = A at hD ⊢
  have hA : ∀ q : Nat, s.heap.size ≤ q → A q := fun q h => by rw [← hAe]; exact Or.inr h
  have hS : va_S A s.heap s.heap [] := va_S.rf
  have hl := lv_entry ([.ref (h 0)]) (n := 3) (Nat.le_of_ble_eq_true rfl)
  rw [lg_entry_eq]
  generalize (lg_sl ([.ref (h 0)]) ++ List.replicate (3 - (lg_sl ([.ref (h 0)])).length) Slot.unset).toArray = ls at hl ⊢
  have hl : lv_has ls 3 [(0, .ref (h 0))] := hl
  obtain ⟨H, hHe⟩ : ∃ H, H = s.heap := ⟨_, rfl⟩
  have hP : va_P D vwCl (wMo k h th f asd sl kp sv (nI n) tx (nI ln) dg) H := by rw [hHe]; exact hP
  have hS : va_S A s.heap H [] := by rw [hHe]; exact hS
  rw [← hHe]
  refine absQ (fun Q hQ => ?_)
  refine lv_aload_n hx hb dX5_load_0 rfl (lv_at hl 0 rfl) ?_
  refine lv_aload_n hx hb dX5_load_1 rfl (lv_at hl 0 rfl) ?_
  have hPc : va_P D vwCl (wMo k h th f asd sl kp sv (nI n) tx (nI ln) dg) H := hP.sub [0, 1, 2, 3, 4, 5, 6] rfl
  have hDc : va_D A (wMo k h th f asd sl kp sv (nI n) tx (nI ln) dg) := hD.sub [0, 1, 2, 3, 4, 5, 6] (by decide +kernel) rfl
  refine cl_i0 (va_runV (As := []) (rest := [.ref (h 0)]) ⟨hx, hb, hml, hown, hts⟩ (c_X5_wrong l D k h th f asd sl kp sv (nI n) tx ln dg hln H.size) (cwV 0 hts gX5_load_X5_wrong rfl rfl rfl (by decide +kernel) ⟨Nat.le_of_ble_eq_true rfl, Nat.le_of_ble_eq_true rfl⟩) ⟨pr_blind, va_recv hK hP (ci := 5) (q0 := 0) rfl rfl, pr_at hN hPc hK hDc⟩ rfl rfl hl.1 rfl (lv_room (Nat.le_of_ble_eq_true rfl)) dX5_load_2 ⟨Nat.le_of_ble_eq_true rfl, Nat.le_of_ble_eq_true rfl⟩) hP hD hS hA [0, 1, 2, 3, 4, 5, 6] rfl (fun H locs hP hD hS => ?_)
  clear hPc hDc
  refine lv_iconst (v := (-1)) hx hb dX5_load_5 (by decide) ?_
  refine lv_icmp_ne (tgt := 13) hx hb dX5_load_6 (by decide) (fun c_1 => ?_) (fun c_1 => ?_)
  · exact absurd h1 c_1
  · refine lv_iconst (v := 0) hx hb dX5_load_9 (by decide) ?_
    refine lv_goto (tgt := 14) hx hb dX5_load_10 (by decide) ?_
    have hPc : va_P D vwCl (wMo k h th f asd sl kp sv (nI n) tx (nI ln) dg) H := hP.sub [0, 1, 2, 3, 4, 5, 6] rfl
    have hDc : va_D A (wMo k h th f asd sl kp sv (nI n) tx (nI ln) dg) := hD.sub [0, 1, 2, 3, 4, 5, 6] (by decide +kernel) rfl
    refine cl_i (va_runV (As := [.int 0]) (rest := []) ⟨hx, hb, hml, hown, hts⟩ (c_X5_holds l D k h th f asd sl kp sv (nI n) tx (nI ln) dg 0 H.size) (cwV 1 hts gX5_load_X5_holds rfl rfl rfl (by decide +kernel) ⟨Nat.le_of_ble_eq_true rfl, Nat.le_of_ble_eq_true rfl⟩) ⟨pr_blind, va_recv hK hP (ci := 5) (q0 := 0) rfl rfl, pr_at hN hPc hK hDc⟩ rfl rfl hl.1 rfl (lv_room (Nat.le_of_ble_eq_true rfl)) dX5_load_14 ⟨Nat.le_of_ble_eq_true rfl, Nat.le_of_ble_eq_true rfl⟩) hP hD hS hA [0, 1, 2, 3, 4, 5, 6] [] ([]) [h 0, h 1, h 2, h 3, h 4, h 5, h 6] 7 rfl (wn := wMo k h 0 f asd sl kp sv (nI n) tx (nI ln) dg) rfl rfl rfl rfl (by decide +kernel) rfl rfl (fun H locs hP hD hS => ?_)
    clear hPc hDc
    refine tp_e (y := 1) (by decide) ?_
    refine lv_if_ne (tgt := 22) hx hb dX5_load_17 (by decide) (fun c_2 => ?_) (fun c_2 => ?_)
    · refine lv_aload_n hx hb dX5_load_22 rfl (lv_at hl 0 rfl) ?_
      have hPc : va_P D vwCl (wMo k h 0 f asd sl kp sv (nI n) tx (nI ln) dg) H := hP.sub [0, 1, 2, 3, 4, 5, 6] rfl
      have hDc : va_D A (wMo k h 0 f asd sl kp sv (nI n) tx (nI ln) dg) := hD.sub [0, 1, 2, 3, 4, 5, 6] (by decide +kernel) rfl
      refine cl_v (va_runV (As := []) (rest := []) ⟨hx, hb, hml, hown, hts⟩ (c_X5_save l D k h 0 f asd sl kp sv tx (nI ln) dg n hn H.size) (cwV 0 hts gX5_load_X5_save rfl rfl rfl (by decide +kernel) ⟨Nat.le_of_ble_eq_true rfl, Nat.le_of_ble_eq_true rfl⟩) ⟨pr_blind, va_recv hK hP (ci := 5) (q0 := 0) rfl rfl, pr_at hN hPc hK hDc⟩ rfl rfl hl.1 rfl (lv_room (Nat.le_of_ble_eq_true rfl)) dX5_load_23 ⟨Nat.le_of_ble_eq_true rfl, Nat.le_of_ble_eq_true rfl⟩) hP hD hS hA [0, 1, 2, 3, 4, 5, 6] [] ([]) [h 0, h 1, h 2, h 3, h 4, h 5, h 6] 7 rfl (wn := wMo k h 0 f asd sl kp (svM sv f n) (nI (snM n)) tx (nI ln) dg) rfl rfl rfl rfl (by decide +kernel) rfl rfl (fun H locs hP hD hS => ?_)
      clear hPc hDc
      refine lv_iconst (v := 0) hx hb dX5_load_26 (by decide) ?_
      refine lv_istore_n (lv' := [(1, .int 0), (0, .ref (h 0))]) hx hb dX5_load_27 rfl hl (by decide) rfl (fun ls hl => ?_)
      suffices LOOP_i : ∀ (fu_i i : Nat) (g : Nat → Int32), 45 - i < fu_i → i ≤ 45 → g = bkF f (fun _ => 0) 0 i → ∀ (H : Heap) (locs : List Loc) (ls : Array Slot), va_P D vwCl ([(h 0, .inr (5, [.int 0, .ref (h 1), .ref (h 2), .ref (h 3), .ref (h 4), .ref (h 5), .int (nI (snM n)), .ref (h 6), .int (nI ln), .long dg])), (h 1, .inl (k 0, 72, .inl g)), (h 2, .inl (k 0, 72, .inl asd)), (h 3, .inl (k 0, 144, .inl sl)), (h 4, .inl (k 1, 2, .inl kp)), (h 5, .inl (k 0, 432, .inl (svM sv f n))), (h 6, .inl (k 0, 60, .inl tx))]) H → va_D A ([(h 0, .inr (5, [.int 0, .ref (h 1), .ref (h 2), .ref (h 3), .ref (h 4), .ref (h 5), .int (nI (snM n)), .ref (h 6), .int (nI ln), .long dg])), (h 1, .inl (k 0, 72, .inl g)), (h 2, .inl (k 0, 72, .inl asd)), (h 3, .inl (k 0, 144, .inl sl)), (h 4, .inl (k 1, 2, .inl kp)), (h 5, .inl (k 0, 432, .inl (svM sv f n))), (h 6, .inl (k 0, 60, .inl tx))]) → va_S A s.heap H locs → lv_has ls 3 [(1, .int (nI i)), (0, .ref (h 0))] → W p l e ({ frames := 5, cells := 0, slots := 0, locals := 109 } : Room) s m ([.ref (h 0)] : List Value).toArray below meth c H locs 0 0 Q (F0 m 28 ls []) from LOOP_i (45 + 1) 0 f (by omega) (by omega) ((bkF_0 _ _ _).symm)  _ _ _ hP hD hS (lv_sub hl [0, 1] rfl)
      clear hP hD hS hl hHe
      intro fu_i
      induction fu_i with
      | zero => intro i g hn_i; omega
      | succ fu_i ih_i =>
        intro i g hn_i hle_i e_g  H locs ls hP hD hS hl
        refine lv_iload_n hx hb dX5_load_28 rfl (lv_at hl 0 rfl) ?_
        refine lv_bipush (v := 45) hx hb dX5_load_29 (by decide) ?_
        refine lv_icmp_ge (tgt := 47) hx hb dX5_load_31 (by decide) (fun c_3 => ?_) (fun c_3 => ?_)
        · have c_3 : 45 ≤ i := (nI_leI (a := 45) (b := i) (by omega) (by omega)).mp c_3
          have hz_i : 45 = i := by omega
          subst hz_i
          subst e_g
          refine lv_iconst (v := 0) hx hb dX5_load_47 (by decide) ?_
          refine lv_istore_n (lv' := [(1, .int 0), (0, .ref (h 0))]) hx hb dX5_load_48 rfl hl (by decide) rfl (fun ls hl => ?_)
          suffices LOOP_j : ∀ (fu_j j : Nat) (v : Nat → Int32), (ln + 1) - j < fu_j → j ≤ (ln + 1) → (ldM tx ln j v = ldM tx ln 0 (bkF f (fun _ => 0) 0 45)) → (j < ln → wrM tx ln j = -1) → ∀ (H : Heap) (locs : List Loc) (ls : Array Slot), va_P D vwCl ([(h 0, .inr (5, [.int 0, .ref (h 1), .ref (h 2), .ref (h 3), .ref (h 4), .ref (h 5), .int (nI (snM n)), .ref (h 6), .int (nI ln), .long dg])), (h 1, .inl (k 0, 72, .inl v)), (h 2, .inl (k 0, 72, .inl asd)), (h 3, .inl (k 0, 144, .inl sl)), (h 4, .inl (k 1, 2, .inl kp)), (h 5, .inl (k 0, 432, .inl (svM sv f n))), (h 6, .inl (k 0, 60, .inl tx))]) H → va_D A ([(h 0, .inr (5, [.int 0, .ref (h 1), .ref (h 2), .ref (h 3), .ref (h 4), .ref (h 5), .int (nI (snM n)), .ref (h 6), .int (nI ln), .long dg])), (h 1, .inl (k 0, 72, .inl v)), (h 2, .inl (k 0, 72, .inl asd)), (h 3, .inl (k 0, 144, .inl sl)), (h 4, .inl (k 1, 2, .inl kp)), (h 5, .inl (k 0, 432, .inl (svM sv f n))), (h 6, .inl (k 0, 60, .inl tx))]) → va_S A s.heap H locs → lv_has ls 3 [(1, .int (nI j)), (0, .ref (h 0))] → W p l e ({ frames := 5, cells := 0, slots := 0, locals := 109 } : Room) s m ([.ref (h 0)] : List Value).toArray below meth c H locs 0 0 Q (F0 m 49 ls []) from LOOP_j ((ln + 1) + 1) 0 (bkF f (fun _ => 0) 0 45) (by omega) (by omega)  (rfl) (fun _ => h1) _ _ _ hP hD hS (lv_sub hl [0, 1] rfl)
          clear hP hD hS hl
          intro fu_j
          induction fu_j with
          | zero => intro j v hn_j; omega
          | succ fu_j ih_j =>
            intro j v hn_j hle_j  hv hw H locs ls hP hD hS hl
            refine lv_iload_n hx hb dX5_load_49 rfl (lv_at hl 0 rfl) ?_
            refine lv_aload_n hx hb dX5_load_50 rfl (lv_at hl 1 rfl) ?_
            refine va_get (D := D) (ci := 5) (v := .int (nI ln)) (C := RX5) (T := TX5) (N := 10) hx hb hts (fun _ h9 => (List.mem_cons_of_mem _ (List.mem_append_right _ h9))) hown hK hP 0 rfl rfl 8 (by decide) (hts _ (List.mem_of_getElem? (i := 2) rfl)) (fun _ h9 => h9) rfl dX5_load_51 ?_
            refine lv_icmp_ge (tgt := 76) hx hb dX5_load_54 (by decide) (fun c_4 => ?_) (fun c_4 => ?_)
            · have c_4 : ln ≤ j := (nI_leI (a := ln) (b := j) (by omega) (by omega)).mp c_4
              have hv9 : v = ldM tx ln 0 (bkF f (fun _ => 0) 0 45) := by rw [← hv]; exact (ldM_e v (by omega)).symm
              subst hv9
              refine lv_aload_n hx hb dX5_load_76 rfl (lv_at hl 1 rfl) ?_
              have hPc : va_P D vwCl (wMo k h 0 (ldM tx ln 0 (bkF f (fun _ => 0) 0 45)) asd sl kp (svM sv f n) (nI (snM n)) tx (nI ln) dg) H := hP.sub [0, 1, 2, 3, 4, 5, 6] rfl
              have hDc : va_D A (wMo k h 0 (ldM tx ln 0 (bkF f (fun _ => 0) 0 45)) asd sl kp (svM sv f n) (nI (snM n)) tx (nI ln) dg) := hD.sub [0, 1, 2, 3, 4, 5, 6] (by decide +kernel) rfl
              refine cl_v (va_runV (As := []) (rest := []) ⟨hx, hb, hml, hown, hts⟩ (c_X5_anew l D k h 0 (ldM tx ln 0 (bkF f (fun _ => 0) 0 45)) asd sl kp (svM sv f n) (nI (snM n)) tx (nI ln) dg  H.size) (cwV 0 hts gX5_load_X5_anew rfl rfl rfl (by decide +kernel) ⟨Nat.le_of_ble_eq_true rfl, Nat.le_of_ble_eq_true rfl⟩) ⟨pr_blind, va_recv hK hP (ci := 5) (q0 := 0) rfl rfl, pr_at hN hPc hK hDc⟩ rfl rfl hl.1 rfl (lv_room (Nat.le_of_ble_eq_true rfl)) dX5_load_77 ⟨Nat.le_of_ble_eq_true rfl, Nat.le_of_ble_eq_true rfl⟩) hP hD hS hA [0, 1, 2, 3, 4, 5, 6] [] ([]) [h 0, h 1, h 2, h 3, h 4, h 5, h 6] 7 rfl (wn := wMo k h 0 (anM (ldM tx ln 0 (bkF f (fun _ => 0) 0 45))) asd sl kp (svM sv f n) (nI (snM n)) tx (nI ln) dg) rfl rfl rfl rfl (by decide +kernel) rfl rfl (fun H locs hP hD hS => ?_)
              clear hPc hDc
              refine lv_aload_n hx hb dX5_load_80 rfl (lv_at hl 1 rfl) ?_
              refine lv_iconst (v := 0) hx hb dX5_load_81 (by decide) ?_
              refine va_put (D := D) (ci := 5) (v := .int 0) (ty := tyX5 8) (C := RX5) (T := TX5) (N := 10) hx hb hts (fun _ h9 => (List.mem_cons_of_mem _ (List.mem_append_right _ h9))) tyX5 tyX5_ok nmX5 hown hK hP hD hS 0 rfl rfl 8 (by decide) (hts _ (List.mem_of_getElem? (i := 2) rfl)) (fun _ h9 => h9) rfl (tyX5_ok 8 (by decide)) rfl rfl (Nat.le_of_ble_eq_true rfl) dX5_load_82 (fun H locs hP hD hS => ?_)
              have hP : va_P D vwCl ([(h 0, .inr (5, [.int 0, .ref (h 1), .ref (h 2), .ref (h 3), .ref (h 4), .ref (h 5), .int (nI (snM n)), .ref (h 6), .int 0, .long dg])), (h 1, .inl (k 0, 72, .inl (anM (ldM tx ln 0 (bkF f (fun _ => 0) 0 45))))), (h 2, .inl (k 0, 72, .inl asd)), (h 3, .inl (k 0, 144, .inl sl)), (h 4, .inl (k 1, 2, .inl kp)), (h 5, .inl (k 0, 432, .inl (svM sv f n))), (h 6, .inl (k 0, 60, .inl tx))]) H := hP
              have hD : va_D A ([(h 0, .inr (5, [.int 0, .ref (h 1), .ref (h 2), .ref (h 3), .ref (h 4), .ref (h 5), .int (nI (snM n)), .ref (h 6), .int 0, .long dg])), (h 1, .inl (k 0, 72, .inl (anM (ldM tx ln 0 (bkF f (fun _ => 0) 0 45))))), (h 2, .inl (k 0, 72, .inl asd)), (h 3, .inl (k 0, 144, .inl sl)), (h 4, .inl (k 1, 2, .inl kp)), (h 5, .inl (k 0, 432, .inl (svM sv f n))), (h 6, .inl (k 0, 60, .inl tx))]) := hD
              refine lv_aload_n hx hb dX5_load_85 rfl (lv_at hl 1 rfl) ?_
              have hPc : va_P D vwCl (wMo k h 0 (anM (ldM tx ln 0 (bkF f (fun _ => 0) 0 45))) asd sl kp (svM sv f n) (nI (snM n)) tx 0 dg) H := hP.sub [0, 1, 2, 3, 4, 5, 6] rfl
              have hDc : va_D A (wMo k h 0 (anM (ldM tx ln 0 (bkF f (fun _ => 0) 0 45))) asd sl kp (svM sv f n) (nI (snM n)) tx 0 dg) := hD.sub [0, 1, 2, 3, 4, 5, 6] (by decide +kernel) rfl
              refine cl_i (va_runV (As := []) (rest := []) ⟨hx, hb, hml, hown, hts⟩ (c_X5_joins l D k h 0 (anM (ldM tx ln 0 (bkF f (fun _ => 0) 0 45))) asd sl kp (svM sv f n) (nI (snM n)) tx 0 dg  H.size) (cwV 0 hts gX5_load_X5_joins rfl rfl rfl (by decide +kernel) ⟨Nat.le_of_ble_eq_true rfl, Nat.le_of_ble_eq_true rfl⟩) ⟨pr_blind, va_recv hK hP (ci := 5) (q0 := 0) rfl rfl, pr_at hN hPc hK hDc⟩ rfl rfl hl.1 rfl (lv_room (Nat.le_of_ble_eq_true rfl)) dX5_load_86 ⟨Nat.le_of_ble_eq_true rfl, Nat.le_of_ble_eq_true rfl⟩) hP hD hS hA [0, 1, 2, 3, 4, 5, 6] [] ([]) [h 0, h 1, h 2, h 3, h 4, h 5, h 6] 7 rfl (wn := wMo k h 0 (anM (ldM tx ln 0 (bkF f (fun _ => 0) 0 45))) asd sl kp (svM sv f n) (nI (snM n)) tx 0 dg) rfl rfl rfl rfl (by decide +kernel) rfl rfl (fun H locs hP hD hS => ?_)
              clear hPc hDc
              subst hQ
              exact rt_i hx hb hr hlocks hS dX5_load_89 (hP) (rfl)
            · have c_4 : ¬ (ln ≤ j) := fun h9 => c_4 ((nI_leI (a := ln) (b := j) (by omega) (by omega)).mpr h9)
              obtain ⟨z, hz1, hz2, hz3, hez⟩ := bp_pos (tx := tx) (ln := ln) (i := j) hln (by omega) (wr_ok (hw (by omega)))
              refine lv_aload_n hx hb dX5_load_57 rfl (lv_at hl 1 rfl) ?_
              refine lv_iload_n hx hb dX5_load_58 rfl (lv_at hl 0 rfl) ?_
              have hPc : va_P D vwCl (wMo k h 0 v asd sl kp (svM sv f n) (nI (snM n)) tx (nI ln) dg) H := hP.sub [0, 1, 2, 3, 4, 5, 6] rfl
              have hDc : va_D A (wMo k h 0 v asd sl kp (svM sv f n) (nI (snM n)) tx (nI ln) dg) := hD.sub [0, 1, 2, 3, 4, 5, 6] (by decide +kernel) rfl
              refine cl_i0 (va_runV (As := [.int (nI j)]) (rest := []) ⟨hx, hb, hml, hown, hts⟩ (c_X5_behindPart l D k h 0 v asd sl kp (svM sv f n) (nI (snM n)) tx ln dg j hln (by omega) H.size) (cwV 1 hts gX5_load_X5_behindPart rfl rfl rfl (by decide +kernel) ⟨Nat.le_of_ble_eq_true rfl, Nat.le_of_ble_eq_true rfl⟩) ⟨pr_blind, va_recv hK hP (ci := 5) (q0 := 0) rfl rfl, pr_at hN hPc hK hDc⟩ rfl rfl hl.1 rfl (lv_room (Nat.le_of_ble_eq_true rfl)) dX5_load_59 ⟨Nat.le_of_ble_eq_true rfl, Nat.le_of_ble_eq_true rfl⟩) hP hD hS hA [0, 1, 2, 3, 4, 5, 6] rfl (fun H locs hP hD hS => ?_)
              clear hPc hDc
              refine tp_e (y := (nI z)) hez ?_
              refine lv_istore_n (lv' := [(2, .int (nI z)), (1, .int (nI j)), (0, .ref (h 0))]) hx hb dX5_load_62 rfl hl (by decide) rfl (fun ls hl => ?_)
              refine lv_aload_n hx hb dX5_load_63 rfl (lv_at hl 2 rfl) ?_
              refine lv_iload_n hx hb dX5_load_64 rfl (lv_at hl 1 rfl) ?_
              refine lv_iload_n hx hb dX5_load_65 rfl (lv_at hl 0 rfl) ?_
              have hPc : va_P D vwCl (wMo k h 0 v asd sl kp (svM sv f n) (nI (snM n)) tx (nI ln) dg) H := hP.sub [0, 1, 2, 3, 4, 5, 6] rfl
              have hDc : va_D A (wMo k h 0 v asd sl kp (svM sv f n) (nI (snM n)) tx (nI ln) dg) := hD.sub [0, 1, 2, 3, 4, 5, 6] (by decide +kernel) rfl
              refine cl_v (va_runV (As := [.int (nI j), .int (nI z)]) (rest := []) ⟨hx, hb, hml, hown, hts⟩ (c_X5_takes l D k h 0 v asd sl kp (svM sv f n) (nI (snM n)) tx ln dg j z hln (by omega) hez (by omega) H.size) (cwV 2 hts gX5_load_X5_takes rfl rfl rfl (by decide +kernel) ⟨Nat.le_of_ble_eq_true rfl, Nat.le_of_ble_eq_true rfl⟩) ⟨pr_blind, va_recv hK hP (ci := 5) (q0 := 0) rfl rfl, pr_at hN hPc hK hDc⟩ rfl rfl hl.1 rfl (lv_room (Nat.le_of_ble_eq_true rfl)) dX5_load_66 ⟨Nat.le_of_ble_eq_true rfl, Nat.le_of_ble_eq_true rfl⟩) hP hD hS hA [0, 1, 2, 3, 4, 5, 6] [] ([]) [h 0, h 1, h 2, h 3, h 4, h 5, h 6] 7 rfl (wn := wMo k h 0 (tkM tx ln j z v) asd sl kp (svM sv f n) (nI (snM n)) tx (nI ln) dg) rfl rfl rfl rfl (by decide +kernel) rfl rfl (fun H locs hP hD hS => ?_)
              clear hPc hDc
              refine lv_iload_n hx hb dX5_load_69 rfl (lv_at hl 0 rfl) ?_
              refine lv_iconst (v := 1) hx hb dX5_load_70 (by decide) ?_
              refine lv_iadd hx hb dX5_load_71 ?_
              refine tp_e (y := (nI (z + 1))) (nI_add z 1) ?_
              refine lv_istore_n (lv' := [(1, .int (nI (z + 1))), (2, .int (nI z)), (0, .ref (h 0))]) hx hb dX5_load_72 rfl hl (by decide) rfl (fun ls hl => ?_)
              refine lv_goto (tgt := 49) hx hb dX5_load_73 (by decide) ?_
              exact ih_j (z + 1) (tkM tx ln j z v) (by omega) (by omega)  (by rw [← hv]; exact (ldM_s v (by omega) hez (by omega) (by omega)).symm) (fun h9 => wr_next (by omega) (hw (by omega)) hez (by omega) (by omega)) _ _ _ hP hD hS (lv_sub hl [0, 2] rfl)
        · have c_3 : ¬ (45 ≤ i) := fun h9 => c_3 ((nI_leI (a := 45) (b := i) (by omega) (by omega)).mpr h9)
          refine lv_aload_n hx hb dX5_load_34 rfl (lv_at hl 1 rfl) ?_
          refine va_get (D := D) (ci := 5) (v := .ref (h 1)) (C := RX5) (T := TX5) (N := 10) hx hb hts (fun _ h9 => (List.mem_cons_of_mem _ (List.mem_append_right _ h9))) hown hK hP 0 rfl rfl 1 (by decide) (hts _ (List.mem_of_getElem? (i := 1) rfl)) (fun _ h9 => h9) rfl dX5_load_35 ?_
          refine lv_iload_n hx hb dX5_load_38 rfl (lv_at hl 0 rfl) ?_
          refine lv_iconst (v := 0) hx hb dX5_load_39 (by decide) ?_
          refine ar_st hx hb hK hP hD hS 1 rfl i (nI_clamp (by omega)) (vp_in_nI (by omega) (by omega)) dX5_load_40 (wn := [(h 0, .inr (5, [.int 0, .ref (h 1), .ref (h 2), .ref (h 3), .ref (h 4), .ref (h 5), .int (nI (snM n)), .ref (h 6), .int (nI ln), .long dg])), (h 1, .inl (k 0, 72, .inl (upd g i 0))), (h 2, .inl (k 0, 72, .inl asd)), (h 3, .inl (k 0, 144, .inl sl)), (h 4, .inl (k 1, 2, .inl kp)), (h 5, .inl (k 0, 432, .inl (svM sv f n))), (h 6, .inl (k 0, 60, .inl tx))]) rfl (fun H locs hP hD hS => ?_)
          refine lv_iinc (v := (nI (i + 1))) (lv' := [(1, .int (nI (i + 1))), (0, .ref (h 0))]) hx hb dX5_load_41 hl (k := 0) rfl (nI_1 i) (by decide) rfl (fun ls hl => ?_)
          refine lv_goto (tgt := 28) hx hb dX5_load_44 (by decide) ?_
          exact ih_i (i + 1) (upd g i 0) (by omega) (by omega) (by rw [e_g]; have h9 := bkF_s f (fun _ => 0) 0 i; rw [Nat.zero_add] at h9; exact h9)  _ _ _ hP hD hS (lv_sub hl [0, 1] rfl)
    · exact absurd c_2 (by decide)

set_option maxHeartbeats 1000000 in
set_option maxRecDepth 100000 in
theorem c_X5_load_x1 (l : Launch) (D : va_G) (k : Nat → ClassId) (h : Nat → Nat) (th : Int32) (f asd sl kp sv : Nat → Int32) (sm : Int32) (tx : Nat → Int32) (ln : Nat) (dg : Int64) (hln : ln ≤ 60) (h1 : ¬ wrM tx ln 0 = -1) : MI l yX5_load wsX5_load ({ frames := 5, cells := 0, slots := 0, locals := 109 }) D k [.ref (h 0)] (wMo k h th f asd sl kp sv sm tx (nI ln) dg) 0 (wMo k h 1 f asd sl kp sv sm tx (nI ln) dg) := by
  intro sz
  refine Met.ofW (cc := cX5_load) (maxL := 3) (ret := (some .int)) (by decide) rfl ?_
  intro p e s m args below meth c s₁ B hml hv
  obtain ⟨rfl, hN, hsz, hP, hK, hD0⟩ := hv
  have hx := B.exec
  have hb := B.bytes
  have hr := B.returns
  have hts := atoms_spec (ws := wsX5_load) B.pre
  have hown : s.vm.findClass RX5 = some m.cls := findClass_of_methodNamed B.named
  have hlocks := B.notSynchronized
  subst hsz
  have hD := hD0.self (sz := s.heap.size)
  generalize hAe : va_A (wMo k h th f asd sl kp sv sm tx (nI ln) dg) s.heap.size = A at hD ⊢
  have hA : ∀ q : Nat, s.heap.size ≤ q → A q := fun q h => by rw [← hAe]; exact Or.inr h
  have hS : va_S A s.heap s.heap [] := va_S.rf
  have hl := lv_entry ([.ref (h 0)]) (n := 3) (Nat.le_of_ble_eq_true rfl)
  rw [lg_entry_eq]
  generalize (lg_sl ([.ref (h 0)]) ++ List.replicate (3 - (lg_sl ([.ref (h 0)])).length) Slot.unset).toArray = ls at hl ⊢
  have hl : lv_has ls 3 [(0, .ref (h 0))] := hl
  obtain ⟨H, hHe⟩ : ∃ H, H = s.heap := ⟨_, rfl⟩
  have hP : va_P D vwCl (wMo k h th f asd sl kp sv sm tx (nI ln) dg) H := by rw [hHe]; exact hP
  have hS : va_S A s.heap H [] := by rw [hHe]; exact hS
  rw [← hHe]
  refine absQ (fun Q hQ => ?_)
  refine lv_aload_n hx hb dX5_load_0 rfl (lv_at hl 0 rfl) ?_
  refine lv_aload_n hx hb dX5_load_1 rfl (lv_at hl 0 rfl) ?_
  have hPc : va_P D vwCl (wMo k h th f asd sl kp sv sm tx (nI ln) dg) H := hP.sub [0, 1, 2, 3, 4, 5, 6] rfl
  have hDc : va_D A (wMo k h th f asd sl kp sv sm tx (nI ln) dg) := hD.sub [0, 1, 2, 3, 4, 5, 6] (by decide +kernel) rfl
  refine cl_i0 (va_runV (As := []) (rest := [.ref (h 0)]) ⟨hx, hb, hml, hown, hts⟩ (c_X5_wrong l D k h th f asd sl kp sv sm tx ln dg hln H.size) (cwV 0 hts gX5_load_X5_wrong rfl rfl rfl (by decide +kernel) ⟨Nat.le_of_ble_eq_true rfl, Nat.le_of_ble_eq_true rfl⟩) ⟨pr_blind, va_recv hK hP (ci := 5) (q0 := 0) rfl rfl, pr_at hN hPc hK hDc⟩ rfl rfl hl.1 rfl (lv_room (Nat.le_of_ble_eq_true rfl)) dX5_load_2 ⟨Nat.le_of_ble_eq_true rfl, Nat.le_of_ble_eq_true rfl⟩) hP hD hS hA [0, 1, 2, 3, 4, 5, 6] rfl (fun H locs hP hD hS => ?_)
  clear hPc hDc
  refine lv_iconst (v := (-1)) hx hb dX5_load_5 (by decide) ?_
  refine lv_icmp_ne (tgt := 13) hx hb dX5_load_6 (by decide) (fun c_1 => ?_) (fun c_1 => ?_)
  · refine lv_iconst (v := 1) hx hb dX5_load_13 (by decide) ?_
    have hPc : va_P D vwCl (wMo k h th f asd sl kp sv sm tx (nI ln) dg) H := hP.sub [0, 1, 2, 3, 4, 5, 6] rfl
    have hDc : va_D A (wMo k h th f asd sl kp sv sm tx (nI ln) dg) := hD.sub [0, 1, 2, 3, 4, 5, 6] (by decide +kernel) rfl
    refine cl_i (va_runV (As := [.int 1]) (rest := []) ⟨hx, hb, hml, hown, hts⟩ (c_X5_holds l D k h th f asd sl kp sv sm tx (nI ln) dg 1 H.size) (cwV 1 hts gX5_load_X5_holds rfl rfl rfl (by decide +kernel) ⟨Nat.le_of_ble_eq_true rfl, Nat.le_of_ble_eq_true rfl⟩) ⟨pr_blind, va_recv hK hP (ci := 5) (q0 := 0) rfl rfl, pr_at hN hPc hK hDc⟩ rfl rfl hl.1 rfl (lv_room (Nat.le_of_ble_eq_true rfl)) dX5_load_14 ⟨Nat.le_of_ble_eq_true rfl, Nat.le_of_ble_eq_true rfl⟩) hP hD hS hA [0, 1, 2, 3, 4, 5, 6] [] ([]) [h 0, h 1, h 2, h 3, h 4, h 5, h 6] 7 rfl (wn := wMo k h 1 f asd sl kp sv sm tx (nI ln) dg) rfl rfl rfl rfl (by decide +kernel) rfl rfl (fun H locs hP hD hS => ?_)
    clear hPc hDc
    refine tp_e (y := 0) (by decide) ?_
    refine lv_if_ne (tgt := 22) hx hb dX5_load_17 (by decide) (fun c_2 => ?_) (fun c_2 => ?_)
    · exact absurd c_2 (by decide)
    · refine lv_iconst (v := 0) hx hb dX5_load_20 (by decide) ?_
      subst hQ
      exact rt_i hx hb hr hlocks hS dX5_load_21 (hP) (rfl)
  · exact absurd c_1 h1
