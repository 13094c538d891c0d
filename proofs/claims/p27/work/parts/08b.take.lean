set_option maxHeartbeats 1000000 in
set_option maxRecDepth 100000 in
theorem c_X4_findHeaviest (l : Launch) (D : va_G) (k : Nat → ClassId) (d : Nat → Nat → Nat) (g : Nat → Nat) (ns : Int32) (V T : Nat → Nat → Int32) (al op wf : Nat → Int32) (na : Int32) (n : Nat) (hn : n ≤ 511) : MI l yX4_findHeaviest wsX4_findHeaviest ({ frames := 2, cells := 0, slots := 0, locals := 44 }) D k [.ref (d 0 0), .ref (g 0)] (wXo d ns ++ (wWy k (d 8) (d 9) V al op wf na (nI n) ++ (wSt k g T))) ((hvA (T 4) op n).2) (wXo d ns ++ (wWy k (d 8) (d 9) V al op wf na (nI n) ++ (wSt k g T))) := by
  intro sz
  refine Met.ofW (cc := cX4_findHeaviest) (maxL := 6) (ret := (some .int)) (by decide) rfl ?_
  intro p e s m args below meth c s₁ B hml hv
  obtain ⟨rfl, hN, hsz, hP, hK, hD0⟩ := hv
  have hx := B.exec
  have hb := B.bytes
  have hr := B.returns
  have hts := atoms_spec (ws := wsX4_findHeaviest) B.pre
  have hown : s.vm.findClass RX4 = some m.cls := findClass_of_methodNamed B.named
  have hlocks := B.notSynchronized
  subst hsz
  have hD := hD0.self (sz := s.heap.size)
  generalize hAe : va_A (wXo d ns ++ (wWy k (d 8) (d 9) V al op wf na (nI n) ++ (wSt k g T))) s.heap.size = A at hD ⊢
  have hA : ∀ q : Nat, s.heap.size ≤ q → A q := fun q h => by rw [← hAe]; exact Or.inr h
  have hS : va_S A s.heap s.heap [] := va_S.rf
  have hl := lv_entry ([.ref (d 0 0), .ref (g 0)]) (n := 6) (Nat.le_of_ble_eq_true rfl)
  rw [lg_entry_eq]
  generalize (lg_sl ([.ref (d 0 0), .ref (g 0)]) ++ List.replicate (6 - (lg_sl ([.ref (d 0 0), .ref (g 0)])).length) Slot.unset).toArray = ls at hl ⊢
  have hl : lv_has ls 6 [(0, .ref (d 0 0)), (1, .ref (g 0))] := hl
  obtain ⟨H, hHe⟩ : ∃ H, H = s.heap := ⟨_, rfl⟩
  have hP : va_P D vwCl (wXo d ns ++ (wWy k (d 8) (d 9) V al op wf na (nI n) ++ (wSt k g T))) H := by rw [hHe]; exact hP
  have hS : va_S A s.heap H [] := by rw [hHe]; exact hS
  rw [← hHe]
  refine absQ (fun Q hQ => ?_)
  refine lv_iconst (v := (-1)) hx hb dX4_findHeaviest_0 (by decide) ?_
  refine lv_istore_n (lv' := [(2, .int (-1)), (0, .ref (d 0 0)), (1, .ref (g 0))]) hx hb dX4_findHeaviest_1 rfl hl (by decide) rfl (fun ls hl => ?_)
  refine lv_iconst (v := (-1)) hx hb dX4_findHeaviest_2 (by decide) ?_
  refine lv_istore_n (lv' := [(3, .int (-1)), (2, .int (-1)), (0, .ref (d 0 0)), (1, .ref (g 0))]) hx hb dX4_findHeaviest_3 rfl hl (by decide) rfl (fun ls hl => ?_)
  refine lv_iconst (v := 0) hx hb dX4_findHeaviest_4 (by decide) ?_
  refine lv_istore (lv' := [(4, .int 0), (3, .int (-1)), (2, .int (-1)), (0, .ref (d 0 0)), (1, .ref (g 0))]) hx hb dX4_findHeaviest_5 hl (by decide) rfl (fun ls hl => ?_)
  suffices LOOP_i : ∀ (fu_i i : Nat) (x2 : Int32) (x3 : Int32), n - i < fu_i → i ≤ n → x2 = (hvA (T 4) op i).2 → x3 = (hvA (T 4) op i).1 → ∀ (H : Heap) (locs : List Loc) (ls : Array Slot), va_P D vwCl (wXo d ns ++ (wWy k (d 8) (d 9) V al op wf na (nI n) ++ (wSt k g T))) H → va_D A (wXo d ns ++ (wWy k (d 8) (d 9) V al op wf na (nI n) ++ (wSt k g T))) → va_S A s.heap H locs → lv_has ls 6 [(4, .int (nI i)), (3, .int x3), (2, .int x2), (0, .ref (d 0 0)), (1, .ref (g 0))] → W p l e ({ frames := 2, cells := 0, slots := 0, locals := 44 } : Room) s m ([.ref (d 0 0), .ref (g 0)] : List Value).toArray below meth c H locs 0 0 Q (F0 m 7 ls []) from LOOP_i (n + 1) 0 (-1) (-1) (by omega) (by omega) (rfl) (rfl)  _ _ _ hP hD hS (lv_sub hl [0, 1, 2, 3, 4] rfl)
  clear hP hD hS hl hHe
  intro fu_i
  induction fu_i with
  | zero => intro i x2 x3 hn_i; omega
  | succ fu_i ih_i =>
    intro i x2 x3 hn_i hle_i e_x2 e_x3  H locs ls hP hD hS hl
    refine lv_iload hx hb dX4_findHeaviest_7 (lv_at hl 0 rfl) ?_
    refine lv_aload_n hx hb dX4_findHeaviest_9 rfl (lv_at hl 3 rfl) ?_
    refine va_get (D := D) (ci := 4) (v := .ref (d 8 0)) (C := RX4) (T := TX4) (N := 9) hx hb hts (fun _ h9 => (List.mem_cons_of_mem _ (List.mem_append_left _ (List.mem_append_left _ (List.mem_append_right _ h9))))) hown hK hP 0 rfl rfl 7 (by decide) (hts _ (List.mem_of_getElem? (i := 1) rfl)) (fun _ h9 => h9) rfl dX4_findHeaviest_10 ?_
    refine va_get (D := D) (ci := 3) (v := .int (nI n)) (C := RX3) (T := TX3) (N := 6) hx hb hts (fun _ h9 => (List.mem_cons_of_mem _ (List.mem_append_left _ (List.mem_append_right _ h9)))) hown hK hP 1 rfl rfl 3 (by decide) (hts _ (List.mem_of_getElem? (i := 2) rfl)) (fun _ h9 => h9) rfl dX4_findHeaviest_13 ?_
    refine lv_icmp_ge (tgt := 69) hx hb dX4_findHeaviest_16 (by decide) (fun c_1 => ?_) (fun c_1 => ?_)
    · have c_1 : n ≤ i := (nI_leI (a := n) (b := i) (by omega) (by omega)).mp c_1
      have hz_i : n = i := by omega
      subst hz_i
      subst e_x2
      subst e_x3
      refine lv_iload_n hx hb dX4_findHeaviest_69 rfl (lv_at hl 2 rfl) ?_
      subst hQ
      exact rt_i hx hb hr hlocks hS dX4_findHeaviest_70 (hP) (rfl)
    · have c_1 : ¬ (n ≤ i) := fun h9 => c_1 ((nI_leI (a := n) (b := i) (by omega) (by omega)).mpr h9)
      refine lv_iload hx hb dX4_findHeaviest_19 (lv_at hl 0 rfl) ?_
      refine lv_sipush (v := 512) hx hb dX4_findHeaviest_21 (by decide) ?_
      refine lv_icmp_ge (tgt := 69) hx hb dX4_findHeaviest_24 (by decide) (fun c_2 => ?_) (fun c_2 => ?_)
      · have c_2 : 512 ≤ i := (nI_leI (a := 512) (b := i) (by omega) (by omega)).mp c_2
        exact absurd c_2 (by omega)
      · have c_2 : ¬ (512 ≤ i) := fun h9 => c_2 ((nI_leI (a := 512) (b := i) (by omega) (by omega)).mpr h9)
        refine lv_aload_n hx hb dX4_findHeaviest_27 rfl (lv_at hl 4 rfl) ?_
        refine lv_aload_n hx hb dX4_findHeaviest_28 rfl (lv_at hl 3 rfl) ?_
        refine va_get (D := D) (ci := 4) (v := .ref (d 8 0)) (C := RX4) (T := TX4) (N := 9) hx hb hts (fun _ h9 => (List.mem_cons_of_mem _ (List.mem_append_left _ (List.mem_append_left _ (List.mem_append_right _ h9))))) hown hK hP 0 rfl rfl 7 (by decide) (hts _ (List.mem_of_getElem? (i := 1) rfl)) (fun _ h9 => h9) rfl dX4_findHeaviest_29 ?_
        refine va_get (D := D) (ci := 3) (v := .ref ((d 8) 2)) (C := RX3) (T := TX3) (N := 6) hx hb hts (fun _ h9 => (List.mem_cons_of_mem _ (List.mem_append_left _ (List.mem_append_right _ h9)))) hown hK hP 1 rfl rfl 1 (by decide) (hts _ (List.mem_of_getElem? (i := 3) rfl)) (fun _ h9 => h9) rfl dX4_findHeaviest_32 ?_
        refine lv_iload hx hb dX4_findHeaviest_35 (lv_at hl 0 rfl) ?_
        refine ar_ld hx hb hK hP 3 rfl i (nI_clamp (by omega)) (vp_in_nI (by omega) (by omega)) dX4_findHeaviest_37 ?_
        have hPc : va_P D vwCl (wSt k g T) H := hP.sub [13, 14, 15, 16, 17, 18, 19, 20] rfl
        have hDc : va_D A (wSt k g T) := hD.sub [13, 14, 15, 16, 17, 18, 19, 20] (by decide +kernel) rfl
        refine cl_i0 (va_runV (As := [.int (op i)]) (rest := []) ⟨hx, hb, hml, hown, hts⟩ (c_X1_weightOf l D k g T (op i) H.size) (cwV 1 hts gX4_findHeaviest_X1_weightOf rfl rfl rfl (by decide +kernel) ⟨Nat.le_of_ble_eq_true rfl, Nat.le_of_ble_eq_true rfl⟩) ⟨pr_blind, va_recv hK hP (ci := 1) (q0 := 13) rfl rfl, pr_at hN hPc hK hDc⟩ rfl rfl hl.1 rfl (lv_room (Nat.le_of_ble_eq_true rfl)) dX4_findHeaviest_38 ⟨Nat.le_of_ble_eq_true rfl, Nat.le_of_ble_eq_true rfl⟩) hP hD hS hA [13, 14, 15, 16, 17, 18, 19, 20] rfl (fun H locs hP hD hS => ?_)
        clear hPc hDc
        refine lv_istore (lv' := [(5, .int (wtF (T 4) (op i) 9)), (4, .int (nI i)), (3, .int x3), (2, .int x2), (0, .ref (d 0 0)), (1, .ref (g 0))]) hx hb dX4_findHeaviest_41 hl (by decide) rfl (fun ls hl => ?_)
        refine lv_iload hx hb dX4_findHeaviest_43 (lv_at hl 0 rfl) ?_
        refine lv_iload_n hx hb dX4_findHeaviest_45 rfl (lv_at hl 2 rfl) ?_
        refine lv_icmp_le (tgt := 63) hx hb dX4_findHeaviest_46 (by decide) (fun c_3 => ?_) (fun c_3 => ?_)
        · refine lv_iinc (v := (nI (i + 1))) (lv' := [(4, .int (nI (i + 1))), (5, .int (wtF (T 4) (op i) 9)), (3, .int x3), (2, .int x2), (0, .ref (d 0 0)), (1, .ref (g 0))]) hx hb dX4_findHeaviest_63 hl (k := 1) rfl (nI_1 i) (by decide) rfl (fun ls hl => ?_)
          refine lv_goto (tgt := 7) hx hb dX4_findHeaviest_66 (by decide) ?_
          exact ih_i (i + 1) x2 x3 (by omega) (by omega) (by rw [hvA, if_pos (by rw [← e_x3]; exact c_3)]; exact e_x2) (by rw [hvA, if_pos (by rw [← e_x3]; exact c_3)]; exact e_x3)  _ _ _ hP hD hS (lv_sub hl [0, 2, 3, 4, 5] rfl)
        · refine lv_iload hx hb dX4_findHeaviest_49 (lv_at hl 0 rfl) ?_
          refine lv_istore_n (lv' := [(3, .int (wtF (T 4) (op i) 9)), (5, .int (wtF (T 4) (op i) 9)), (4, .int (nI i)), (2, .int x2), (0, .ref (d 0 0)), (1, .ref (g 0))]) hx hb dX4_findHeaviest_51 rfl hl (by decide) rfl (fun ls hl => ?_)
          refine lv_aload_n hx hb dX4_findHeaviest_52 rfl (lv_at hl 4 rfl) ?_
          refine va_get (D := D) (ci := 4) (v := .ref (d 8 0)) (C := RX4) (T := TX4) (N := 9) hx hb hts (fun _ h9 => (List.mem_cons_of_mem _ (List.mem_append_left _ (List.mem_append_left _ (List.mem_append_right _ h9))))) hown hK hP 0 rfl rfl 7 (by decide) (hts _ (List.mem_of_getElem? (i := 1) rfl)) (fun _ h9 => h9) rfl dX4_findHeaviest_53 ?_
          refine va_get (D := D) (ci := 3) (v := .ref ((d 8) 2)) (C := RX3) (T := TX3) (N := 6) hx hb hts (fun _ h9 => (List.mem_cons_of_mem _ (List.mem_append_left _ (List.mem_append_right _ h9)))) hown hK hP 1 rfl rfl 1 (by decide) (hts _ (List.mem_of_getElem? (i := 3) rfl)) (fun _ h9 => h9) rfl dX4_findHeaviest_56 ?_
          refine lv_iload hx hb dX4_findHeaviest_59 (lv_at hl 2 rfl) ?_
          refine ar_ld hx hb hK hP 3 rfl i (nI_clamp (by omega)) (vp_in_nI (by omega) (by omega)) dX4_findHeaviest_61 ?_
          refine lv_istore_n (lv' := [(2, .int (op i)), (3, .int (wtF (T 4) (op i) 9)), (5, .int (wtF (T 4) (op i) 9)), (4, .int (nI i)), (0, .ref (d 0 0)), (1, .ref (g 0))]) hx hb dX4_findHeaviest_62 rfl hl (by decide) rfl (fun ls hl => ?_)
          refine lv_iinc (v := (nI (i + 1))) (lv' := [(4, .int (nI (i + 1))), (2, .int (op i)), (3, .int (wtF (T 4) (op i) 9)), (5, .int (wtF (T 4) (op i) 9)), (0, .ref (d 0 0)), (1, .ref (g 0))]) hx hb dX4_findHeaviest_63 hl (k := 3) rfl (nI_1 i) (by decide) rfl (fun ls hl => ?_)
          refine lv_goto (tgt := 7) hx hb dX4_findHeaviest_66 (by decide) ?_
          exact ih_i (i + 1) (op i) (wtF (T 4) (op i) 9) (by omega) (by omega) (by rw [hvA, if_neg (by rw [← e_x3]; exact c_3)]) (by rw [hvA, if_neg (by rw [← e_x3]; exact c_3)])  _ _ _ hP hD hS (lv_sub hl [0, 2, 1, 4, 5] rfl)

set_option maxHeartbeats 1000000 in
set_option maxRecDepth 100000 in
theorem c_X4_takeHeaviest (l : Launch) (D : va_G) (k : Nat → ClassId) (d : Nat → Nat → Nat) (g : Nat → Nat) (ns : Int32) (V T : Nat → Nat → Int32) (al op wf : Nat → Int32) (na : Int32) (n : Nat) (nw : Nat) (hn : n ≤ 511) (hnw : T 7 0 = nI nw) (hnw2 : nw ≤ 12) : MI l yX4_takeHeaviest wsX4_takeHeaviest ({ frames := 3, cells := 0, slots := 0, locals := 69 }) D k [.ref (d 0 0), .ref (g 0)] (wXo d ns ++ (wWy k (d 8) (d 9) V al op wf na (nI n) ++ (wSt k g T))) ((thF T (hvA (T 4) op n).2 nw).1) (wXo d ns ++ (wWy k (d 8) (d 9) V al op wf na (nI n) ++ wSt k g (thF T (hvA (T 4) op n).2 nw).2)) := by
  intro sz
  refine Met.ofW (cc := cX4_takeHeaviest) (maxL := 4) (ret := (some .int)) (by decide) rfl ?_
  intro p e s m args below meth c s₁ B hml hv
  obtain ⟨rfl, hN, hsz, hP, hK, hD0⟩ := hv
  have hx := B.exec
  have hb := B.bytes
  have hr := B.returns
  have hts := atoms_spec (ws := wsX4_takeHeaviest) B.pre
  have hown : s.vm.findClass RX4 = some m.cls := findClass_of_methodNamed B.named
  have hlocks := B.notSynchronized
  subst hsz
  have hD := hD0.self (sz := s.heap.size)
  generalize hAe : va_A (wXo d ns ++ (wWy k (d 8) (d 9) V al op wf na (nI n) ++ (wSt k g T))) s.heap.size = A at hD ⊢
  have hA : ∀ q : Nat, s.heap.size ≤ q → A q := fun q h => by rw [← hAe]; exact Or.inr h
  have hS : va_S A s.heap s.heap [] := va_S.rf
  have hl := lv_entry ([.ref (d 0 0), .ref (g 0)]) (n := 4) (Nat.le_of_ble_eq_true rfl)
  rw [lg_entry_eq]
  generalize (lg_sl ([.ref (d 0 0), .ref (g 0)]) ++ List.replicate (4 - (lg_sl ([.ref (d 0 0), .ref (g 0)])).length) Slot.unset).toArray = ls at hl ⊢
  have hl : lv_has ls 4 [(0, .ref (d 0 0)), (1, .ref (g 0))] := hl
  obtain ⟨H, hHe⟩ : ∃ H, H = s.heap := ⟨_, rfl⟩
  have hP : va_P D vwCl (wXo d ns ++ (wWy k (d 8) (d 9) V al op wf na (nI n) ++ (wSt k g T))) H := by rw [hHe]; exact hP
  have hS : va_S A s.heap H [] := by rw [hHe]; exact hS
  rw [← hHe]
  refine absQ (fun Q hQ => ?_)
  refine lv_aload_n hx hb dX4_takeHeaviest_0 rfl (lv_at hl 0 rfl) ?_
  refine lv_aload_n hx hb dX4_takeHeaviest_1 rfl (lv_at hl 1 rfl) ?_
  have hPc : va_P D vwCl (wXo d ns ++ (wWy k (d 8) (d 9) V al op wf na (nI n) ++ (wSt k g T))) H := hP.sub [0, 1, 2, 3, 4, 5, 6, 7, 8, 9, 10, 11, 12, 13, 14, 15, 16, 17, 18, 19, 20] rfl
  have hDc : va_D A (wXo d ns ++ (wWy k (d 8) (d 9) V al op wf na (nI n) ++ (wSt k g T))) := hD.sub [0, 1, 2, 3, 4, 5, 6, 7, 8, 9, 10, 11, 12, 13, 14, 15, 16, 17, 18, 19, 20] (by decide +kernel) rfl
  refine cl_i0 (va_runV (As := [.ref (g 0)]) (rest := []) ⟨hx, hb, hml, hown, hts⟩ (c_X4_findHeaviest l D k d g ns V T al op wf na n hn H.size) (cwV 1 hts gX4_takeHeaviest_X4_findHeaviest rfl rfl rfl (by decide +kernel) ⟨Nat.le_of_ble_eq_true rfl, Nat.le_of_ble_eq_true rfl⟩) ⟨pr_blind, va_recv hK hP (ci := 4) (q0 := 0) rfl rfl, pr_at hN hPc hK hDc⟩ rfl rfl hl.1 rfl (lv_room (Nat.le_of_ble_eq_true rfl)) dX4_takeHeaviest_2 ⟨Nat.le_of_ble_eq_true rfl, Nat.le_of_ble_eq_true rfl⟩) hP hD hS hA [0, 1, 2, 3, 4, 5, 6, 7, 8, 9, 10, 11, 12, 13, 14, 15, 16, 17, 18, 19, 20] rfl (fun H locs hP hD hS => ?_)
  clear hPc hDc
  refine lv_istore_n (lv' := [(2, .int ((hvA (T 4) op n).2)), (0, .ref (d 0 0)), (1, .ref (g 0))]) hx hb dX4_takeHeaviest_5 rfl hl (by decide) rfl (fun ls hl => ?_)
  refine lv_iload_n hx hb dX4_takeHeaviest_6 rfl (lv_at hl 0 rfl) ?_
  refine lv_iconst (v := (-1)) hx hb dX4_takeHeaviest_7 (by decide) ?_
  refine lv_icmp_ne (tgt := 15) hx hb dX4_takeHeaviest_8 (by decide) (fun c_1 => ?_) (fun c_1 => ?_)
  · refine lv_aload_n hx hb dX4_takeHeaviest_15 rfl (lv_at hl 2 rfl) ?_
    refine lv_iload_n hx hb dX4_takeHeaviest_16 rfl (lv_at hl 0 rfl) ?_
    have hPc : va_P D vwCl (wSt k g T) H := hP.sub [13, 14, 15, 16, 17, 18, 19, 20] rfl
    have hDc : va_D A (wSt k g T) := hD.sub [13, 14, 15, 16, 17, 18, 19, 20] (by decide +kernel) rfl
    refine cl_i0 (va_runV (As := [.int ((hvA (T 4) op n).2)]) (rest := []) ⟨hx, hb, hml, hown, hts⟩ (c_X1_weightOf l D k g T ((hvA (T 4) op n).2) H.size) (cwV 1 hts gX4_takeHeaviest_X1_weightOf rfl rfl rfl (by decide +kernel) ⟨Nat.le_of_ble_eq_true rfl, Nat.le_of_ble_eq_true rfl⟩) ⟨pr_blind, va_recv hK hP (ci := 1) (q0 := 13) rfl rfl, pr_at hN hPc hK hDc⟩ rfl rfl hl.1 rfl (lv_room (Nat.le_of_ble_eq_true rfl)) dX4_takeHeaviest_17 ⟨Nat.le_of_ble_eq_true rfl, Nat.le_of_ble_eq_true rfl⟩) hP hD hS hA [13, 14, 15, 16, 17, 18, 19, 20] rfl (fun H locs hP hD hS => ?_)
    clear hPc hDc
    refine lv_istore_n (lv' := [(3, .int (wtF (T 4) ((hvA (T 4) op n).2) 9)), (2, .int ((hvA (T 4) op n).2)), (0, .ref (d 0 0)), (1, .ref (g 0))]) hx hb dX4_takeHeaviest_20 rfl hl (by decide) rfl (fun ls hl => ?_)
    refine lv_iload_n hx hb dX4_takeHeaviest_21 rfl (lv_at hl 0 rfl) ?_
    refine lv_if_le (tgt := 34) hx hb dX4_takeHeaviest_22 (by decide) (fun c_2 => ?_) (fun c_2 => ?_)
    · refine lv_aload_n hx hb dX4_takeHeaviest_34 rfl (lv_at hl 3 rfl) ?_
      refine lv_dup hx hb dX4_takeHeaviest_35 rfl ?_
      refine va_get (D := D) (ci := 1) (v := .int (T 7 2)) (C := RX1) (T := TX1) (N := 10) hx hb hts (fun _ h9 => (List.mem_cons_of_mem _ (List.mem_append_left _ (List.mem_append_left _ (List.mem_append_right _ h9))))) hown hK hP 13 rfl rfl 9 (by decide) (hts _ (List.mem_of_getElem? (i := 2) rfl)) (fun _ h9 => h9) rfl dX4_takeHeaviest_36 ?_
      refine lv_iconst (v := 1) hx hb dX4_takeHeaviest_39 (by decide) ?_
      refine lv_iadd hx hb dX4_takeHeaviest_40 ?_
      refine va_put (D := D) (ci := 1) (v := .int ((T 7 2) + 1)) (ty := tyX1 9) (C := RX1) (T := TX1) (N := 10) hx hb hts (fun _ h9 => (List.mem_cons_of_mem _ (List.mem_append_left _ (List.mem_append_left _ (List.mem_append_right _ h9))))) tyX1 tyX1_ok nmX1 hown hK hP hD hS 13 rfl rfl 9 (by decide) (hts _ (List.mem_of_getElem? (i := 2) rfl)) (fun _ h9 => h9) rfl (tyX1_ok 9 (by decide)) rfl rfl (Nat.le_of_ble_eq_true rfl) dX4_takeHeaviest_41 (fun H locs hP hD hS => ?_)
      have hP : va_P D vwCl (wXo d ns ++ (wWy k (d 8) (d 9) V al op wf na (nI n) ++ ([(g 0, .inr (1, [.ref (g 1), .ref (g 2), .ref (g 3), .ref (g 4), .ref (g 5), .ref (g 6), .ref (g 7), .int (T 7 0), .int (T 7 1), .int ((T 7 2) + 1)])), (g 1, .inl (k 0, 9, .inl (T 0))), (g 2, .inl (k 0, 9, .inl (T 1))), (g 3, .inl (k 0, 9, .inl (T 2))), (g 4, .inl (k 0, 9, .inl (T 3))), (g 5, .inl (k 0, 9, .inl (T 4))), (g 6, .inl (k 0, 12, .inl (T 5))), (g 7, .inl (k 0, 12, .inl (T 6)))]))) H := hP
      have hD : va_D A (wXo d ns ++ (wWy k (d 8) (d 9) V al op wf na (nI n) ++ ([(g 0, .inr (1, [.ref (g 1), .ref (g 2), .ref (g 3), .ref (g 4), .ref (g 5), .ref (g 6), .ref (g 7), .int (T 7 0), .int (T 7 1), .int ((T 7 2) + 1)])), (g 1, .inl (k 0, 9, .inl (T 0))), (g 2, .inl (k 0, 9, .inl (T 1))), (g 3, .inl (k 0, 9, .inl (T 2))), (g 4, .inl (k 0, 9, .inl (T 3))), (g 5, .inl (k 0, 9, .inl (T 4))), (g 6, .inl (k 0, 12, .inl (T 5))), (g 7, .inl (k 0, 12, .inl (T 6)))]))) := hD
      refine lv_iconst (v := 0) hx hb dX4_takeHeaviest_44 (by decide) ?_
      subst hQ
      exact rt_i hx hb hr hlocks hS dX4_takeHeaviest_45 (by rw [thF, hwW, if_neg c_1, if_pos c_2]; exact hP) (by rw [thF, hwW, if_neg c_1, if_pos c_2])
    · refine lv_aload_n hx hb dX4_takeHeaviest_25 rfl (lv_at hl 3 rfl) ?_
      refine va_get (D := D) (ci := 1) (v := .int (T 7 0)) (C := RX1) (T := TX1) (N := 10) hx hb hts (fun _ h9 => (List.mem_cons_of_mem _ (List.mem_append_left _ (List.mem_append_left _ (List.mem_append_right _ h9))))) hown hK hP 13 rfl rfl 7 (by decide) (hts _ (List.mem_of_getElem? (i := 1) rfl)) (fun _ h9 => h9) rfl dX4_takeHeaviest_26 ?_
      refine tp_e (y := (nI nw)) hnw ?_
      refine lv_bipush (v := 12) hx hb dX4_takeHeaviest_29 (by decide) ?_
      refine lv_icmp_lt (tgt := 46) hx hb dX4_takeHeaviest_31 (by decide) (fun c_3 => ?_) (fun c_3 => ?_)
      · have c_3 : nw < 12 := (nI_ltI (a := nw) (b := 12) (by omega) (by omega)).mp c_3
        refine lv_aload_n hx hb dX4_takeHeaviest_46 rfl (lv_at hl 3 rfl) ?_
        refine lv_iload_n hx hb dX4_takeHeaviest_47 rfl (lv_at hl 1 rfl) ?_
        refine lv_iload_n hx hb dX4_takeHeaviest_48 rfl (lv_at hl 0 rfl) ?_
        have hPc : va_P D vwCl (wSt k g T) H := hP.sub [13, 14, 15, 16, 17, 18, 19, 20] rfl
        have hDc : va_D A (wSt k g T) := hD.sub [13, 14, 15, 16, 17, 18, 19, 20] (by decide +kernel) rfl
        refine cl_v (va_runV (As := [.int ((hvA (T 4) op n).2), .int (wtF (T 4) ((hvA (T 4) op n).2) 9)]) (rest := []) ⟨hx, hb, hml, hown, hts⟩ (c_X1_takeWay l D k g T (hvA (T 4) op n).2 (wtF (T 4) ((hvA (T 4) op n).2) 9) nw hnw (by omega) H.size) (cwV 2 hts gX4_takeHeaviest_X1_takeWay rfl rfl rfl (by decide +kernel) ⟨Nat.le_of_ble_eq_true rfl, Nat.le_of_ble_eq_true rfl⟩) ⟨pr_blind, va_recv hK hP (ci := 1) (q0 := 13) rfl rfl, pr_at hN hPc hK hDc⟩ rfl rfl hl.1 rfl (lv_room (Nat.le_of_ble_eq_true rfl)) dX4_takeHeaviest_49 ⟨Nat.le_of_ble_eq_true rfl, Nat.le_of_ble_eq_true rfl⟩) hP hD hS hA [13, 14, 15, 16, 17, 18, 19, 20] [0, 1, 2, 3, 4, 5, 6, 7, 8, 9, 10, 11, 12] ((wXo d ns) ++ (wWy k (d 8) (d 9) V al op wf na (nI n))) [d 0 0, (d 8) 0, (d 8) 1, (d 8) 2, (d 8) 3, (d 9) 0, (d 9) 1, (d 9) 2, (d 9) 3, (d 9) 4, (d 9) 5, (d 9) 6, (d 9) 7, g 0, g 1, g 2, g 3, g 4, g 5, g 6, g 7] 21 rfl (wn := (wXo d ns ++ (wWy k (d 8) (d 9) V al op wf na (nI n) ++ (wSt k g (tkS T (hvA (T 4) op n).2 (wtF (T 4) ((hvA (T 4) op n).2) 9) nw))))) rfl rfl rfl rfl (by decide +kernel) rfl rfl (fun H locs hP hD hS => ?_)
        clear hPc hDc
        refine lv_iload_n hx hb dX4_takeHeaviest_52 rfl (lv_at hl 0 rfl) ?_
        subst hQ
        exact rt_i hx hb hr hlocks hS dX4_takeHeaviest_53 (by rw [thF, hwW, if_neg c_1, if_neg c_2, if_pos c_3]; exact hP) (by rw [thF, hwW, if_neg c_1, if_neg c_2, if_pos c_3])
      · have c_3 : ¬ (nw < 12) := fun h9 => c_3 ((nI_ltI (a := nw) (b := 12) (by omega) (by omega)).mpr h9)
        refine lv_aload_n hx hb dX4_takeHeaviest_34 rfl (lv_at hl 3 rfl) ?_
        refine lv_dup hx hb dX4_takeHeaviest_35 rfl ?_
        refine va_get (D := D) (ci := 1) (v := .int (T 7 2)) (C := RX1) (T := TX1) (N := 10) hx hb hts (fun _ h9 => (List.mem_cons_of_mem _ (List.mem_append_left _ (List.mem_append_left _ (List.mem_append_right _ h9))))) hown hK hP 13 rfl rfl 9 (by decide) (hts _ (List.mem_of_getElem? (i := 2) rfl)) (fun _ h9 => h9) rfl dX4_takeHeaviest_36 ?_
        refine lv_iconst (v := 1) hx hb dX4_takeHeaviest_39 (by decide) ?_
        refine lv_iadd hx hb dX4_takeHeaviest_40 ?_
        refine va_put (D := D) (ci := 1) (v := .int ((T 7 2) + 1)) (ty := tyX1 9) (C := RX1) (T := TX1) (N := 10) hx hb hts (fun _ h9 => (List.mem_cons_of_mem _ (List.mem_append_left _ (List.mem_append_left _ (List.mem_append_right _ h9))))) tyX1 tyX1_ok nmX1 hown hK hP hD hS 13 rfl rfl 9 (by decide) (hts _ (List.mem_of_getElem? (i := 2) rfl)) (fun _ h9 => h9) rfl (tyX1_ok 9 (by decide)) rfl rfl (Nat.le_of_ble_eq_true rfl) dX4_takeHeaviest_41 (fun H locs hP hD hS => ?_)
        have hP : va_P D vwCl (wXo d ns ++ (wWy k (d 8) (d 9) V al op wf na (nI n) ++ ([(g 0, .inr (1, [.ref (g 1), .ref (g 2), .ref (g 3), .ref (g 4), .ref (g 5), .ref (g 6), .ref (g 7), .int (T 7 0), .int (T 7 1), .int ((T 7 2) + 1)])), (g 1, .inl (k 0, 9, .inl (T 0))), (g 2, .inl (k 0, 9, .inl (T 1))), (g 3, .inl (k 0, 9, .inl (T 2))), (g 4, .inl (k 0, 9, .inl (T 3))), (g 5, .inl (k 0, 9, .inl (T 4))), (g 6, .inl (k 0, 12, .inl (T 5))), (g 7, .inl (k 0, 12, .inl (T 6)))]))) H := hP
        have hD : va_D A (wXo d ns ++ (wWy k (d 8) (d 9) V al op wf na (nI n) ++ ([(g 0, .inr (1, [.ref (g 1), .ref (g 2), .ref (g 3), .ref (g 4), .ref (g 5), .ref (g 6), .ref (g 7), .int (T 7 0), .int (T 7 1), .int ((T 7 2) + 1)])), (g 1, .inl (k 0, 9, .inl (T 0))), (g 2, .inl (k 0, 9, .inl (T 1))), (g 3, .inl (k 0, 9, .inl (T 2))), (g 4, .inl (k 0, 9, .inl (T 3))), (g 5, .inl (k 0, 9, .inl (T 4))), (g 6, .inl (k 0, 12, .inl (T 5))), (g 7, .inl (k 0, 12, .inl (T 6)))]))) := hD
        refine lv_iconst (v := 0) hx hb dX4_takeHeaviest_44 (by decide) ?_
        subst hQ
        exact rt_i hx hb hr hlocks hS dX4_takeHeaviest_45 (by rw [thF, hwW, if_neg c_1, if_neg c_2, if_neg c_3]; exact hP) (by rw [thF, hwW, if_neg c_1, if_neg c_2, if_neg c_3])
  · refine lv_iconst (v := 0) hx hb dX4_takeHeaviest_11 (by decide) ?_
    refine lv_goto (tgt := 20) hx hb dX4_takeHeaviest_12 (by decide) ?_
    refine lv_istore_n (lv' := [(3, .int 0), (2, .int ((hvA (T 4) op n).2)), (0, .ref (d 0 0)), (1, .ref (g 0))]) hx hb dX4_takeHeaviest_20 rfl hl (by decide) rfl (fun ls hl => ?_)
    refine lv_iload_n hx hb dX4_takeHeaviest_21 rfl (lv_at hl 0 rfl) ?_
    refine lv_if_le (tgt := 34) hx hb dX4_takeHeaviest_22 (by decide) (fun c_4 => ?_) (fun c_4 => ?_)
    · refine lv_aload_n hx hb dX4_takeHeaviest_34 rfl (lv_at hl 3 rfl) ?_
      refine lv_dup hx hb dX4_takeHeaviest_35 rfl ?_
      refine va_get (D := D) (ci := 1) (v := .int (T 7 2)) (C := RX1) (T := TX1) (N := 10) hx hb hts (fun _ h9 => (List.mem_cons_of_mem _ (List.mem_append_left _ (List.mem_append_left _ (List.mem_append_right _ h9))))) hown hK hP 13 rfl rfl 9 (by decide) (hts _ (List.mem_of_getElem? (i := 2) rfl)) (fun _ h9 => h9) rfl dX4_takeHeaviest_36 ?_
      refine lv_iconst (v := 1) hx hb dX4_takeHeaviest_39 (by decide) ?_
      refine lv_iadd hx hb dX4_takeHeaviest_40 ?_
      refine va_put (D := D) (ci := 1) (v := .int ((T 7 2) + 1)) (ty := tyX1 9) (C := RX1) (T := TX1) (N := 10) hx hb hts (fun _ h9 => (List.mem_cons_of_mem _ (List.mem_append_left _ (List.mem_append_left _ (List.mem_append_right _ h9))))) tyX1 tyX1_ok nmX1 hown hK hP hD hS 13 rfl rfl 9 (by decide) (hts _ (List.mem_of_getElem? (i := 2) rfl)) (fun _ h9 => h9) rfl (tyX1_ok 9 (by decide)) rfl rfl (Nat.le_of_ble_eq_true rfl) dX4_takeHeaviest_41 (fun H locs hP hD hS => ?_)
      have hP : va_P D vwCl (wXo d ns ++ (wWy k (d 8) (d 9) V al op wf na (nI n) ++ ([(g 0, .inr (1, [.ref (g 1), .ref (g 2), .ref (g 3), .ref (g 4), .ref (g 5), .ref (g 6), .ref (g 7), .int (T 7 0), .int (T 7 1), .int ((T 7 2) + 1)])), (g 1, .inl (k 0, 9, .inl (T 0))), (g 2, .inl (k 0, 9, .inl (T 1))), (g 3, .inl (k 0, 9, .inl (T 2))), (g 4, .inl (k 0, 9, .inl (T 3))), (g 5, .inl (k 0, 9, .inl (T 4))), (g 6, .inl (k 0, 12, .inl (T 5))), (g 7, .inl (k 0, 12, .inl (T 6)))]))) H := hP
      have hD : va_D A (wXo d ns ++ (wWy k (d 8) (d 9) V al op wf na (nI n) ++ ([(g 0, .inr (1, [.ref (g 1), .ref (g 2), .ref (g 3), .ref (g 4), .ref (g 5), .ref (g 6), .ref (g 7), .int (T 7 0), .int (T 7 1), .int ((T 7 2) + 1)])), (g 1, .inl (k 0, 9, .inl (T 0))), (g 2, .inl (k 0, 9, .inl (T 1))), (g 3, .inl (k 0, 9, .inl (T 2))), (g 4, .inl (k 0, 9, .inl (T 3))), (g 5, .inl (k 0, 9, .inl (T 4))), (g 6, .inl (k 0, 12, .inl (T 5))), (g 7, .inl (k 0, 12, .inl (T 6)))]))) := hD
      refine lv_iconst (v := 0) hx hb dX4_takeHeaviest_44 (by decide) ?_
      subst hQ
      exact rt_i hx hb hr hlocks hS dX4_takeHeaviest_45 (by rw [thF, hwW, if_pos c_1, if_pos (by decide)]; exact hP) (by rw [thF, hwW, if_pos c_1, if_pos (by decide)])
    · exact absurd c_4 (by decide)
