def hwF (S : Nat → Nat → Int32) (m : Int32) : Int32 := if m = -1 then -1 else wtF (S 4) m 9
def owF (f : Nat → Int32) (n r : Nat) : Int32 := if n ≤ r then -1 else f r
/-- the piece in the most ways of a row, and in how many, of the first pieces -/
def mpF (f : Nat → Int32) (n : Nat) : Nat → Int32 × Int32
  | 0 => (-1, 0)
  | i + 1 => if cjtF f (nI i) n ≤ (mpF f n i).2 then mpF f n i else (nI i, cjtF f (nI i) n)

set_option maxHeartbeats 1000000 in
set_option maxRecDepth 100000 in
theorem c_X4_heaviest_0 (l : Launch) (D : va_G) (k : Nat → ClassId) (d : Nat → Nat → Nat) (ns : Int32) (S : Nat → Nat → Int32) (V : Nat → Nat → Int32) (al op wf bh ah : Nat → Int32) (tr : Int32)   : MI l yX4_heaviest wsX4_heaviest ({ frames := 13, cells := 0, slots := 0, locals := 447 }) D k [.ref (d 0 0), .int 0] (wXo d ns ++ (wSt k (d 1) S ++ (wWays k (d 8) (d 9) V al op wf ++ (wRw k (d 10) bh ah tr)))) (hwF S (hvA (S 4) (apL (lsO V S op) 0 (opnL (lsS V S))) (opnL (lsS V S)).length).2) (wXo d ns ++ (wSt k (d 1) S ++ (wWays k (d 8) (d 9) (lsS V S) (lsA V S al) (lsO V S op) wf ++ wRw k (d 10) bh ah tr))) := by
  intro sz
  refine Met.ofW (cc := cX4_heaviest) (maxL := 3) (ret := (some .int)) (by decide) rfl ?_
  intro p e s m args below meth c s₁ B hml hv
  obtain ⟨rfl, hN, hsz, hP, hK, hD0⟩ := hv
  have hx := B.exec
  have hb := B.bytes
  have hr := B.returns
  have hts := atoms_spec (ws := wsX4_heaviest) B.pre
  have hown : s.vm.findClass RX4 = some m.cls := findClass_of_methodNamed B.named
  have hlocks := B.notSynchronized
  subst hsz
  have hD := hD0.self (sz := s.heap.size)
  generalize hAe : va_A (wXo d ns ++ (wSt k (d 1) S ++ (wWays k (d 8) (d 9) V al op wf ++ (wRw k (d 10) bh ah tr)))) s.heap.size = A at hD ⊢
  have hA : ∀ q : Nat, s.heap.size ≤ q → A q := fun q h => by rw [← hAe]; exact Or.inr h
  have hS : va_S A s.heap s.heap [] := va_S.rf
  have hl := lv_entry ([.ref (d 0 0), .int 0]) (n := 3) (Nat.le_of_ble_eq_true rfl)
  rw [lg_entry_eq]
  generalize (lg_sl ([.ref (d 0 0), .int 0]) ++ List.replicate (3 - (lg_sl ([.ref (d 0 0), .int 0])).length) Slot.unset).toArray = ls at hl ⊢
  have hl : lv_has ls 3 [(0, .ref (d 0 0)), (1, .int 0)] := hl
  obtain ⟨H, hHe⟩ : ∃ H, H = s.heap := ⟨_, rfl⟩
  have hP : va_P D vwCl (wXo d ns ++ (wSt k (d 1) S ++ (wWays k (d 8) (d 9) V al op wf ++ (wRw k (d 10) bh ah tr)))) H := by rw [hHe]; exact hP
  have hS : va_S A s.heap H [] := by rw [hHe]; exact hS
  rw [← hHe]
  refine absQ (fun Q hQ => ?_)
  refine lv_iload_n hx hb dX4_heaviest_0 rfl (lv_at hl 1 rfl) ?_
  refine lv_if_eq (tgt := 19) hx hb dX4_heaviest_1 (by decide) (fun c_1 => ?_) (fun c_1 => ?_)
  · refine lv_aload_n hx hb dX4_heaviest_19 rfl (lv_at hl 0 rfl) ?_
    refine va_get (D := D) (ci := 4) (v := .ref (d 8 0)) (C := RX4) (T := TX4) (N := 9) hx hb hts (fun _ h9 => (List.mem_cons_of_mem _ (List.mem_append_left _ (List.mem_append_left _ (List.mem_append_left _ (List.mem_append_right _ h9)))))) hown hK hP 0 rfl rfl 7 (by decide) (hts _ (List.mem_of_getElem? (i := 3) rfl)) (fun _ h9 => h9) rfl dX4_heaviest_20 ?_
    refine lv_aload_n hx hb dX4_heaviest_23 rfl (lv_at hl 0 rfl) ?_
    refine va_get (D := D) (ci := 4) (v := .ref (d 1 0)) (C := RX4) (T := TX4) (N := 9) hx hb hts (fun _ h9 => (List.mem_cons_of_mem _ (List.mem_append_left _ (List.mem_append_left _ (List.mem_append_left _ (List.mem_append_right _ h9)))))) hown hK hP 0 rfl rfl 0 (by decide) (hts _ (List.mem_of_getElem? (i := 4) rfl)) (fun _ h9 => h9) rfl dX4_heaviest_24 ?_
    have hPc : va_P D vwCl (wWays k (d 8) (d 9) V al op wf ++ wSt k (d 1) S) H := hP.sub [9, 10, 11, 12, 13, 14, 15, 16, 17, 18, 19, 20, 1, 2, 3, 4, 5, 6, 7, 8] rfl
    have hDc : va_D A (wWays k (d 8) (d 9) V al op wf ++ wSt k (d 1) S) := hD.sub [9, 10, 11, 12, 13, 14, 15, 16, 17, 18, 19, 20, 1, 2, 3, 4, 5, 6, 7, 8] (by decide +kernel) rfl
    refine cl_v (va_runV (As := [.ref (d 1 0)]) (rest := []) ⟨hx, hb, hml, hown, hts⟩ (c_X3_list l D k (d 8) (d 9) (d 1) V S al op wf H.size) (cwV 1 hts gX4_heaviest_X3_list rfl rfl rfl (by decide +kernel) ⟨Nat.le_of_ble_eq_true rfl, Nat.le_of_ble_eq_true rfl⟩) ⟨pr_blind, va_recv hK hP (ci := 3) (q0 := 9) rfl rfl, pr_at hN hPc hK hDc⟩ rfl rfl hl.1 rfl (lv_room (Nat.le_of_ble_eq_true rfl)) dX4_heaviest_27 ⟨Nat.le_of_ble_eq_true rfl, Nat.le_of_ble_eq_true rfl⟩) hP hD hS hA [9, 10, 11, 12, 13, 14, 15, 16, 17, 18, 19, 20, 1, 2, 3, 4, 5, 6, 7, 8] [0, 21, 22, 23] ((wXo d ns) ++ (wRw k (d 10) bh ah tr)) [d 0 0, (d 1) 0, (d 1) 1, (d 1) 2, (d 1) 3, (d 1) 4, (d 1) 5, (d 1) 6, (d 1) 7, (d 8) 0, (d 8) 1, (d 8) 2, (d 8) 3, (d 9) 0, (d 9) 1, (d 9) 2, (d 9) 3, (d 9) 4, (d 9) 5, (d 9) 6, (d 9) 7, (d 10) 0, (d 10) 1, (d 10) 2] 24 rfl (wn := (wXo d ns ++ (wSt k (d 1) S ++ (wWays k (d 8) (d 9) (lsS V S) (lsA V S al) (lsO V S op) wf ++ (wRw k (d 10) bh ah tr))))) rfl rfl rfl rfl (by decide +kernel) rfl rfl (fun H locs hP hD hS => ?_)
    clear hPc hDc
    refine lv_aload_n hx hb dX4_heaviest_30 rfl (lv_at hl 0 rfl) ?_
    refine lv_aload_n hx hb dX4_heaviest_31 rfl (lv_at hl 0 rfl) ?_
    refine va_get (D := D) (ci := 4) (v := .ref (d 1 0)) (C := RX4) (T := TX4) (N := 9) hx hb hts (fun _ h9 => (List.mem_cons_of_mem _ (List.mem_append_left _ (List.mem_append_left _ (List.mem_append_left _ (List.mem_append_right _ h9)))))) hown hK hP 0 rfl rfl 0 (by decide) (hts _ (List.mem_of_getElem? (i := 4) rfl)) (fun _ h9 => h9) rfl dX4_heaviest_32 ?_
    have hol := opnL_len (lsS V S)
    have hPc : va_P D vwCl (wXo d ns ++ (wWays k (d 8) (d 9) (lsS V S) (lsA V S al) (lsO V S op) wf ++ wSt k (d 1) S)) H := hP.sub [0, 9, 10, 11, 12, 13, 14, 15, 16, 17, 18, 19, 20, 1, 2, 3, 4, 5, 6, 7, 8] rfl
    have hDc : va_D A (wXo d ns ++ (wWays k (d 8) (d 9) (lsS V S) (lsA V S al) (lsO V S op) wf ++ wSt k (d 1) S)) := hD.sub [0, 9, 10, 11, 12, 13, 14, 15, 16, 17, 18, 19, 20, 1, 2, 3, 4, 5, 6, 7, 8] (by decide +kernel) rfl
    refine cl_i0 (va_runV (As := [.ref (d 1 0)]) (rest := []) ⟨hx, hb, hml, hown, hts⟩ (c_X4_findHeaviest l D k d (d 1) ns (lsS V S) S (apL (lsA V S al) 0 (allL (lsS V S))) (apL (lsO V S op) 0 (opnL (lsS V S))) wf (nI (allL (lsS V S)).length) (opnL (lsS V S)).length hol H.size) (cwV 1 hts gX4_heaviest_X4_findHeaviest rfl rfl rfl (by decide +kernel) ⟨Nat.le_of_ble_eq_true rfl, Nat.le_of_ble_eq_true rfl⟩) ⟨pr_blind, va_recv hK hP (ci := 4) (q0 := 0) rfl rfl, pr_at hN hPc hK hDc⟩ rfl rfl hl.1 rfl (lv_room (Nat.le_of_ble_eq_true rfl)) dX4_heaviest_35 ⟨Nat.le_of_ble_eq_true rfl, Nat.le_of_ble_eq_true rfl⟩) hP hD hS hA [0, 9, 10, 11, 12, 13, 14, 15, 16, 17, 18, 19, 20, 1, 2, 3, 4, 5, 6, 7, 8] rfl (fun H locs hP hD hS => ?_)
    clear hPc hDc
    refine lv_istore_n (lv' := [(2, .int ((hvA (S 4) (apL (lsO V S op) 0 (opnL (lsS V S))) (opnL (lsS V S)).length).2)), (0, .ref (d 0 0)), (1, .int 0)]) hx hb dX4_heaviest_38 rfl hl (by decide) rfl (fun ls hl => ?_)
    refine lv_iload_n hx hb dX4_heaviest_39 rfl (lv_at hl 0 rfl) ?_
    refine lv_iconst (v := (-1)) hx hb dX4_heaviest_40 (by decide) ?_
    refine lv_icmp_eq (tgt := 49) hx hb dX4_heaviest_41 (by decide) (fun c_2 => ?_) (fun c_2 => ?_)
    · refine lv_iload_n hx hb dX4_heaviest_49 rfl (lv_at hl 0 rfl) ?_
      subst hQ
      exact rt_i hx hb hr hlocks hS dX4_heaviest_50 (hP) (by rw [hwF, if_pos c_2]; exact c_2)
    · refine lv_iload_n hx hb dX4_heaviest_44 rfl (lv_at hl 2 rfl) ?_
      refine lv_iconst (v := 1) hx hb dX4_heaviest_45 (by decide) ?_
      refine lv_icmp_ne (tgt := 51) hx hb dX4_heaviest_46 (by decide) (fun c_3 => ?_) (fun c_3 => ?_)
      · refine lv_aload_n hx hb dX4_heaviest_51 rfl (lv_at hl 1 rfl) ?_
        refine va_get (D := D) (ci := 4) (v := .ref (d 1 0)) (C := RX4) (T := TX4) (N := 9) hx hb hts (fun _ h9 => (List.mem_cons_of_mem _ (List.mem_append_left _ (List.mem_append_left _ (List.mem_append_left _ (List.mem_append_right _ h9)))))) hown hK hP 0 rfl rfl 0 (by decide) (hts _ (List.mem_of_getElem? (i := 4) rfl)) (fun _ h9 => h9) rfl dX4_heaviest_52 ?_
        refine lv_iload_n hx hb dX4_heaviest_55 rfl (lv_at hl 0 rfl) ?_
        have hPc : va_P D vwCl (wSt k (d 1) S) H := hP.sub [1, 2, 3, 4, 5, 6, 7, 8] rfl
        have hDc : va_D A (wSt k (d 1) S) := hD.sub [1, 2, 3, 4, 5, 6, 7, 8] (by decide +kernel) rfl
        refine cl_i0 (va_runV (As := [.int ((hvA (S 4) (apL (lsO V S op) 0 (opnL (lsS V S))) (opnL (lsS V S)).length).2)]) (rest := []) ⟨hx, hb, hml, hown, hts⟩ (c_X1_weightOf l D k (d 1) S ((hvA (S 4) (apL (lsO V S op) 0 (opnL (lsS V S))) (opnL (lsS V S)).length).2) H.size) (cwV 1 hts gX4_heaviest_X1_weightOf rfl rfl rfl (by decide +kernel) ⟨Nat.le_of_ble_eq_true rfl, Nat.le_of_ble_eq_true rfl⟩) ⟨pr_blind, va_recv hK hP (ci := 1) (q0 := 1) rfl rfl, pr_at hN hPc hK hDc⟩ rfl rfl hl.1 rfl (lv_room (Nat.le_of_ble_eq_true rfl)) dX4_heaviest_56 ⟨Nat.le_of_ble_eq_true rfl, Nat.le_of_ble_eq_true rfl⟩) hP hD hS hA [1, 2, 3, 4, 5, 6, 7, 8] rfl (fun H locs hP hD hS => ?_)
        clear hPc hDc
        subst hQ
        exact rt_i hx hb hr hlocks hS dX4_heaviest_59 (hP) (by rw [hwF, if_neg c_2])
      · exact absurd c_3 (by decide)
  · exact absurd c_1 (by decide)

set_option maxHeartbeats 1000000 in
set_option maxRecDepth 100000 in
theorem c_X4_heaviest_1 (l : Launch) (D : va_G) (k : Nat → ClassId) (d : Nat → Nat → Nat) (ns : Int32) (S : Nat → Nat → Int32) (V : Nat → Nat → Int32) (al op wf bh ah : Nat → Int32) (tr : Int32)   : MI l yX4_heaviest wsX4_heaviest ({ frames := 13, cells := 0, slots := 0, locals := 447 }) D k [.ref (d 0 0), .int 1] (wXo d ns ++ (wSt k (d 1) S ++ (wWays k (d 8) (d 9) V al op wf ++ (wRw k (d 10) bh ah tr)))) ((hvA (S 4) (apL (lsO V S op) 0 (opnL (lsS V S))) (opnL (lsS V S)).length).2) (wXo d ns ++ (wSt k (d 1) S ++ (wWays k (d 8) (d 9) (lsS V S) (lsA V S al) (lsO V S op) wf ++ wRw k (d 10) bh ah tr))) := by
  intro sz
  refine Met.ofW (cc := cX4_heaviest) (maxL := 3) (ret := (some .int)) (by decide) rfl ?_
  intro p e s m args below meth c s₁ B hml hv
  obtain ⟨rfl, hN, hsz, hP, hK, hD0⟩ := hv
  have hx := B.exec
  have hb := B.bytes
  have hr := B.returns
  have hts := atoms_spec (ws := wsX4_heaviest) B.pre
  have hown : s.vm.findClass RX4 = some m.cls := findClass_of_methodNamed B.named
  have hlocks := B.notSynchronized
  subst hsz
  have hD := hD0.self (sz := s.heap.size)
  generalize hAe : va_A (wXo d ns ++ (wSt k (d 1) S ++ (wWays k (d 8) (d 9) V al op wf ++ (wRw k (d 10) bh ah tr)))) s.heap.size = A at hD ⊢
  have hA : ∀ q : Nat, s.heap.size ≤ q → A q := fun q h => by rw [← hAe]; exact Or.inr h
  have hS : va_S A s.heap s.heap [] := va_S.rf
  have hl := lv_entry ([.ref (d 0 0), .int 1]) (n := 3) (Nat.le_of_ble_eq_true rfl)
  rw [lg_entry_eq]
  generalize (lg_sl ([.ref (d 0 0), .int 1]) ++ List.replicate (3 - (lg_sl ([.ref (d 0 0), .int 1])).length) Slot.unset).toArray = ls at hl ⊢
  have hl : lv_has ls 3 [(0, .ref (d 0 0)), (1, .int 1)] := hl
  obtain ⟨H, hHe⟩ : ∃ H, H = s.heap := ⟨_, rfl⟩
  have hP : va_P D vwCl (wXo d ns ++ (wSt k (d 1) S ++ (wWays k (d 8) (d 9) V al op wf ++ (wRw k (d 10) bh ah tr)))) H := by rw [hHe]; exact hP
  have hS : va_S A s.heap H [] := by rw [hHe]; exact hS
  rw [← hHe]
  refine absQ (fun Q hQ => ?_)
  refine lv_iload_n hx hb dX4_heaviest_0 rfl (lv_at hl 1 rfl) ?_
  refine lv_if_eq (tgt := 19) hx hb dX4_heaviest_1 (by decide) (fun c_1 => ?_) (fun c_1 => ?_)
  · exact absurd c_1 (by decide)
  · refine lv_iload_n hx hb dX4_heaviest_4 rfl (lv_at hl 1 rfl) ?_
    refine lv_iconst (v := 1) hx hb dX4_heaviest_5 (by decide) ?_
    refine lv_icmp_eq (tgt := 19) hx hb dX4_heaviest_6 (by decide) (fun c_2 => ?_) (fun c_2 => ?_)
    · refine lv_aload_n hx hb dX4_heaviest_19 rfl (lv_at hl 0 rfl) ?_
      refine va_get (D := D) (ci := 4) (v := .ref (d 8 0)) (C := RX4) (T := TX4) (N := 9) hx hb hts (fun _ h9 => (List.mem_cons_of_mem _ (List.mem_append_left _ (List.mem_append_left _ (List.mem_append_left _ (List.mem_append_right _ h9)))))) hown hK hP 0 rfl rfl 7 (by decide) (hts _ (List.mem_of_getElem? (i := 3) rfl)) (fun _ h9 => h9) rfl dX4_heaviest_20 ?_
      refine lv_aload_n hx hb dX4_heaviest_23 rfl (lv_at hl 0 rfl) ?_
      refine va_get (D := D) (ci := 4) (v := .ref (d 1 0)) (C := RX4) (T := TX4) (N := 9) hx hb hts (fun _ h9 => (List.mem_cons_of_mem _ (List.mem_append_left _ (List.mem_append_left _ (List.mem_append_left _ (List.mem_append_right _ h9)))))) hown hK hP 0 rfl rfl 0 (by decide) (hts _ (List.mem_of_getElem? (i := 4) rfl)) (fun _ h9 => h9) rfl dX4_heaviest_24 ?_
      have hPc : va_P D vwCl (wWays k (d 8) (d 9) V al op wf ++ wSt k (d 1) S) H := hP.sub [9, 10, 11, 12, 13, 14, 15, 16, 17, 18, 19, 20, 1, 2, 3, 4, 5, 6, 7, 8] rfl
      have hDc : va_D A (wWays k (d 8) (d 9) V al op wf ++ wSt k (d 1) S) := hD.sub [9, 10, 11, 12, 13, 14, 15, 16, 17, 18, 19, 20, 1, 2, 3, 4, 5, 6, 7, 8] (by decide +kernel) rfl
      refine cl_v (va_runV (As := [.ref (d 1 0)]) (rest := []) ⟨hx, hb, hml, hown, hts⟩ (c_X3_list l D k (d 8) (d 9) (d 1) V S al op wf H.size) (cwV 1 hts gX4_heaviest_X3_list rfl rfl rfl (by decide +kernel) ⟨Nat.le_of_ble_eq_true rfl, Nat.le_of_ble_eq_true rfl⟩) ⟨pr_blind, va_recv hK hP (ci := 3) (q0 := 9) rfl rfl, pr_at hN hPc hK hDc⟩ rfl rfl hl.1 rfl (lv_room (Nat.le_of_ble_eq_true rfl)) dX4_heaviest_27 ⟨Nat.le_of_ble_eq_true rfl, Nat.le_of_ble_eq_true rfl⟩) hP hD hS hA [9, 10, 11, 12, 13, 14, 15, 16, 17, 18, 19, 20, 1, 2, 3, 4, 5, 6, 7, 8] [0, 21, 22, 23] ((wXo d ns) ++ (wRw k (d 10) bh ah tr)) [d 0 0, (d 1) 0, (d 1) 1, (d 1) 2, (d 1) 3, (d 1) 4, (d 1) 5, (d 1) 6, (d 1) 7, (d 8) 0, (d 8) 1, (d 8) 2, (d 8) 3, (d 9) 0, (d 9) 1, (d 9) 2, (d 9) 3, (d 9) 4, (d 9) 5, (d 9) 6, (d 9) 7, (d 10) 0, (d 10) 1, (d 10) 2] 24 rfl (wn := (wXo d ns ++ (wSt k (d 1) S ++ (wWays k (d 8) (d 9) (lsS V S) (lsA V S al) (lsO V S op) wf ++ (wRw k (d 10) bh ah tr))))) rfl rfl rfl rfl (by decide +kernel) rfl rfl (fun H locs hP hD hS => ?_)
      clear hPc hDc
      refine lv_aload_n hx hb dX4_heaviest_30 rfl (lv_at hl 0 rfl) ?_
      refine lv_aload_n hx hb dX4_heaviest_31 rfl (lv_at hl 0 rfl) ?_
      refine va_get (D := D) (ci := 4) (v := .ref (d 1 0)) (C := RX4) (T := TX4) (N := 9) hx hb hts (fun _ h9 => (List.mem_cons_of_mem _ (List.mem_append_left _ (List.mem_append_left _ (List.mem_append_left _ (List.mem_append_right _ h9)))))) hown hK hP 0 rfl rfl 0 (by decide) (hts _ (List.mem_of_getElem? (i := 4) rfl)) (fun _ h9 => h9) rfl dX4_heaviest_32 ?_
      have hol := opnL_len (lsS V S)
      have hPc : va_P D vwCl (wXo d ns ++ (wWays k (d 8) (d 9) (lsS V S) (lsA V S al) (lsO V S op) wf ++ wSt k (d 1) S)) H := hP.sub [0, 9, 10, 11, 12, 13, 14, 15, 16, 17, 18, 19, 20, 1, 2, 3, 4, 5, 6, 7, 8] rfl
      have hDc : va_D A (wXo d ns ++ (wWays k (d 8) (d 9) (lsS V S) (lsA V S al) (lsO V S op) wf ++ wSt k (d 1) S)) := hD.sub [0, 9, 10, 11, 12, 13, 14, 15, 16, 17, 18, 19, 20, 1, 2, 3, 4, 5, 6, 7, 8] (by decide +kernel) rfl
      refine cl_i0 (va_runV (As := [.ref (d 1 0)]) (rest := []) ⟨hx, hb, hml, hown, hts⟩ (c_X4_findHeaviest l D k d (d 1) ns (lsS V S) S (apL (lsA V S al) 0 (allL (lsS V S))) (apL (lsO V S op) 0 (opnL (lsS V S))) wf (nI (allL (lsS V S)).length) (opnL (lsS V S)).length hol H.size) (cwV 1 hts gX4_heaviest_X4_findHeaviest rfl rfl rfl (by decide +kernel) ⟨Nat.le_of_ble_eq_true rfl, Nat.le_of_ble_eq_true rfl⟩) ⟨pr_blind, va_recv hK hP (ci := 4) (q0 := 0) rfl rfl, pr_at hN hPc hK hDc⟩ rfl rfl hl.1 rfl (lv_room (Nat.le_of_ble_eq_true rfl)) dX4_heaviest_35 ⟨Nat.le_of_ble_eq_true rfl, Nat.le_of_ble_eq_true rfl⟩) hP hD hS hA [0, 9, 10, 11, 12, 13, 14, 15, 16, 17, 18, 19, 20, 1, 2, 3, 4, 5, 6, 7, 8] rfl (fun H locs hP hD hS => ?_)
      clear hPc hDc
      refine lv_istore_n (lv' := [(2, .int ((hvA (S 4) (apL (lsO V S op) 0 (opnL (lsS V S))) (opnL (lsS V S)).length).2)), (0, .ref (d 0 0)), (1, .int 1)]) hx hb dX4_heaviest_38 rfl hl (by decide) rfl (fun ls hl => ?_)
      refine lv_iload_n hx hb dX4_heaviest_39 rfl (lv_at hl 0 rfl) ?_
      refine lv_iconst (v := (-1)) hx hb dX4_heaviest_40 (by decide) ?_
      refine lv_icmp_eq (tgt := 49) hx hb dX4_heaviest_41 (by decide) (fun c_3 => ?_) (fun c_3 => ?_)
      · refine lv_iload_n hx hb dX4_heaviest_49 rfl (lv_at hl 0 rfl) ?_
        subst hQ
        exact rt_i hx hb hr hlocks hS dX4_heaviest_50 (hP) (rfl)
      · refine lv_iload_n hx hb dX4_heaviest_44 rfl (lv_at hl 2 rfl) ?_
        refine lv_iconst (v := 1) hx hb dX4_heaviest_45 (by decide) ?_
        refine lv_icmp_ne (tgt := 51) hx hb dX4_heaviest_46 (by decide) (fun c_4 => ?_) (fun c_4 => ?_)
        · exact absurd c_4 (by decide)
        · refine lv_iload_n hx hb dX4_heaviest_49 rfl (lv_at hl 0 rfl) ?_
          subst hQ
          exact rt_i hx hb hr hlocks hS dX4_heaviest_50 (hP) (rfl)
    · exact absurd c_2 (by decide)

set_option maxHeartbeats 1000000 in
set_option maxRecDepth 100000 in
theorem c_X4_openWay (l : Launch) (D : va_G) (k : Nat → ClassId) (d : Nat → Nat → Nat) (ns : Int32) (S : Nat → Nat → Int32) (V : Nat → Nat → Int32) (al op wf bh ah : Nat → Int32) (tr : Int32) (r : Nat) (hr31 : r < 2 ^ 31) : MI l yX4_openWay wsX4_openWay ({ frames := 13, cells := 0, slots := 0, locals := 447 }) D k [.ref (d 0 0), .int (nI r)] (wXo d ns ++ (wSt k (d 1) S ++ (wWays k (d 8) (d 9) V al op wf ++ (wRw k (d 10) bh ah tr)))) (owF (apL (lsO V S op) 0 (opnL (lsS V S))) (opnL (lsS V S)).length r) (wXo d ns ++ (wSt k (d 1) S ++ (wWays k (d 8) (d 9) (lsS V S) (lsA V S al) (lsO V S op) wf ++ wRw k (d 10) bh ah tr))) := by
  intro sz
  refine Met.ofW (cc := cX4_openWay) (maxL := 2) (ret := (some .int)) (by decide) rfl ?_
  intro p e s m args below meth c s₁ B hml hv
  obtain ⟨rfl, hN, hsz, hP, hK, hD0⟩ := hv
  have hx := B.exec
  have hb := B.bytes
  have hr := B.returns
  have hts := atoms_spec (ws := wsX4_openWay) B.pre
  have hown : s.vm.findClass RX4 = some m.cls := findClass_of_methodNamed B.named
  have hlocks := B.notSynchronized
  subst hsz
  have hD := hD0.self (sz := s.heap.size)
  generalize hAe : va_A (wXo d ns ++ (wSt k (d 1) S ++ (wWays k (d 8) (d 9) V al op wf ++ (wRw k (d 10) bh ah tr)))) s.heap.size = A at hD ⊢
  have hA : ∀ q : Nat, s.heap.size ≤ q → A q := fun q h => by rw [← hAe]; exact Or.inr h
  have hS : va_S A s.heap s.heap [] := va_S.rf
  have hl := lv_entry ([.ref (d 0 0), .int (nI r)]) (n := 2) (Nat.le_of_ble_eq_true rfl)
  rw [lg_entry_eq]
  generalize (lg_sl ([.ref (d 0 0), .int (nI r)]) ++ List.replicate (2 - (lg_sl ([.ref (d 0 0), .int (nI r)])).length) Slot.unset).toArray = ls at hl ⊢
  have hl : lv_has ls 2 [(0, .ref (d 0 0)), (1, .int (nI r))] := hl
  obtain ⟨H, hHe⟩ : ∃ H, H = s.heap := ⟨_, rfl⟩
  have hP : va_P D vwCl (wXo d ns ++ (wSt k (d 1) S ++ (wWays k (d 8) (d 9) V al op wf ++ (wRw k (d 10) bh ah tr)))) H := by rw [hHe]; exact hP
  have hS : va_S A s.heap H [] := by rw [hHe]; exact hS
  rw [← hHe]
  refine absQ (fun Q hQ => ?_)
  refine lv_iload_n hx hb dX4_openWay_0 rfl (lv_at hl 1 rfl) ?_
  refine lv_if_ge (tgt := 14) hx hb dX4_openWay_1 (by decide) (fun c_1 => ?_) (fun c_1 => ?_)
  · have c_1 : 0 ≤ r := (nI_leI (a := 0) (b := r) (by omega) (by omega)).mp c_1
    refine lv_aload_n hx hb dX4_openWay_14 rfl (lv_at hl 0 rfl) ?_
    refine va_get (D := D) (ci := 4) (v := .ref (d 8 0)) (C := RX4) (T := TX4) (N := 9) hx hb hts (fun _ h9 => (List.mem_cons_of_mem _ (List.mem_append_left _ (List.mem_append_left _ (List.mem_append_left _ (List.mem_append_right _ h9)))))) hown hK hP 0 rfl rfl 7 (by decide) (hts _ (List.mem_of_getElem? (i := 3) rfl)) (fun _ h9 => h9) rfl dX4_openWay_15 ?_
    refine lv_aload_n hx hb dX4_openWay_18 rfl (lv_at hl 0 rfl) ?_
    refine va_get (D := D) (ci := 4) (v := .ref (d 1 0)) (C := RX4) (T := TX4) (N := 9) hx hb hts (fun _ h9 => (List.mem_cons_of_mem _ (List.mem_append_left _ (List.mem_append_left _ (List.mem_append_left _ (List.mem_append_right _ h9)))))) hown hK hP 0 rfl rfl 0 (by decide) (hts _ (List.mem_of_getElem? (i := 4) rfl)) (fun _ h9 => h9) rfl dX4_openWay_19 ?_
    have hPc : va_P D vwCl (wWays k (d 8) (d 9) V al op wf ++ wSt k (d 1) S) H := hP.sub [9, 10, 11, 12, 13, 14, 15, 16, 17, 18, 19, 20, 1, 2, 3, 4, 5, 6, 7, 8] rfl
    have hDc : va_D A (wWays k (d 8) (d 9) V al op wf ++ wSt k (d 1) S) := hD.sub [9, 10, 11, 12, 13, 14, 15, 16, 17, 18, 19, 20, 1, 2, 3, 4, 5, 6, 7, 8] (by decide +kernel) rfl
    refine cl_v (va_runV (As := [.ref (d 1 0)]) (rest := []) ⟨hx, hb, hml, hown, hts⟩ (c_X3_list l D k (d 8) (d 9) (d 1) V S al op wf H.size) (cwV 1 hts gX4_openWay_X3_list rfl rfl rfl (by decide +kernel) ⟨Nat.le_of_ble_eq_true rfl, Nat.le_of_ble_eq_true rfl⟩) ⟨pr_blind, va_recv hK hP (ci := 3) (q0 := 9) rfl rfl, pr_at hN hPc hK hDc⟩ rfl rfl hl.1 rfl (lv_room (Nat.le_of_ble_eq_true rfl)) dX4_openWay_22 ⟨Nat.le_of_ble_eq_true rfl, Nat.le_of_ble_eq_true rfl⟩) hP hD hS hA [9, 10, 11, 12, 13, 14, 15, 16, 17, 18, 19, 20, 1, 2, 3, 4, 5, 6, 7, 8] [0, 21, 22, 23] ((wXo d ns) ++ (wRw k (d 10) bh ah tr)) [d 0 0, (d 1) 0, (d 1) 1, (d 1) 2, (d 1) 3, (d 1) 4, (d 1) 5, (d 1) 6, (d 1) 7, (d 8) 0, (d 8) 1, (d 8) 2, (d 8) 3, (d 9) 0, (d 9) 1, (d 9) 2, (d 9) 3, (d 9) 4, (d 9) 5, (d 9) 6, (d 9) 7, (d 10) 0, (d 10) 1, (d 10) 2] 24 rfl (wn := (wXo d ns ++ (wSt k (d 1) S ++ (wWays k (d 8) (d 9) (lsS V S) (lsA V S al) (lsO V S op) wf ++ (wRw k (d 10) bh ah tr))))) rfl rfl rfl rfl (by decide +kernel) rfl rfl (fun H locs hP hD hS => ?_)
    clear hPc hDc
    have hol := opnL_len (lsS V S)
    refine lv_iload_n hx hb dX4_openWay_25 rfl (lv_at hl 1 rfl) ?_
    refine lv_aload_n hx hb dX4_openWay_26 rfl (lv_at hl 0 rfl) ?_
    refine va_get (D := D) (ci := 4) (v := .ref (d 8 0)) (C := RX4) (T := TX4) (N := 9) hx hb hts (fun _ h9 => (List.mem_cons_of_mem _ (List.mem_append_left _ (List.mem_append_left _ (List.mem_append_left _ (List.mem_append_right _ h9)))))) hown hK hP 0 rfl rfl 7 (by decide) (hts _ (List.mem_of_getElem? (i := 3) rfl)) (fun _ h9 => h9) rfl dX4_openWay_27 ?_
    refine va_get (D := D) (ci := 3) (v := .int (nI ((opnL (lsS V S)).length))) (C := RX3) (T := TX3) (N := 6) hx hb hts (fun _ h9 => (List.mem_cons_of_mem _ (List.mem_append_left _ (List.mem_append_left _ (List.mem_append_right _ h9))))) hown hK hP 9 rfl rfl 3 (by decide) (hts _ (List.mem_of_getElem? (i := 5) rfl)) (fun _ h9 => h9) rfl dX4_openWay_30 ?_
    refine lv_icmp_ge (tgt := 55) hx hb dX4_openWay_33 (by decide) (fun c_2 => ?_) (fun c_2 => ?_)
    · have c_2 : (opnL (lsS V S)).length ≤ r := (nI_leI (a := (opnL (lsS V S)).length) (b := r) (by omega) (by omega)).mp c_2
      refine lv_iconst (v := (-1)) hx hb dX4_openWay_55 (by decide) ?_
      subst hQ
      exact rt_i hx hb hr hlocks hS dX4_openWay_56 (hP) (by rw [owF, if_pos c_2])
    · have c_2 : ¬ ((opnL (lsS V S)).length ≤ r) := fun h9 => c_2 ((nI_leI (a := (opnL (lsS V S)).length) (b := r) (by omega) (by omega)).mpr h9)
      refine lv_iload_n hx hb dX4_openWay_36 rfl (lv_at hl 1 rfl) ?_
      refine lv_sipush (v := 512) hx hb dX4_openWay_37 (by decide) ?_
      refine lv_icmp_ge (tgt := 55) hx hb dX4_openWay_40 (by decide) (fun c_3 => ?_) (fun c_3 => ?_)
      · have c_3 : 512 ≤ r := (nI_leI (a := 512) (b := r) (by omega) (by omega)).mp c_3
        exact absurd c_3 (by omega)
      · have c_3 : ¬ (512 ≤ r) := fun h9 => c_3 ((nI_leI (a := 512) (b := r) (by omega) (by omega)).mpr h9)
        refine lv_aload_n hx hb dX4_openWay_43 rfl (lv_at hl 0 rfl) ?_
        refine va_get (D := D) (ci := 4) (v := .ref (d 8 0)) (C := RX4) (T := TX4) (N := 9) hx hb hts (fun _ h9 => (List.mem_cons_of_mem _ (List.mem_append_left _ (List.mem_append_left _ (List.mem_append_left _ (List.mem_append_right _ h9)))))) hown hK hP 0 rfl rfl 7 (by decide) (hts _ (List.mem_of_getElem? (i := 3) rfl)) (fun _ h9 => h9) rfl dX4_openWay_44 ?_
        refine va_get (D := D) (ci := 3) (v := .ref (d 8 2)) (C := RX3) (T := TX3) (N := 6) hx hb hts (fun _ h9 => (List.mem_cons_of_mem _ (List.mem_append_left _ (List.mem_append_left _ (List.mem_append_right _ h9))))) hown hK hP 9 rfl rfl 1 (by decide) (hts _ (List.mem_of_getElem? (i := 6) rfl)) (fun _ h9 => h9) rfl dX4_openWay_47 ?_
        refine lv_iload_n hx hb dX4_openWay_50 rfl (lv_at hl 1 rfl) ?_
        refine ar_ld hx hb hK hP 11 rfl r (nI_clamp (by omega)) (vp_in_nI (by omega) (by omega)) dX4_openWay_51 ?_
        refine lv_goto (tgt := 56) hx hb dX4_openWay_52 (by decide) ?_
        subst hQ
        exact rt_i hx hb hr hlocks hS dX4_openWay_56 (hP) (by rw [owF, if_neg c_2])
  · have c_1 : ¬ (0 ≤ r) := fun h9 => c_1 ((nI_leI (a := 0) (b := r) (by omega) (by omega)).mpr h9)
    exact absurd c_1 (by omega)
