def hwF (S : Nat → Nat → Int32) (m : Int32) : Int32 := if m = -1 then -1 else wtF (S 4) m 9
def owF (f : Nat → Int32) (n r : Nat) : Int32 := if n ≤ r then -1 else f r
/-- the piece in the most ways of a row, and in how many, of the first pieces -/
def mpF (f : Nat → Int32) (n : Nat) : Nat → Int32 × Int32
  | 0 => (-1, 0)
  | i + 1 => if cjtF f (nI i) n ≤ (mpF f n i).2 then mpF f n i else (nI i, cjtF f (nI i) n)

set_option maxHeartbeats 1000000 in
set_option maxRecDepth 100000 in
theorem c_X4_heaviest_0 (l : Launch) (D : va_G) (k : Nat → ClassId) (d : Nat → Nat → Nat) (ns : Int32) (S : Nat → Nat → Int32) (V : Nat → Nat → Int32) (al op wf bh ah : Nat → Int32) (tr : Int32)   : MI l yX4_heaviest wsX4_heaviest ({ frames := 13, cells := 0, slots := 0, locals := 447 }) D k [.ref (d 0 0), .int 0] (wXo d ns ++ (wSt k (d 1) S ++ (wWays k (d 8) (d 9) V al op wf ++ (wRw k (d 10) bh ah tr)))) (hwF S (hvA (S 4) (apL (lsO V S op) 0 (opnL (lsS V S))) (opnL (lsS V S)).length).2) (wXo d ns ++ (wSt k (d 1) S ++ (wWays k (d 8) (d 9) (lsS V S) (lsA V S al) (lsO V S op) wf ++ wRw k (d 10) bh ah tr))) := by
  intro sz
  refine Met.ofW (cc := cX4_heaviest) (maxL := 3) (ret := (some .int)) (by decide) rfl ?_
  intro p e s m args below meth c s₁ B hml hv
  obtain ⟨rfl, hN, hsz, hP, hK, hD0⟩ := hv
  have hx := B.exec
  have hb := B.bytes
  have hr := B.returns
  have hts := atoms_spec (ws := wsX4_heaviest) B.pre
  have hown : s.vm.findClass RX4 = some m.cls := findClass_of_methodNamed B.named
  have hlocks := B.notSynchronized
  subst hsz
  have hD := hD0.self (sz := s.heap.size)
  generalize hAe : va_A (wXo d ns ++ (wSt k (d 1) S ++ (wWays k (d 8) (d 9) V al op wf ++ (wRw k (d 10) bh ah tr)))) s.heap.size = A at hD ⊢
  have hA : ∀ q : Nat, s.heap.size ≤ q → A q := fun q h => by rw [← hAe]; exact Or.inr h
  have hS : va_S A s.heap s.heap [] := va_S.rf
  have hl := lv_entry ([.ref (d 0 0), .int 0]) (n := 3) (Nat.le_of_ble_eq_true rfl)
  rw [lg_entry_eq]
  generalize (lg_sl ([.ref (d 0 0), .int 0]) ++ List.replicate (3 - (lg_sl ([.ref (d 0 0), .int 0])).length) Slot.unset).toArray = ls at hl ⊢
  have hl : lv_has ls 3 [(0, .ref (d 0 0)), (1, .int 0)] := hl
  obtain ⟨H, hHe⟩ : ∃ H, H = s.heap := ⟨_, rfl⟩
  have hP : va_P D vwCl (wXo d ns ++ (wSt k (d 1) S ++ (wWays k (d 8) (d 9) V al op wf ++ (wRw k (d 10) bh ah tr)))) H := by rw [hHe]; exact hP
  have hS : va_S A s.heap H [] := by rw [hHe]; exact hS
  rw [← hHe]
  refine absQ (fun Q hQ => ?_)
  refine lv_iload_n hx hb dX4_heaviest_0 rfl (lv_at hl 1 rfl) ?_
  refine lv_if_eq (tgt := 19) hx hb dX4_heaviest_1 (by decide) (fun c_1 => ?_) (fun c_1 => ?_)
  · refine lv_aload_n hx hb dX4_heaviest_19 rfl (lv_at hl 0 rfl) ?_
    refine va_get (D := D) (ci := 4) (v := .ref (d 8 0)) (C := RX4) (T := TX4) (N := 9) hx hb hts (fun _ h9 => (List.mem_cons_of_mem _ (List.mem_append_left _ (List.mem_append_left _ (List.mem_append_left _ (List.mem_append_right _ h9)))))) hown hK hP 0 rfl rfl 7 (by decide) (hts _ (List.mem_of_getElem? (i := 3) rfl)) (fun _ h9 => h9) rfl dX4_heaviest_20 ?_
    refine lv_aload_n hx hb dX4_heaviest_23 rfl (lv_at hl 0 rfl) ?_
    refine va_get (D := D) (ci := 4) (v := .ref (d 1 0)) (C := RX4) (T := TX4) (N := 9) hx hb hts (fun _ h9 => (List.mem_cons_of_mem _ (List.mem_append_left _ (List.mem_append_left _ (List.mem_append_left _ (List.mem_append_right _ h9)))))) hown hK hP 0 rfl rfl 0 (by decide) (hts _ (List.mem_of_getElem? (i := 4) rfl)) (fun _ h9 => h9) rfl dX4_heaviest_24 ?_
    have hPc : va_P D vwCl (wWays k (d 8) (d 9) V al op wf ++ wSt k (d 1) S) H := hP.sub [9, 10, 11, 12, 13, 14, 15, 16, 17, 18, 19, 20, 1, 2, 3, 4, 5, 6, 7, 8] rfl
    have hDc : va_D A (wWays k (d 8) (d 9) V al op wf ++ wSt k (d 1) S) := hD.sub [9, 10, 11, 12, 13, 14, 15, 16, 17, 18, 19, 20, 1, 2, 3, 4, 5, 6, 7, 8] (by decide +kernel) rfl
    refine cl_v (va_runV (As := [.ref (d 1 0)]) (rest := []) ⟨hx, hb, hml, hown, hts⟩ (c_X3_list l D k (d 8) (d 9) (d 1) V S al op wf H.size) (cwV 1 hts gX4_heaviest_X3_list rfl rfl rfl (by decide +kernel) ⟨Nat.le_of_ble_eq_true rfl, Nat.le_of_ble_eq_true rfl⟩) ⟨pr_blind, va_recv hK hP (ci := 3) (q0 := 9) rfl rfl, pr_at hN hPc hK hDc⟩ rfl rfl hl.1 rfl (lv_room (Nat.le_of_ble_eq_true rfl)) dX4_heaviest_27 ⟨Nat.le_of_ble_eq_true rfl, Nat.le_of_ble_eq_true rfl⟩) hP hD hS hA [9, 10, 11, 12, 13, 14, 15, 16, 17, 18, 19, 20, 1, 2, 3, 4, 5, 6, 7, 8] [0, 21, 22, 23] ((wXo d ns) ++ (wRw k (d 10) bh ah tr)) [d 0 0, (d 1) 0, (d 1) 1, (d 1) 2, (d 1) 3, (d 1) 4, (d 1) 5, (d 1) 6, (d 1) 7, (d 8) 0, (d 8) 1, (d 8) 2, (d 8) 3, (d 9) 0, (d 9) 1, (d 9) 2, (d 9) 3, (d 9) 4, (d 9) 5, (d 9) 6, (d 9) 7, (d 10) 0, (d 10) 1, (d 10) 2] 24 rfl (wn := (wXo d ns ++ (wSt k (d 1) S ++ (wWays k (d 8) (d 9) (lsS V S) (lsA V S al) (lsO V S op) wf ++ (wRw k (d 10) bh ah tr))))) rfl rfl rfl rfl (by decide +kernel) rfl rfl (fun H locs hP hD hS => ?_)
    clear hPc hDc
    refine lv_aload_n hx hb dX4_heaviest_30 rfl (lv_at hl 0 rfl) ?_
    refine lv_aload_n hx hb dX4_heaviest_31 rfl (lv_at hl 0 rfl) ?_
    refine va_get (D := D) (ci := 4) (v := .ref (d 1 0)) (C := RX4) (T := TX4) (N := 9) hx hb hts (fun _ h9 => (List.mem_cons_of_mem _ (List.mem_append_left _ (List.mem_append_left _ (List.mem_append_left _ (List.mem_append_right _ h9)))))) hown hK hP 0 rfl rfl 0 (by decide) (hts _ (List.mem_of_getElem? (i := 4) rfl)) (fun _ h9 => h9) rfl dX4_heaviest_32 ?_
    have hol := opnL_len (lsS V S)
    have hPc : va_P D vwCl (wXo d ns ++ (wWays k (d 8) (d 9) (lsS V S) (lsA V S al) (lsO V S op) wf ++ wSt k (d 1) S)) H := hP.sub [0, 9, 10, 11, 12, 13, 14, 15, 16, 17, 18, 19, 20, 1, 2, 3, 4, 5, 6, 7, 8] rfl
    have hDc : va_D A (wXo d ns ++ (wWays k (d 8) (d 9) (lsS V S) (lsA V S al) (lsO V S op) wf ++ wSt k (d 1) S)) := hD.sub [0, 9, 10, 11, 12, 13, 14, 15, 16, 17, 18, 19, 20, 1, 2, 3, 4, 5, 6, 7, 8] (by decide +kernel) rfl
    refine cl_i0 (va_runV (As := [.ref (d 1 0)]) (rest := []) ⟨hx, hb, hml, hown, hts⟩ (c_X4_findHeaviest l D k d (d 1) ns (lsS V S) S (apL (lsA V S al) 0 (allL (lsS V S))) (apL (lsO V S op) 0 (opnL (lsS V S))) wf (nI (allL (lsS V S)).length) (opnL (lsS V S)).length hol H.size) (cwV 1 hts gX4_heaviest_X4_findHeaviest rfl rfl rfl (by decide +kernel) ⟨Nat.le_of_ble_eq_true rfl, Nat.le_of_ble_eq_true rfl⟩) ⟨pr_blind, va_recv hK hP (ci := 4) (q0 := 0) rfl rfl, pr_at hN hPc hK hDc⟩ rfl rfl hl.1 rfl (lv_room (Nat.le_of_ble_eq_true rfl)) dX4_heaviest_35 ⟨Nat.le_of_ble_eq_true rfl, Nat.le_of_ble_eq_true rfl⟩) hP hD hS hA [0, 9, 10, 11, 12, 13, 14, 15, 16, 17, 18, 19, 20, 1, 2, 3, 4, 5, 6, 7, 8] rfl (fun H locs hP hD hS => ?_)
    clear hPc hDc
    refine lv_istore_n (lv' := [(2, .int ((hvA (S 4) (apL (lsO V S op) 0 (opnL (lsS V S))) (opnL (lsS V S)).length).2)), (0, .ref (d 0 0)), (1, .int 0)]) hx hb dX4_heaviest_38 rfl hl (by decide) rfl (fun ls hl => ?_)
    refine lv_iload_n hx hb dX4_heaviest_39 rfl (lv_at hl 0 rfl) ?_
    refine lv_iconst (v := (-1)) hx hb dX4_heaviest_40 (by decide) ?_
    refine lv_icmp_eq (tgt := 49) hx hb dX4_heaviest_41 (by decide) (fun c_2 => ?_) (fun c_2 => ?_)
    · refine lv_iload_n hx hb dX4_heaviest_49 rfl (lv_at hl 0 rfl) ?_
      subst hQ
      exact rt_i hx hb hr hlocks hS dX4_heaviest_50 (hP) (by rw [hwF, if_pos c_2]; exact c_2)
    · refine lv_iload_n hx hb dX4_heaviest_44 rfl (lv_at hl 2 rfl) ?_
      refine lv_iconst (v := 1) hx hb dX4_heaviest_45 (by decide) ?_
      refine lv_icmp_ne (tgt := 51) hx hb dX4_heaviest_46 (by decide) (fun c_3 => ?_) (fun c_3 => ?_)
      · refine lv_aload_n hx hb dX4_heaviest_51 rfl (lv_at hl 1 rfl) ?_
        refine va_get (D := D) (ci := 4) (v := .ref (d 1 0)) (C := RX4) (T := TX4) (N := 9) hx hb hts (fun _ h9 => (List.mem_cons_of_mem _ (List.mem_append_left _ (List.mem_append_left _ (List.mem_append_left _ (List.mem_append_right _ h9)))))) hown hK hP 0 rfl rfl 0 (by decide) (hts _ (List.mem_of_getElem? (i := 4) rfl)) (fun _ h9 => h9) rfl dX4_heaviest_52 ?_
        refine lv_iload_n hx hb dX4_heaviest_55 rfl (lv_at hl 0 rfl) ?_
        have hPc : va_P D vwCl (wSt k (d 1) S) H := hP.sub [1, 2, 3, 4, 5, 6, 7, 8] rfl
        have hDc : va_D A (wSt k (d 1) S) := hD.sub [1, 2, 3, 4, 5, 6, 7, 8] (by decide +kernel) rfl
        refine cl_i0 (va_runV (As := [.int ((hvA (S 4) (apL (lsO V S op) 0 (opnL (lsS V S))) (opnL (lsS V S)).length).2)]) (rest := []) ⟨hx, hb, hml, hown, hts⟩ (c_X1_weightOf l D k (d 1) S ((hvA (S 4) (apL (lsO V S op) 0 (opnL (lsS V S))) (opnL (lsS V S)).length).2) H.size) (cwV 1 hts gX4_heaviest_X1_weightOf rfl rfl rfl (by decide +kernel) ⟨Nat.le_of_ble_eq_true rfl, Nat.le_of_ble_eq_true rfl⟩) ⟨pr_blind, va_recv hK hP (ci := 1) (q0 := 1) rfl rfl, pr_at hN hPc hK hDc⟩ rfl rfl hl.1 rfl (lv_room (Nat.le_of_ble_eq_true rfl)) dX4_heaviest_56 ⟨Nat.le_of_ble_eq_true rfl, Nat.le_of_ble_eq_true rfl⟩) hP hD hS hA [1, 2, 3, 4, 5, 6, 7, 8] rfl (fun H locs hP hD hS => ?_)
        clear hPc hDc
        subst hQ
        exact rt_i hx hb hr hlocks hS dX4_heaviest_59 (hP) (by rw [hwF, if_neg c_2])
      · exact absurd c_3 (by decide)
  · exact absurd c_1 (by decide)

set_option maxHeartbeats 1000000 in
set_option maxRecDepth 100000 in
theorem c_X4_heaviest_1 (l : Launch) (D : va_G) (k : Nat → ClassId) (d : Nat → Nat → Nat) (ns : Int32) (S : Nat → Nat → Int32) (V : Nat → Nat → Int32) (al op wf bh ah : Nat → Int32) (tr : Int32)   : MI l yX4_heaviest wsX4_heaviest ({ frames := 13, cells := 0, slots := 0, locals := 447 }) D k [.ref (d 0 0), .int 1] (wXo d ns ++ (wSt k (d 1) S ++ (wWays k (d 8) (d 9) V al op wf ++ (wRw k (d 10) bh ah tr)))) ((hvA (S 4) (apL (lsO V S op) 0 (opnL (lsS V S))) (opnL (lsS V S)).length).2) (wXo d ns ++ (wSt k (d 1) S ++ (wWays k (d 8) (d 9) (lsS V S) (lsA V S al) (lsO V S op) wf ++ wRw k (d 10) bh ah tr))) := by
  intro sz
  refine Met.ofW (cc := cX4_heaviest) (maxL := 3) (ret := (some .int)) (by decide) rfl ?_
  intro p e s m args below meth c s₁ B hml hv
  obtain ⟨rfl, hN, hsz, hP, hK, hD0⟩ := hv
  have hx := B.exec
  have hb := B.bytes
  have hr := B.returns
  have hts := atoms_spec (ws := wsX4_heaviest) B.pre
  have hown : s.vm.findClass RX4 = some m.cls := findClass_of_methodNamed B.named
  have hlocks := B.notSynchronized
  subst hsz
  have hD := hD0.self (sz := s.heap.size)
  generalize hAe : va_A (wXo d ns ++ (wSt k (d 1) S ++ (wWays k (d 8) (d 9) V al op wf ++ (wRw k (d 10) bh ah tr)))) s.heap.size = A at hD ⊢
  have hA : ∀ q : Nat, s.heap.size ≤ q → A q := fun q h => by rw [← hAe]; exact Or.inr h
  have hS : va_S A s.heap s.heap [] := va_S.rf
  have hl := lv_entry ([.ref (d 0 0), .int 1]) (n := 3) (Nat.le_of_ble_eq_true rfl)
  rw [lg_entry_eq]
  generalize (lg_sl ([.ref (d 0 0), .int 1]) ++ List.replicate (3 - (lg_sl ([.ref (d 0 0), .int 1])).length) Slot.unset).toArray = ls at hl ⊢
  have hl : lv_has ls 3 [(0, .ref (d 0 0)), (1, .int 1)] := hl
  obtain ⟨H, hHe⟩ : ∃ H, H = s.heap := ⟨_, rfl⟩
  have hP : va_P D vwCl (wXo d ns ++ (wSt k (d 1) S ++ (wWays k (d 8) (d 9) V al op wf ++ (wRw k (d 10) bh ah tr)))) H := by rw [hHe]; exact hP
  have hS : va_S A s.heap H [] := by rw [hHe]; exact hS
  rw [← hHe]
  refine absQ (fun Q hQ => ?_)
  refine lv_iload_n hx hb dX4_heaviest_0 rfl (lv_at hl 1 rfl) ?_
  refine lv_if_eq (tgt := 19) hx hb dX4_heaviest_1 (by decide) (fun c_1 => ?_) (fun c_1 => ?_)
  · exact absurd c_1 (by decide)
  · refine lv_iload_n hx hb dX4_heaviest_4 rfl (lv_at hl 1 rfl) ?_
    refine lv_iconst (v := 1) hx hb dX4_heaviest_5 (by decide) ?_
    refine lv_icmp_eq (tgt := 19) hx hb dX4_heaviest_6 (by decide) (fun c_2 => ?_) (fun c_2 => ?_)
    · refine lv_aload_n hx hb dX4_heaviest_19 rfl (lv_at hl 0 rfl) ?_
      refine va_get (D := D) (ci := 4) (v := .ref (d 8 0)) (C := RX4) (T := TX4) (N := 9) hx hb hts (fun _ h9 => (List.mem_cons_of_mem _ (List.mem_append_left _ (List.mem_append_left _ (List.mem_append_left _ (List.mem_append_right _ h9)))))) hown hK hP 0 rfl rfl 7 (by decide) (hts _ (List.mem_of_getElem? (i := 3) rfl)) (fun _ h9 => h9) rfl dX4_heaviest_20 ?_
      refine lv_aload_n hx hb dX4_heaviest_23 rfl (lv_at hl 0 rfl) ?_
      refine va_get (D := D) (ci := 4) (v := .ref (d 1 0)) (C := RX4) (T := TX4) (N := 9) hx hb hts (fun _ h9 => (List.mem_cons_of_mem _ (List.mem_append_left _ (List.mem_append_left _ (List.mem_append_left _ (List.mem_append_right _ h9)))))) hown hK hP 0 rfl rfl 0 (by decide) (hts _ (List.mem_of_getElem? (i := 4) rfl)) (fun _ h9 => h9) rfl dX4_heaviest_24 ?_
      have hPc : va_P D vwCl (wWays k (d 8) (d 9) V al op wf ++ wSt k (d 1) S) H := hP.sub [9, 10, 11, 12, 13, 14, 15, 16, 17, 18, 19, 20, 1, 2, 3, 4, 5, 6, 7, 8] rfl
      have hDc : va_D A (wWays k (d 8) (d 9) V al op wf ++ wSt k (d 1) S) := hD.sub [9, 10, 11, 12, 13, 14, 15, 16, 17, 18, 19, 20, 1, 2, 3, 4, 5, 6, 7, 8] (by decide +kernel) rfl
      refine cl_v (va_runV (As := [.ref (d 1 0)]) (rest := []) ⟨hx, hb, hml, hown, hts⟩ (c_X3_list l D k (d 8) (d 9) (d 1) V S al op wf H.size) (cwV 1 hts gX4_heaviest_X3_list rfl rfl rfl (by decide +kernel) ⟨Nat.le_of_ble_eq_true rfl, Nat.le_of_ble_eq_true rfl⟩) ⟨pr_blind, va_recv hK hP (ci := 3) (q0 := 9) rfl rfl, pr_at hN hPc hK hDc⟩ rfl rfl hl.1 rfl (lv_room (Nat.le_of_ble_eq_true rfl)) dX4_heaviest_27 ⟨Nat.le_of_ble_eq_true rfl, Nat.le_of_ble_eq_true rfl⟩) hP hD hS hA [9, 10, 11, 12, 13, 14, 15, 16, 17, 18, 19, 20, 1, 2, 3, 4, 5, 6, 7, 8] [0, 21, 22, 23] ((wXo d ns) ++ (wRw k (d 10) bh ah tr)) [d 0 0, (d 1) 0, (d 1) 1, (d 1) 2, (d 1) 3, (d 1) 4, (d 1) 5, (d 1) 6, (d 1) 7, (d 8) 0, (d 8) 1, (d 8) 2, (d 8) 3, (d 9) 0, (d 9) 1, (d 9) 2, (d 9) 3, (d 9) 4, (d 9) 5, (d 9) 6, (d 9) 7, (d 10) 0, (d 10) 1, (d 10) 2] 24 rfl (wn := (wXo d ns ++ (wSt k (d 1) S ++ (wWays k (d 8) (d 9) (lsS V S) (lsA V S al) (lsO V S op) wf ++ (wRw k (d 10) bh ah tr))))) rfl rfl rfl rfl (by decide +kernel) rfl rfl (fun H locs hP hD hS => ?_)
      clear hPc hDc
      refine lv_aload_n hx hb dX4_heaviest_30 rfl (lv_at hl 0 rfl) ?_
      refine lv_aload_n hx hb dX4_heaviest_31 rfl (lv_at hl 0 rfl) ?_
      refine va_get (D := D) (ci := 4) (v := .ref (d 1 0)) (C := RX4) (T := TX4) (N := 9) hx hb hts (fun _ h9 => (List.mem_cons_of_mem _ (List.mem_append_left _ (List.mem_append_left _ (List.mem_append_left _ (List.mem_append_right _ h9)))))) hown hK hP 0 rfl rfl 0 (by decide) (hts _ (List.mem_of_getElem? (i := 4) rfl)) (fun _ h9 => h9) rfl dX4_heaviest_32 ?_
      have hol := opnL_len (lsS V S)
      have hPc : va_P D vwCl (wXo d ns ++ (wWays k (d 8) (d 9) (lsS V S) (lsA V S al) (lsO V S op) wf ++ wSt k (d 1) S)) H := hP.sub [0, 9, 10, 11, 12, 13, 14, 15, 16, 17, 18, 19, 20, 1, 2, 3, 4, 5, 6, 7, 8] rfl
      have hDc : va_D A (wXo d ns ++ (wWays k (d 8) (d 9) (lsS V S) (lsA V S al) (lsO V S op) wf ++ wSt k (d 1) S)) := hD.sub [0, 9, 10, 11, 12, 13, 14, 15, 16, 17, 18, 19, 20, 1, 2, 3, 4, 5, 6, 7, 8] (by decide +kernel) rfl
      refine cl_i0 (va_runV (As := [.ref (d 1 0)]) (rest := []) ⟨hx, hb, hml, hown, hts⟩ (c_X4_findHeaviest l D k d (d 1) ns (lsS V S) S (apL (lsA V S al) 0 (allL (lsS V S))) (apL (lsO V S op) 0 (opnL (lsS V S))) wf (nI (allL (lsS V S)).length) (opnL (lsS V S)).length hol H.size) (cwV 1 hts gX4_heaviest_X4_findHeaviest rfl rfl rfl (by decide +kernel) ⟨Nat.le_of_ble_eq_true rfl, Nat.le_of_ble_eq_true rfl⟩) ⟨pr_blind, va_recv hK hP (ci := 4) (q0 := 0) rfl rfl, pr_at hN hPc hK hDc⟩ rfl rfl hl.1 rfl (lv_room (Nat.le_of_ble_eq_true rfl)) dX4_heaviest_35 ⟨Nat.le_of_ble_eq_true rfl, Nat.le_of_ble_eq_true rfl⟩) hP hD hS hA [0, 9, 10, 11, 12, 13, 14, 15, 16, 17, 18, 19, 20, 1, 2, 3, 4, 5, 6, 7, 8] rfl (fun H locs hP hD hS => ?_)
      clear hPc hDc
      refine lv_istore_n (lv' := [(2, .int ((hvA (S 4) (apL (lsO V S op) 0 (opnL (lsS V S))) (opnL (lsS V S)).length).2)), (0, .ref (d 0 0)), (1, .int 1)]) hx hb dX4_heaviest_38 rfl hl (by decide) rfl (fun ls hl => ?_)
      refine lv_iload_n hx hb dX4_heaviest_39 rfl (lv_at hl 0 rfl) ?_
      refine lv_iconst (v := (-1)) hx hb dX4_heaviest_40 (by decide) ?_
      refine lv_icmp_eq (tgt := 49) hx hb dX4_heaviest_41 (by decide) (fun c_3 => ?_) (fun c_3 => ?_)
      · refine lv_iload_n hx hb dX4_heaviest_49 rfl (lv_at hl 0 rfl) ?_
        subst hQ
        exact rt_i hx hb hr hlocks hS dX4_heaviest_50 (hP) (rfl)
      · refine lv_iload_n hx hb dX4_heaviest_44 rfl (lv_at hl 2 rfl) ?_
        refine lv_iconst (v := 1) hx hb dX4_heaviest_45 (by decide) ?_
        refine lv_icmp_ne (tgt := 51) hx hb dX4_heaviest_46 (by decide) (fun c_4 => ?_) (fun c_4 => ?_)
        · exact absurd c_4 (by decide)
        · refine lv_iload_n hx hb dX4_heaviest_49 rfl (lv_at hl 0 rfl) ?_
          subst hQ
          exact rt_i hx hb hr hlocks hS dX4_heaviest_50 (hP) (rfl)
    · exact absurd c_2 (by decide)

set_option maxHeartbeats 1000000 in
set_option maxRecDepth 100000 in
theorem c_X4_openWay (l : Launch) (D : va_G) (k : Nat → ClassId) (d : Nat → Nat → Nat) (ns : Int32) (S : Nat → Nat → Int32) (V : Nat → Nat → Int32) (al op wf bh ah : Nat → Int32) (tr : Int32) (r : Nat) (hr31 : r < 2 ^ 31) : MI l yX4_openWay wsX4_openWay ({ frames := 13, cells := 0, slots := 0, locals := 447 }) D k [.ref (d 0 0), .int (nI r)] (wXo d ns ++ (wSt k (d 1) S ++ (wWays k (d 8) (d 9) V al op wf ++ (wRw k (d 10) bh ah tr)))) (owF (apL (lsO V S op) 0 (opnL (lsS V S))) (opnL (lsS V S)).length r) (wXo d ns ++ (wSt k (d 1) S ++ (wWays k (d 8) (d 9) (lsS V S) (lsA V S al) (lsO V S op) wf ++ wRw k (d 10) bh ah tr))) := by
  intro sz
  refine Met.ofW (cc := cX4_openWay) (maxL := 2) (ret := (some .int)) (by decide) rfl ?_
  intro p e s m args below meth c s₁ B hml hv
  obtain ⟨rfl, hN, hsz, hP, hK, hD0⟩ := hv
  have hx := B.exec
  have hb := B.bytes
  have hr := B.returns
  have hts := atoms_spec (ws := wsX4_openWay) B.pre
  have hown : s.vm.findClass RX4 = some m.cls := findClass_of_methodNamed B.named
  have hlocks := B.notSynchronized
  subst hsz
  have hD := hD0.self (sz := s.heap.size)
  generalize hAe : va_A (wXo d ns ++ (wSt k (d 1) S ++ (wWays k (d 8) (d 9) V al op wf ++ (wRw k (d 10) bh ah tr)))) s.heap.size = A at hD ⊢
  have hA : ∀ q : Nat, s.heap.size ≤ q → A q := fun q h => by rw [← hAe]; exact Or.inr h
  have hS : va_S A s.heap s.heap [] := va_S.rf
  have hl := lv_entry ([.ref (d 0 0), .int (nI r)]) (n := 2) (Nat.le_of_ble_eq_true rfl)
  rw [lg_entry_eq]
  generalize (lg_sl ([.ref (d 0 0), .int (nI r)]) ++ List.replicate (2 - (lg_sl ([.ref (d 0 0), .int (nI r)])).length) Slot.unset).toArray = ls at hl ⊢
  have hl : lv_has ls 2 [(0, .ref (d 0 0)), (1, .int (nI r))] := hl
  obtain ⟨H, hHe⟩ : ∃ H, H = s.heap := ⟨_, rfl⟩
  have hP : va_P D vwCl (wXo d ns ++ (wSt k (d 1) S ++ (wWays k (d 8) (d 9) V al op wf ++ (wRw k (d 10) bh ah tr)))) H := by rw [hHe]; exact hP
  have hS : va_S A s.heap H [] := by rw [hHe]; exact hS
  rw [← hHe]
  refine absQ (fun Q hQ => ?_)
  refine lv_iload_n hx hb dX4_openWay_0 rfl (lv_at hl 1 rfl) ?_
  refine lv_if_ge (tgt := 14) hx hb dX4_openWay_1 (by decide) (fun c_1 => ?_) (fun c_1 => ?_)
  · have c_1 : 0 ≤ r := (nI_leI (a := 0) (b := r) (by omega) (by omega)).mp c_1
    refine lv_aload_n hx hb dX4_openWay_14 rfl (lv_at hl 0 rfl) ?_
    refine va_get (D := D) (ci := 4) (v := .ref (d 8 0)) (C := RX4) (T := TX4) (N := 9) hx hb hts (fun _ h9 => (List.mem_cons_of_mem _ (List.mem_append_left _ (List.mem_append_left _ (List.mem_append_left _ (List.mem_append_right _ h9)))))) hown hK hP 0 rfl rfl 7 (by decide) (hts _ (List.mem_of_getElem? (i := 3) rfl)) (fun _ h9 => h9) rfl dX4_openWay_15 ?_
    refine lv_aload_n hx hb dX4_openWay_18 rfl (lv_at hl 0 rfl) ?_
    refine va_get (D := D) (ci := 4) (v := .ref (d 1 0)) (C := RX4) (T := TX4) (N := 9) hx hb hts (fun _ h9 => (List.mem_cons_of_mem _ (List.mem_append_left _ (List.mem_append_left _ (List.mem_append_left _ (List.mem_append_right _ h9)))))) hown hK hP 0 rfl rfl 0 (by decide) (hts _ (List.mem_of_getElem? (i := 4) rfl)) (fun _ h9 => h9) rfl dX4_openWay_19 ?_
    have hPc : va_P D vwCl (wWays k (d 8) (d 9) V al op wf ++ wSt k (d 1) S) H := hP.sub [9, 10, 11, 12, 13, 14, 15, 16, 17, 18, 19, 20, 1, 2, 3, 4, 5, 6, 7, 8] rfl
    have hDc : va_D A (wWays k (d 8) (d 9) V al op wf ++ wSt k (d 1) S) := hD.sub [9, 10, 11, 12, 13, 14, 15, 16, 17, 18, 19, 20, 1, 2, 3, 4, 5, 6, 7, 8] (by decide +kernel) rfl
    refine cl_v (va_runV (As := [.ref (d 1 0)]) (rest := []) ⟨hx, hb, hml, hown, hts⟩ (c_X3_list l D k (d 8) (d 9) (d 1) V S al op wf H.size) (cwV 1 hts gX4_openWay_X3_list rfl rfl rfl (by decide +kernel) ⟨Nat.le_of_ble_eq_true rfl, Nat.le_of_ble_eq_true rfl⟩) ⟨pr_blind, va_recv hK hP (ci := 3) (q0 := 9) rfl rfl, pr_at hN hPc hK hDc⟩ rfl rfl hl.1 rfl (lv_room (Nat.le_of_ble_eq_true rfl)) dX4_openWay_22 ⟨Nat.le_of_ble_eq_true rfl, Nat.le_of_ble_eq_true rfl⟩) hP hD hS hA [9, 10, 11, 12, 13, 14, 15, 16, 17, 18, 19, 20, 1, 2, 3, 4, 5, 6, 7, 8] [0, 21, 22, 23] ((wXo d ns) ++ (wRw k (d 10) bh ah tr)) [d 0 0, (d 1) 0, (d 1) 1, (d 1) 2, (d 1) 3, (d 1) 4, (d 1) 5, (d 1) 6, (d 1) 7, (d 8) 0, (d 8) 1, (d 8) 2, (d 8) 3, (d 9) 0, (d 9) 1, (d 9) 2, (d 9) 3, (d 9) 4, (d 9) 5, (d 9) 6, (d 9) 7, (d 10) 0, (d 10) 1, (d 10) 2] 24 rfl (wn := (wXo d ns ++ (wSt k (d 1) S ++ (wWays k (d 8) (d 9) (lsS V S) (lsA V S al) (lsO V S op) wf ++ (wRw k (d 10) bh ah tr))))) rfl rfl rfl rfl (by decide +kernel) rfl rfl (fun H locs hP hD hS => ?_)
    clear hPc hDc
    have hol := opnL_len (lsS V S)
    refine lv_iload_n hx hb dX4_openWay_25 rfl (lv_at hl 1 rfl) ?_
    refine lv_aload_n hx hb dX4_openWay_26 rfl (lv_at hl 0 rfl) ?_
    refine va_get (D := D) (ci := 4) (v := .ref (d 8 0)) (C := RX4) (T := TX4) (N := 9) hx hb hts (fun _ h9 => (List.mem_cons_of_mem _ (List.mem_append_left _ (List.mem_append_left _ (List.mem_append_left _ (List.mem_append_right _ h9)))))) hown hK hP 0 rfl rfl 7 (by decide) (hts _ (List.mem_of_getElem? (i := 3) rfl)) (fun _ h9 => h9) rfl dX4_openWay_27 ?_
    refine va_get (D := D) (ci := 3) (v := .int (nI ((opnL (lsS V S)).length))) (C := RX3) (T := TX3) (N := 6) hx hb hts (fun _ h9 => (List.mem_cons_of_mem _ (List.mem_append_left _ (List.mem_append_left _ (List.mem_append_right _ h9))))) hown hK hP 9 rfl rfl 3 (by decide) (hts _ (List.mem_of_getElem? (i := 5) rfl)) (fun _ h9 => h9) rfl dX4_openWay_30 ?_
    refine lv_icmp_ge (tgt := 55) hx hb dX4_openWay_33 (by decide) (fun c_2 => ?_) (fun c_2 => ?_)
    · have c_2 : (opnL (lsS V S)).length ≤ r := (nI_leI (a := (opnL (lsS V S)).length) (b := r) (by omega) (by omega)).mp c_2
      refine lv_iconst (v := (-1)) hx hb dX4_openWay_55 (by decide) ?_
      subst hQ
      exact rt_i hx hb hr hlocks hS dX4_openWay_56 (hP) (by rw [owF, if_pos c_2])
    · have c_2 : ¬ ((opnL (lsS V S)).length ≤ r) := fun h9 => c_2 ((nI_leI (a := (opnL (lsS V S)).length) (b := r) (by omega) (by omega)).mpr h9)
      refine lv_iload_n hx hb dX4_openWay_36 rfl (lv_at hl 1 rfl) ?_
      refine lv_sipush (v := 512) hx hb dX4_openWay_37 (by decide) ?_
      refine lv_icmp_ge (tgt := 55) hx hb dX4_openWay_40 (by decide) (fun c_3 => ?_) (fun c_3 => ?_)
      · have c_3 : 512 ≤ r := (nI_leI (a := 512) (b := r) (by omega) (by omega)).mp c_3
        exact absurd c_3 (by omega)
      · have c_3 : ¬ (512 ≤ r) := fun h9 => c_3 ((nI_leI (a := 512) (b := r) (by omega) (by omega)).mpr h9)
        refine lv_aload_n hx hb dX4_openWay_43 rfl (lv_at hl 0 rfl) ?_
        refine va_get (D := D) (ci := 4) (v := .ref (d 8 0)) (C := RX4) (T := TX4) (N := 9) hx hb hts (fun _ h9 => (List.mem_cons_of_mem _ (List.mem_append_left _ (List.mem_append_left _ (List.mem_append_left _ (List.mem_append_right _ h9)))))) hown hK hP 0 rfl rfl 7 (by decide) (hts _ (List.mem_of_getElem? (i := 3) rfl)) (fun _ h9 => h9) rfl dX4_openWay_44 ?_
        refine va_get (D := D) (ci := 3) (v := .ref (d 8 2)) (C := RX3) (T := TX3) (N := 6) hx hb hts (fun _ h9 => (List.mem_cons_of_mem _ (List.mem_append_left _ (List.mem_append_left _ (List.mem_append_right _ h9))))) hown hK hP 9 rfl rfl 1 (by decide) (hts _ (List.mem_of_getElem? (i := 6) rfl)) (fun _ h9 => h9) rfl dX4_openWay_47 ?_
        refine lv_iload_n hx hb dX4_openWay_50 rfl (lv_at hl 1 rfl) ?_
        refine ar_ld hx hb hK hP 11 rfl r (nI_clamp (by omega)) (vp_in_nI (by omega) (by omega)) dX4_openWay_51 ?_
        refine lv_goto (tgt := 56) hx hb dX4_openWay_52 (by decide) ?_
        subst hQ
        exact rt_i hx hb hr hlocks hS dX4_openWay_56 (hP) (by rw [owF, if_neg c_2])
  · have c_1 : ¬ (0 ≤ r) := fun h9 => c_1 ((nI_leI (a := 0) (b := r) (by omega) (by omega)).mpr h9)
    exact absurd c_1 (by omega)

set_option maxHeartbeats 1000000 in
set_option maxRecDepth 100000 in
theorem c_X4_mainPiece (l : Launch) (D : va_G) (k : Nat → ClassId) (d : Nat → Nat → Nat) (ns : Int32) (S : Nat → Nat → Int32) (V : Nat → Nat → Int32) (al op wf bh ah : Nat → Int32) (tr : Int32)   : MI l yX4_mainPiece wsX4_mainPiece ({ frames := 13, cells := 0, slots := 0, locals := 447 }) D k [.ref (d 0 0)] (wXo d ns ++ (wSt k (d 1) S ++ (wWays k (d 8) (d 9) V al op wf ++ (wRw k (d 10) bh ah tr)))) ((mpF (apL (lsO V S op) 0 (opnL (lsS V S))) (opnL (lsS V S)).length 9).1) (wXo d ns ++ (wSt k (d 1) S ++ (wWays k (d 8) (d 9) (lsS V S) (lsA V S al) (lsO V S op) wf ++ wRw k (d 10) bh ah tr))) := by
  intro sz
  refine Met.ofW (cc := cX4_mainPiece) (maxL := 5) (ret := (some .int)) (by decide) rfl ?_
  intro p e s m args below meth c s₁ B hml hv
  obtain ⟨rfl, hN, hsz, hP, hK, hD0⟩ := hv
  have hx := B.exec
  have hb := B.bytes
  have hr := B.returns
  have hts := atoms_spec (ws := wsX4_mainPiece) B.pre
  have hown : s.vm.findClass RX4 = some m.cls := findClass_of_methodNamed B.named
  have hlocks := B.notSynchronized
  subst hsz
  have hD := hD0.self (sz := s.heap.size)
  generalize hAe : va_A (wXo d ns ++ (wSt k (d 1) S ++ (wWays k (d 8) (d 9) V al op wf ++ (wRw k (d 10) bh ah tr)))) s.heap.size = A at hD ⊢
  have hA : ∀ q : Nat, s.heap.size ≤ q → A q := fun q h => by rw [← hAe]; exact Or.inr h
  have hS : va_S A s.heap s.heap [] := va_S.rf
  have hl := lv_entry ([.ref (d 0 0)]) (n := 5) (Nat.le_of_ble_eq_true rfl)
  rw [lg_entry_eq]
  generalize (lg_sl ([.ref (d 0 0)]) ++ List.replicate (5 - (lg_sl ([.ref (d 0 0)])).length) Slot.unset).toArray = ls at hl ⊢
  have hl : lv_has ls 5 [(0, .ref (d 0 0))] := hl
  obtain ⟨H, hHe⟩ : ∃ H, H = s.heap := ⟨_, rfl⟩
  have hP : va_P D vwCl (wXo d ns ++ (wSt k (d 1) S ++ (wWays k (d 8) (d 9) V al op wf ++ (wRw k (d 10) bh ah tr)))) H := by rw [hHe]; exact hP
  have hS : va_S A s.heap H [] := by rw [hHe]; exact hS
  rw [← hHe]
  refine absQ (fun Q hQ => ?_)
  refine lv_aload_n hx hb dX4_mainPiece_0 rfl (lv_at hl 0 rfl) ?_
  refine va_get (D := D) (ci := 4) (v := .ref (d 8 0)) (C := RX4) (T := TX4) (N := 9) hx hb hts (fun _ h9 => (List.mem_cons_of_mem _ (List.mem_append_left _ (List.mem_append_left _ (List.mem_append_right _ h9))))) hown hK hP 0 rfl rfl 7 (by decide) (hts _ (List.mem_of_getElem? (i := 1) rfl)) (fun _ h9 => h9) rfl dX4_mainPiece_1 ?_
  refine lv_aload_n hx hb dX4_mainPiece_4 rfl (lv_at hl 0 rfl) ?_
  refine va_get (D := D) (ci := 4) (v := .ref (d 1 0)) (C := RX4) (T := TX4) (N := 9) hx hb hts (fun _ h9 => (List.mem_cons_of_mem _ (List.mem_append_left _ (List.mem_append_left _ (List.mem_append_right _ h9))))) hown hK hP 0 rfl rfl 0 (by decide) (hts _ (List.mem_of_getElem? (i := 2) rfl)) (fun _ h9 => h9) rfl dX4_mainPiece_5 ?_
  have hPc : va_P D vwCl (wWays k (d 8) (d 9) V al op wf ++ wSt k (d 1) S) H := hP.sub [9, 10, 11, 12, 13, 14, 15, 16, 17, 18, 19, 20, 1, 2, 3, 4, 5, 6, 7, 8] rfl
  have hDc : va_D A (wWays k (d 8) (d 9) V al op wf ++ wSt k (d 1) S) := hD.sub [9, 10, 11, 12, 13, 14, 15, 16, 17, 18, 19, 20, 1, 2, 3, 4, 5, 6, 7, 8] (by decide +kernel) rfl
  refine cl_v (va_runV (As := [.ref (d 1 0)]) (rest := []) ⟨hx, hb, hml, hown, hts⟩ (c_X3_list l D k (d 8) (d 9) (d 1) V S al op wf H.size) (cwV 1 hts gX4_mainPiece_X3_list rfl rfl rfl (by decide +kernel) ⟨Nat.le_of_ble_eq_true rfl, Nat.le_of_ble_eq_true rfl⟩) ⟨pr_blind, va_recv hK hP (ci := 3) (q0 := 9) rfl rfl, pr_at hN hPc hK hDc⟩ rfl rfl hl.1 rfl (lv_room (Nat.le_of_ble_eq_true rfl)) dX4_mainPiece_8 ⟨Nat.le_of_ble_eq_true rfl, Nat.le_of_ble_eq_true rfl⟩) hP hD hS hA [9, 10, 11, 12, 13, 14, 15, 16, 17, 18, 19, 20, 1, 2, 3, 4, 5, 6, 7, 8] [0, 21, 22, 23] ((wXo d ns) ++ (wRw k (d 10) bh ah tr)) [d 0 0, (d 1) 0, (d 1) 1, (d 1) 2, (d 1) 3, (d 1) 4, (d 1) 5, (d 1) 6, (d 1) 7, (d 8) 0, (d 8) 1, (d 8) 2, (d 8) 3, (d 9) 0, (d 9) 1, (d 9) 2, (d 9) 3, (d 9) 4, (d 9) 5, (d 9) 6, (d 9) 7, (d 10) 0, (d 10) 1, (d 10) 2] 24 rfl (wn := (wXo d ns ++ (wSt k (d 1) S ++ (wWays k (d 8) (d 9) (lsS V S) (lsA V S al) (lsO V S op) wf ++ (wRw k (d 10) bh ah tr))))) rfl rfl rfl rfl (by decide +kernel) rfl rfl (fun H locs hP hD hS => ?_)
  clear hPc hDc
  refine lv_iconst (v := (-1)) hx hb dX4_mainPiece_11 (by decide) ?_
  refine lv_istore_n (lv' := [(1, .int (-1)), (0, .ref (d 0 0))]) hx hb dX4_mainPiece_12 rfl hl (by decide) rfl (fun ls hl => ?_)
  refine lv_iconst (v := 0) hx hb dX4_mainPiece_13 (by decide) ?_
  refine lv_istore_n (lv' := [(2, .int 0), (1, .int (-1)), (0, .ref (d 0 0))]) hx hb dX4_mainPiece_14 rfl hl (by decide) rfl (fun ls hl => ?_)
  refine lv_iconst (v := 0) hx hb dX4_mainPiece_15 (by decide) ?_
  refine lv_istore_n (lv' := [(3, .int 0), (2, .int 0), (1, .int (-1)), (0, .ref (d 0 0))]) hx hb dX4_mainPiece_16 rfl hl (by decide) rfl (fun ls hl => ?_)
  suffices LOOP_i : ∀ (fu_i i : Nat) (y1 : Int32) (y2 : Int32), 9 - i < fu_i → i ≤ 9 → y1 = (mpF (apL (lsO V S op) 0 (opnL (lsS V S))) (opnL (lsS V S)).length i).1 → y2 = (mpF (apL (lsO V S op) 0 (opnL (lsS V S))) (opnL (lsS V S)).length i).2 → ∀ (H : Heap) (locs : List Loc) (ls : Array Slot), va_P D vwCl (wXo d ns ++ (wSt k (d 1) S ++ (wWays k (d 8) (d 9) (lsS V S) (lsA V S al) (lsO V S op) wf ++ (wRw k (d 10) bh ah tr)))) H → va_D A (wXo d ns ++ (wSt k (d 1) S ++ (wWays k (d 8) (d 9) (lsS V S) (lsA V S al) (lsO V S op) wf ++ (wRw k (d 10) bh ah tr)))) → va_S A s.heap H locs → lv_has ls 5 [(3, .int (nI i)), (2, .int y2), (1, .int y1), (0, .ref (d 0 0))] → W p l e ({ frames := 13, cells := 0, slots := 0, locals := 447 } : Room) s m ([.ref (d 0 0)] : List Value).toArray below meth c H locs 0 0 Q (F0 m 17 ls []) from LOOP_i (9 + 1) 0 (-1) 0 (by omega) (by omega) (rfl) (rfl)  _ _ _ hP hD hS (lv_sub hl [0, 1, 2, 3] rfl)
  clear hP hD hS hl hHe
  intro fu_i
  induction fu_i with
  | zero => intro i y1 y2 hn_i; omega
  | succ fu_i ih_i =>
    intro i y1 y2 hn_i hle_i e_y1 e_y2  H locs ls hP hD hS hl
    refine lv_iload_n hx hb dX4_mainPiece_17 rfl (lv_at hl 0 rfl) ?_
    refine lv_bipush (v := 9) hx hb dX4_mainPiece_18 (by decide) ?_
    refine lv_icmp_ge (tgt := 60) hx hb dX4_mainPiece_20 (by decide) (fun c_1 => ?_) (fun c_1 => ?_)
    · have c_1 : 9 ≤ i := (nI_leI (a := 9) (b := i) (by omega) (by omega)).mp c_1
      have hz_i : 9 = i := by omega
      subst hz_i
      subst e_y1
      subst e_y2
      refine lv_iload_n hx hb dX4_mainPiece_60 rfl (lv_at hl 2 rfl) ?_
      subst hQ
      exact rt_i hx hb hr hlocks hS dX4_mainPiece_61 (hP) (rfl)
    · have c_1 : ¬ (9 ≤ i) := fun h9 => c_1 ((nI_leI (a := 9) (b := i) (by omega) (by omega)).mpr h9)
      refine lv_aload_n hx hb dX4_mainPiece_23 rfl (lv_at hl 3 rfl) ?_
      refine va_get (D := D) (ci := 4) (v := .ref (d 8 0)) (C := RX4) (T := TX4) (N := 9) hx hb hts (fun _ h9 => (List.mem_cons_of_mem _ (List.mem_append_left _ (List.mem_append_left _ (List.mem_append_right _ h9))))) hown hK hP 0 rfl rfl 7 (by decide) (hts _ (List.mem_of_getElem? (i := 1) rfl)) (fun _ h9 => h9) rfl dX4_mainPiece_24 ?_
      refine va_get (D := D) (ci := 3) (v := .ref (d 8 2)) (C := RX3) (T := TX3) (N := 6) hx hb hts (fun _ h9 => (List.mem_cons_of_mem _ (List.mem_append_left _ (List.mem_append_right _ h9)))) hown hK hP 9 rfl rfl 1 (by decide) (hts _ (List.mem_of_getElem? (i := 3) rfl)) (fun _ h9 => h9) rfl dX4_mainPiece_27 ?_
      refine lv_aload_n hx hb dX4_mainPiece_30 rfl (lv_at hl 3 rfl) ?_
      refine va_get (D := D) (ci := 4) (v := .ref (d 8 0)) (C := RX4) (T := TX4) (N := 9) hx hb hts (fun _ h9 => (List.mem_cons_of_mem _ (List.mem_append_left _ (List.mem_append_left _ (List.mem_append_right _ h9))))) hown hK hP 0 rfl rfl 7 (by decide) (hts _ (List.mem_of_getElem? (i := 1) rfl)) (fun _ h9 => h9) rfl dX4_mainPiece_31 ?_
      refine va_get (D := D) (ci := 3) (v := .int (nI ((opnL (lsS V S)).length))) (C := RX3) (T := TX3) (N := 6) hx hb hts (fun _ h9 => (List.mem_cons_of_mem _ (List.mem_append_left _ (List.mem_append_right _ h9)))) hown hK hP 9 rfl rfl 3 (by decide) (hts _ (List.mem_of_getElem? (i := 4) rfl)) (fun _ h9 => h9) rfl dX4_mainPiece_34 ?_
      refine lv_iload_n hx hb dX4_mainPiece_37 rfl (lv_at hl 0 rfl) ?_
      have hln1 := allL_len (lsS V S)
      have hln2 := opnL_len (lsS V S)
      have hPc : va_P D vwCl ([((d 8) 2, .inl (k 0, 512, .inl (apL (lsO V S op) 0 (opnL (lsS V S)))))]) H := hP.sub [11] rfl
      have hDc : va_D A ([((d 8) 2, .inl (k 0, 512, .inl (apL (lsO V S op) 0 (opnL (lsS V S)))))]) := hD.sub [11] (by decide +kernel) rfl
      refine cl_i0 (va_runS (As := [.ref (d 8 2), .int (nI ((opnL (lsS V S)).length)), .int (nI i)]) (rest := []) ⟨hx, hb, hml, hown, hts⟩ (c_X4_countWith l D k (d 8 2) (apL (lsO V S op) 0 (opnL (lsS V S))) ((opnL (lsS V S)).length) (nI i) (by omega) H.size) (va_cwS 3 hts gX4_mainPiece_X4_countWith rfl rfl rfl (by decide +kernel) ⟨Nat.le_of_ble_eq_true rfl, Nat.le_of_ble_eq_true rfl⟩) ⟨pr_blind, pr_at hN hPc hK hDc⟩ rfl rfl hl.1 rfl (lv_room (Nat.le_of_ble_eq_true rfl)) dX4_mainPiece_38 ⟨Nat.le_of_ble_eq_true rfl, Nat.le_of_ble_eq_true rfl⟩) hP hD hS hA [11] rfl (fun H locs hP hD hS => ?_)
      clear hPc hDc
      refine lv_istore (lv' := [(4, .int (cjtF (apL (lsO V S op) 0 (opnL (lsS V S))) (nI i) ((opnL (lsS V S)).length))), (3, .int (nI i)), (2, .int y2), (1, .int y1), (0, .ref (d 0 0))]) hx hb dX4_mainPiece_41 hl (by decide) rfl (fun ls hl => ?_)
      refine lv_iload hx hb dX4_mainPiece_43 (lv_at hl 0 rfl) ?_
      refine lv_iload_n hx hb dX4_mainPiece_45 rfl (lv_at hl 2 rfl) ?_
      refine lv_icmp_le (tgt := 54) hx hb dX4_mainPiece_46 (by decide) (fun c_2 => ?_) (fun c_2 => ?_)
      · refine lv_iinc (v := (nI (i + 1))) (lv' := [(3, .int (nI (i + 1))), (4, .int (cjtF (apL (lsO V S op) 0 (opnL (lsS V S))) (nI i) ((opnL (lsS V S)).length))), (2, .int y2), (1, .int y1), (0, .ref (d 0 0))]) hx hb dX4_mainPiece_54 hl (k := 1) rfl (nI_1 i) (by decide) rfl (fun ls hl => ?_)
        refine lv_goto (tgt := 17) hx hb dX4_mainPiece_57 (by decide) ?_
        exact ih_i (i + 1) y1 y2 (by omega) (by omega) (by rw [mpF, if_pos (by rw [← e_y2]; exact c_2)]; exact e_y1) (by rw [mpF, if_pos (by rw [← e_y2]; exact c_2)]; exact e_y2)  _ _ _ hP hD hS (lv_sub hl [0, 2, 3, 4] rfl)
      · refine lv_iload hx hb dX4_mainPiece_49 (lv_at hl 0 rfl) ?_
        refine lv_istore_n (lv' := [(2, .int (cjtF (apL (lsO V S op) 0 (opnL (lsS V S))) (nI i) ((opnL (lsS V S)).length))), (4, .int (cjtF (apL (lsO V S op) 0 (opnL (lsS V S))) (nI i) ((opnL (lsS V S)).length))), (3, .int (nI i)), (1, .int y1), (0, .ref (d 0 0))]) hx hb dX4_mainPiece_51 rfl hl (by decide) rfl (fun ls hl => ?_)
        refine lv_iload_n hx hb dX4_mainPiece_52 rfl (lv_at hl 2 rfl) ?_
        refine lv_istore_n (lv' := [(1, .int (nI i)), (2, .int (cjtF (apL (lsO V S op) 0 (opnL (lsS V S))) (nI i) ((opnL (lsS V S)).length))), (4, .int (cjtF (apL (lsO V S op) 0 (opnL (lsS V S))) (nI i) ((opnL (lsS V S)).length))), (3, .int (nI i)), (0, .ref (d 0 0))]) hx hb dX4_mainPiece_53 rfl hl (by decide) rfl (fun ls hl => ?_)
        refine lv_iinc (v := (nI (i + 1))) (lv' := [(3, .int (nI (i + 1))), (1, .int (nI i)), (2, .int (cjtF (apL (lsO V S op) 0 (opnL (lsS V S))) (nI i) ((opnL (lsS V S)).length))), (4, .int (cjtF (apL (lsO V S op) 0 (opnL (lsS V S))) (nI i) ((opnL (lsS V S)).length))), (0, .ref (d 0 0))]) hx hb dX4_mainPiece_54 hl (k := 3) rfl (nI_1 i) (by decide) rfl (fun ls hl => ?_)
        refine lv_goto (tgt := 17) hx hb dX4_mainPiece_57 (by decide) ?_
        exact ih_i (i + 1) (nI i) (cjtF (apL (lsO V S op) 0 (opnL (lsS V S))) (nI i) ((opnL (lsS V S)).length)) (by omega) (by omega) (by rw [mpF, if_neg (by rw [← e_y2]; exact c_2)]) (by rw [mpF, if_neg (by rw [← e_y2]; exact c_2)])  _ _ _ hP hD hS (lv_sub hl [0, 2, 1, 4] rfl)

set_option maxHeartbeats 1000000 in
set_option maxRecDepth 100000 in
theorem c_X4_ifSplit (l : Launch) (D : va_G) (k : Nat → ClassId) (d : Nat → Nat → Nat) (ns : Int32) (S : Nat → Nat → Int32) (R V : Nat → Nat → Int32) (al op wf : Nat → Int32) (nw : Nat) (hnw : S 7 0 = nI nw) (hnw2 : nw ≤ 12) : MI l yX4_ifSplit wsX4_ifSplit ({ frames := 13, cells := 0, slots := 0, locals := 447 }) D k [.ref (d 0 0)] (wXo d ns ++ (wSt k (d 1) S ++ (wSt k (d 2) R ++ (wWays k (d 8) (d 9) V al op wf)))) (smF ((taF (apL (lsO V S op) 0 (opnL (lsS V S))) (opnL (lsS V S)).length 13 0 S).2 4) 9) (wXo d ns ++ (wSt k (d 1) S ++ (wSt k (d 2) (taF (apL (lsO V S op) 0 (opnL (lsS V S))) (opnL (lsS V S)).length 13 0 S).2 ++ wWays k (d 8) (d 9) (lsS V S) (lsA V S al) (lsO V S op) wf))) := by
  intro sz
  refine Met.ofW (cc := cX4_ifSplit) (maxL := 1) (ret := (some .int)) (by decide) rfl ?_
  intro p e s m args below meth c s₁ B hml hv
  obtain ⟨rfl, hN, hsz, hP, hK, hD0⟩ := hv
  have hx := B.exec
  have hb := B.bytes
  have hr := B.returns
  have hts := atoms_spec (ws := wsX4_ifSplit) B.pre
  have hown : s.vm.findClass RX4 = some m.cls := findClass_of_methodNamed B.named
  have hlocks := B.notSynchronized
  subst hsz
  have hD := hD0.self (sz := s.heap.size)
  generalize hAe : va_A (wXo d ns ++ (wSt k (d 1) S ++ (wSt k (d 2) R ++ (wWays k (d 8) (d 9) V al op wf)))) s.heap.size = A at hD ⊢
  have hA : ∀ q : Nat, s.heap.size ≤ q → A q := fun q h => by rw [← hAe]; exact Or.inr h
  have hS : va_S A s.heap s.heap [] := va_S.rf
  have hl := lv_entry ([.ref (d 0 0)]) (n := 1) (Nat.le_of_ble_eq_true rfl)
  rw [lg_entry_eq]
  generalize (lg_sl ([.ref (d 0 0)]) ++ List.replicate (1 - (lg_sl ([.ref (d 0 0)])).length) Slot.unset).toArray = ls at hl ⊢
  have hl : lv_has ls 1 [(0, .ref (d 0 0))] := hl
  obtain ⟨H, hHe⟩ : ∃ H, H = s.heap := ⟨_, rfl⟩
  have hP : va_P D vwCl (wXo d ns ++ (wSt k (d 1) S ++ (wSt k (d 2) R ++ (wWays k (d 8) (d 9) V al op wf)))) H := by rw [hHe]; exact hP
  have hS : va_S A s.heap H [] := by rw [hHe]; exact hS
  rw [← hHe]
  refine absQ (fun Q hQ => ?_)
  refine lv_aload_n hx hb dX4_ifSplit_0 rfl (lv_at hl 0 rfl) ?_
  refine va_get (D := D) (ci := 4) (v := .ref (d 1 0)) (C := RX4) (T := TX4) (N := 9) hx hb hts (fun _ h9 => (List.mem_cons_of_mem _ (List.mem_append_left _ (List.mem_append_left _ (List.mem_append_right _ h9))))) hown hK hP 0 rfl rfl 0 (by decide) (hts _ (List.mem_of_getElem? (i := 1) rfl)) (fun _ h9 => h9) rfl dX4_ifSplit_1 ?_
  refine lv_aload_n hx hb dX4_ifSplit_4 rfl (lv_at hl 0 rfl) ?_
  refine va_get (D := D) (ci := 4) (v := .ref (d 2 0)) (C := RX4) (T := TX4) (N := 9) hx hb hts (fun _ h9 => (List.mem_cons_of_mem _ (List.mem_append_left _ (List.mem_append_left _ (List.mem_append_right _ h9))))) hown hK hP 0 rfl rfl 1 (by decide) (hts _ (List.mem_of_getElem? (i := 2) rfl)) (fun _ h9 => h9) rfl dX4_ifSplit_5 ?_
  have hPc : va_P D vwCl (wSt k (d 2) R ++ wSt k (d 1) S) H := hP.sub [9, 10, 11, 12, 13, 14, 15, 16, 1, 2, 3, 4, 5, 6, 7, 8] rfl
  have hDc : va_D A (wSt k (d 2) R ++ wSt k (d 1) S) := hD.sub [9, 10, 11, 12, 13, 14, 15, 16, 1, 2, 3, 4, 5, 6, 7, 8] (by decide +kernel) rfl
  refine cl_v (va_runS (As := [.ref (d 1 0), .ref (d 2 0)]) (rest := []) ⟨hx, hb, hml, hown, hts⟩ (c_X4_copyState l D k (d 2) (d 1) R S H.size) (va_cwS 2 hts gX4_ifSplit_X4_copyState rfl rfl rfl (by decide +kernel) ⟨Nat.le_of_ble_eq_true rfl, Nat.le_of_ble_eq_true rfl⟩) ⟨pr_blind, pr_at hN hPc hK hDc⟩ rfl rfl hl.1 rfl (lv_room (Nat.le_of_ble_eq_true rfl)) dX4_ifSplit_8 ⟨Nat.le_of_ble_eq_true rfl, Nat.le_of_ble_eq_true rfl⟩) hP hD hS hA [9, 10, 11, 12, 13, 14, 15, 16, 1, 2, 3, 4, 5, 6, 7, 8] [0, 17, 18, 19, 20, 21, 22, 23, 24, 25, 26, 27, 28] ((wXo d ns) ++ (wWays k (d 8) (d 9) V al op wf)) [d 0 0, (d 1) 0, (d 1) 1, (d 1) 2, (d 1) 3, (d 1) 4, (d 1) 5, (d 1) 6, (d 1) 7, (d 2) 0, (d 2) 1, (d 2) 2, (d 2) 3, (d 2) 4, (d 2) 5, (d 2) 6, (d 2) 7, (d 8) 0, (d 8) 1, (d 8) 2, (d 8) 3, (d 9) 0, (d 9) 1, (d 9) 2, (d 9) 3, (d 9) 4, (d 9) 5, (d 9) 6, (d 9) 7] 29 rfl (wn := (wXo d ns ++ (wSt k (d 1) S ++ (wSt k (d 2) S ++ (wWays k (d 8) (d 9) V al op wf))))) rfl rfl rfl rfl (by decide +kernel) rfl rfl (fun H locs hP hD hS => ?_)
  clear hPc hDc
  refine lv_aload_n hx hb dX4_ifSplit_11 rfl (lv_at hl 0 rfl) ?_
  refine va_get (D := D) (ci := 4) (v := .ref (d 8 0)) (C := RX4) (T := TX4) (N := 9) hx hb hts (fun _ h9 => (List.mem_cons_of_mem _ (List.mem_append_left _ (List.mem_append_left _ (List.mem_append_right _ h9))))) hown hK hP 0 rfl rfl 7 (by decide) (hts _ (List.mem_of_getElem? (i := 3) rfl)) (fun _ h9 => h9) rfl dX4_ifSplit_12 ?_
  refine lv_aload_n hx hb dX4_ifSplit_15 rfl (lv_at hl 0 rfl) ?_
  refine va_get (D := D) (ci := 4) (v := .ref (d 2 0)) (C := RX4) (T := TX4) (N := 9) hx hb hts (fun _ h9 => (List.mem_cons_of_mem _ (List.mem_append_left _ (List.mem_append_left _ (List.mem_append_right _ h9))))) hown hK hP 0 rfl rfl 1 (by decide) (hts _ (List.mem_of_getElem? (i := 2) rfl)) (fun _ h9 => h9) rfl dX4_ifSplit_16 ?_
  have hPc : va_P D vwCl (wWays k (d 8) (d 9) V al op wf ++ wSt k (d 2) S) H := hP.sub [17, 18, 19, 20, 21, 22, 23, 24, 25, 26, 27, 28, 9, 10, 11, 12, 13, 14, 15, 16] rfl
  have hDc : va_D A (wWays k (d 8) (d 9) V al op wf ++ wSt k (d 2) S) := hD.sub [17, 18, 19, 20, 21, 22, 23, 24, 25, 26, 27, 28, 9, 10, 11, 12, 13, 14, 15, 16] (by decide +kernel) rfl
  refine cl_v (va_runV (As := [.ref (d 2 0)]) (rest := []) ⟨hx, hb, hml, hown, hts⟩ (c_X3_list l D k (d 8) (d 9) (d 2) V S al op wf H.size) (cwV 1 hts gX4_ifSplit_X3_list rfl rfl rfl (by decide +kernel) ⟨Nat.le_of_ble_eq_true rfl, Nat.le_of_ble_eq_true rfl⟩) ⟨pr_blind, va_recv hK hP (ci := 3) (q0 := 17) rfl rfl, pr_at hN hPc hK hDc⟩ rfl rfl hl.1 rfl (lv_room (Nat.le_of_ble_eq_true rfl)) dX4_ifSplit_19 ⟨Nat.le_of_ble_eq_true rfl, Nat.le_of_ble_eq_true rfl⟩) hP hD hS hA [17, 18, 19, 20, 21, 22, 23, 24, 25, 26, 27, 28, 9, 10, 11, 12, 13, 14, 15, 16] [0, 1, 2, 3, 4, 5, 6, 7, 8] ((wXo d ns) ++ (wSt k (d 1) S)) [d 0 0, (d 1) 0, (d 1) 1, (d 1) 2, (d 1) 3, (d 1) 4, (d 1) 5, (d 1) 6, (d 1) 7, (d 2) 0, (d 2) 1, (d 2) 2, (d 2) 3, (d 2) 4, (d 2) 5, (d 2) 6, (d 2) 7, (d 8) 0, (d 8) 1, (d 8) 2, (d 8) 3, (d 9) 0, (d 9) 1, (d 9) 2, (d 9) 3, (d 9) 4, (d 9) 5, (d 9) 6, (d 9) 7] 29 rfl (wn := (wXo d ns ++ (wSt k (d 1) S ++ (wSt k (d 2) S ++ (wWays k (d 8) (d 9) (lsS V S) (lsA V S al) (lsO V S op) wf))))) rfl rfl rfl rfl (by decide +kernel) rfl rfl (fun H locs hP hD hS => ?_)
  clear hPc hDc
  refine lv_aload_n hx hb dX4_ifSplit_22 rfl (lv_at hl 0 rfl) ?_
  refine lv_aload_n hx hb dX4_ifSplit_23 rfl (lv_at hl 0 rfl) ?_
  refine va_get (D := D) (ci := 4) (v := .ref (d 2 0)) (C := RX4) (T := TX4) (N := 9) hx hb hts (fun _ h9 => (List.mem_cons_of_mem _ (List.mem_append_left _ (List.mem_append_left _ (List.mem_append_right _ h9))))) hown hK hP 0 rfl rfl 1 (by decide) (hts _ (List.mem_of_getElem? (i := 2) rfl)) (fun _ h9 => h9) rfl dX4_ifSplit_24 ?_
  have hol := opnL_len (lsS V S)
  have hPc : va_P D vwCl (wXo d ns ++ (wWays k (d 8) (d 9) (lsS V S) (lsA V S al) (lsO V S op) wf ++ wSt k (d 2) S)) H := hP.sub [0, 17, 18, 19, 20, 21, 22, 23, 24, 25, 26, 27, 28, 9, 10, 11, 12, 13, 14, 15, 16] rfl
  have hDc : va_D A (wXo d ns ++ (wWays k (d 8) (d 9) (lsS V S) (lsA V S al) (lsO V S op) wf ++ wSt k (d 2) S)) := hD.sub [0, 17, 18, 19, 20, 21, 22, 23, 24, 25, 26, 27, 28, 9, 10, 11, 12, 13, 14, 15, 16] (by decide +kernel) rfl
  refine cl_i (va_runV (As := [.ref (d 2 0)]) (rest := []) ⟨hx, hb, hml, hown, hts⟩ (c_X4_takeAll l D k d (d 2) ns (lsS V S) S (apL (lsA V S al) 0 (allL (lsS V S))) (apL (lsO V S op) 0 (opnL (lsS V S))) wf (nI (allL (lsS V S)).length) (opnL (lsS V S)).length nw hol hnw hnw2 H.size) (cwV 1 hts gX4_ifSplit_X4_takeAll rfl rfl rfl (by decide +kernel) ⟨Nat.le_of_ble_eq_true rfl, Nat.le_of_ble_eq_true rfl⟩) ⟨pr_blind, va_recv hK hP (ci := 4) (q0 := 0) rfl rfl, pr_at hN hPc hK hDc⟩ rfl rfl hl.1 rfl (lv_room (Nat.le_of_ble_eq_true rfl)) dX4_ifSplit_27 ⟨Nat.le_of_ble_eq_true rfl, Nat.le_of_ble_eq_true rfl⟩) hP hD hS hA [0, 17, 18, 19, 20, 21, 22, 23, 24, 25, 26, 27, 28, 9, 10, 11, 12, 13, 14, 15, 16] [1, 2, 3, 4, 5, 6, 7, 8] (wSt k (d 1) S) [d 0 0, (d 1) 0, (d 1) 1, (d 1) 2, (d 1) 3, (d 1) 4, (d 1) 5, (d 1) 6, (d 1) 7, (d 2) 0, (d 2) 1, (d 2) 2, (d 2) 3, (d 2) 4, (d 2) 5, (d 2) 6, (d 2) 7, (d 8) 0, (d 8) 1, (d 8) 2, (d 8) 3, (d 9) 0, (d 9) 1, (d 9) 2, (d 9) 3, (d 9) 4, (d 9) 5, (d 9) 6, (d 9) 7] 29 rfl (wn := (wXo d ns ++ (wSt k (d 1) S ++ (wSt k (d 2) ((taF (apL (lsO V S op) 0 (opnL (lsS V S))) (opnL (lsS V S)).length 13 0 S).2) ++ (wWays k (d 8) (d 9) (lsS V S) (lsA V S al) (lsO V S op) wf))))) rfl rfl rfl rfl (by decide +kernel) rfl rfl (fun H locs hP hD hS => ?_)
  clear hPc hDc
  refine lv_pop hx hb dX4_ifSplit_30 rfl ?_
  refine lv_aload_n hx hb dX4_ifSplit_31 rfl (lv_at hl 0 rfl) ?_
  refine va_get (D := D) (ci := 4) (v := .ref (d 2 0)) (C := RX4) (T := TX4) (N := 9) hx hb hts (fun _ h9 => (List.mem_cons_of_mem _ (List.mem_append_left _ (List.mem_append_left _ (List.mem_append_right _ h9))))) hown hK hP 0 rfl rfl 1 (by decide) (hts _ (List.mem_of_getElem? (i := 2) rfl)) (fun _ h9 => h9) rfl dX4_ifSplit_32 ?_
  refine va_get (D := D) (ci := 1) (v := .ref ((d 2) 5)) (C := RX1) (T := TX1) (N := 10) hx hb hts (fun _ h9 => (List.mem_cons_of_mem _ (List.mem_append_left _ (List.mem_append_right _ h9)))) hown hK hP 9 rfl rfl 4 (by decide) (hts _ (List.mem_of_getElem? (i := 4) rfl)) (fun _ h9 => h9) rfl dX4_ifSplit_35 ?_
  have hPc : va_P D vwCl ([((d 2) 5, .inl (k 0, 9, .inl ((taF (apL (lsO V S op) 0 (opnL (lsS V S))) (opnL (lsS V S)).length 13 0 S).2 4)))]) H := hP.sub [14] rfl
  have hDc : va_D A ([((d 2) 5, .inl (k 0, 9, .inl ((taF (apL (lsO V S op) 0 (opnL (lsS V S))) (opnL (lsS V S)).length 13 0 S).2 4)))]) := hD.sub [14] (by decide +kernel) rfl
  refine cl_i0 (va_runS (As := [.ref ((d 2) 5)]) (rest := []) ⟨hx, hb, hml, hown, hts⟩ (c_X4_sum l D k ((d 2) 5) ((taF (apL (lsO V S op) 0 (opnL (lsS V S))) (opnL (lsS V S)).length 13 0 S).2 4) H.size) (va_cwS 1 hts gX4_ifSplit_X4_sum rfl rfl rfl (by decide +kernel) ⟨Nat.le_of_ble_eq_true rfl, Nat.le_of_ble_eq_true rfl⟩) ⟨pr_blind, pr_at hN hPc hK hDc⟩ rfl rfl hl.1 rfl (lv_room (Nat.le_of_ble_eq_true rfl)) dX4_ifSplit_38 ⟨Nat.le_of_ble_eq_true rfl, Nat.le_of_ble_eq_true rfl⟩) hP hD hS hA [14] rfl (fun H locs hP hD hS => ?_)
  clear hPc hDc
  subst hQ
  exact rt_i hx hb hr hlocks hS dX4_ifSplit_41 (hP) (rfl)
