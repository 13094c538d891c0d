set_option maxHeartbeats 1000000 in
set_option maxRecDepth 100000 in
theorem c_X4_pieceOf_0 (l : Launch) (D : va_G) (k : Nat → ClassId) (d : Nat → Nat → Nat) (ns : Int32) (S : Nat → Nat → Int32) (V : Nat → Nat → Int32) (al op wf bh ah : Nat → Int32) (tr : Int32) (q : Nat) (hq : q < 9) : MI l yX4_pieceOf wsX4_pieceOf ({ frames := 1, cells := 0, slots := 0, locals := 20 }) D k [.ref (d 0 0), .int (nI q), .int 0] (wXo d ns ++ (wSt k (d 1) S ++ (wWays k (d 8) (d 9) V al op wf ++ (wRw k (d 10) bh ah tr)))) (S 0 q) (wXo d ns ++ (wSt k (d 1) S ++ (wWays k (d 8) (d 9) V al op wf ++ wRw k (d 10) bh ah tr))) := by
  intro sz
  refine Met.ofW (cc := cX4_pieceOf) (maxL := 3) (ret := (some .int)) (by decide) rfl ?_
  intro p e s m args below meth c s₁ B hml hv
  obtain ⟨rfl, hN, hsz, hP, hK, hD0⟩ := hv
  have hx := B.exec
  have hb := B.bytes
  have hr := B.returns
  have hts := atoms_spec (ws := wsX4_pieceOf) B.pre
  have hown : s.vm.findClass RX4 = some m.cls := findClass_of_methodNamed B.named
  have hlocks := B.notSynchronized
  subst hsz
  have hD := hD0.self (sz := s.heap.size)
  generalize hAe : va_A (wXo d ns ++ (wSt k (d 1) S ++ (wWays k (d 8) (d 9) V al op wf ++ (wRw k (d 10) bh ah tr)))) s.heap.size = A at hD ⊢
  have hA : ∀ q : Nat, s.heap.size ≤ q → A q := fun q h => by rw [← hAe]; exact Or.inr h
  have hS : va_S A s.heap s.heap [] := va_S.rf
  have hl := lv_entry ([.ref (d 0 0), .int (nI q), .int 0]) (n := 3) (Nat.le_of_ble_eq_true rfl)
  rw [lg_entry_eq]
  generalize (lg_sl ([.ref (d 0 0), .int (nI q), .int 0]) ++ List.replicate (3 - (lg_sl ([.ref (d 0 0), .int (nI q), .int 0])).length) Slot.unset).toArray = ls at hl ⊢
  have hl : lv_has ls 3 [(0, .ref (d 0 0)), (1, .int (nI q)), (2, .int 0)] := hl
  obtain ⟨H, hHe⟩ : ∃ H, H = s.heap := ⟨_, rfl⟩
  have hP : va_P D vwCl (wXo d ns ++ (wSt k (d 1) S ++ (wWays k (d 8) (d 9) V al op wf ++ (wRw k (d 10) bh ah tr)))) H := by rw [hHe]; exact hP
  have hS : va_S A s.heap H [] := by rw [hHe]; exact hS
  rw [← hHe]
  refine absQ (fun Q hQ => ?_)
  refine lv_iload_n hx hb dX4_pieceOf_0 rfl (lv_at hl 1 rfl) ?_
  have hPc : va_P D vwCl ([]) H := hP.sub [] rfl
  have hDc : va_D A ([]) := hD.sub [] (by decide +kernel) rfl
  refine cl_i0 (va_runS (As := [.int (nI q)]) (rest := []) ⟨hx, hb, hml, hown, hts⟩ (c_X4_isPiece l D k (nI q) H.size) (va_cwS 1 hts gX4_pieceOf_X4_isPiece rfl rfl rfl (by decide +kernel) ⟨Nat.le_of_ble_eq_true rfl, Nat.le_of_ble_eq_true rfl⟩) ⟨pr_blind, pr_at hN hPc hK hDc⟩ rfl rfl hl.1 rfl (lv_room (Nat.le_of_ble_eq_true rfl)) dX4_pieceOf_1 ⟨Nat.le_of_ble_eq_true rfl, Nat.le_of_ble_eq_true rfl⟩) hP hD hS hA [] rfl (fun H locs hP hD hS => ?_)
  clear hPc hDc
  refine lv_if_ne (tgt := 17) hx hb dX4_pieceOf_4 (by decide) (fun c_1 => ?_) (fun c_1 => ?_)
  · have c_1 := bI_ne.mp c_1
    refine lv_iload_n hx hb dX4_pieceOf_17 rfl (lv_at hl 2 rfl) ?_
    refine lv_tableIn (off := 46) (tgt := 64) hx hb dX4_pieceOf_18 (by decide) (by decide) rfl (by decide) ?_
    refine lv_aload_n hx hb dX4_pieceOf_64 rfl (lv_at hl 0 rfl) ?_
    refine va_get (D := D) (ci := 4) (v := .ref (d 1 0)) (C := RX4) (T := TX4) (N := 9) hx hb hts (fun _ h9 => (List.mem_cons_of_mem _ (List.mem_append_left _ (List.mem_append_left _ (List.mem_append_left _ (List.mem_append_left _ (List.mem_append_left _ (List.mem_append_right _ h9)))))))) hown hK hP 0 rfl rfl 0 (by decide) (hts _ (List.mem_of_getElem? (i := 5) rfl)) (fun _ h9 => h9) rfl dX4_pieceOf_65 ?_
    refine va_get (D := D) (ci := 1) (v := .ref ((d 1) 1)) (C := RX1) (T := TX1) (N := 10) hx hb hts (fun _ h9 => (List.mem_cons_of_mem _ (List.mem_append_left _ (List.mem_append_left _ (List.mem_append_left _ (List.mem_append_left _ (List.mem_append_right _ h9))))))) hown hK hP 1 rfl rfl 0 (by decide) (hts _ (List.mem_of_getElem? (i := 6) rfl)) (fun _ h9 => h9) rfl dX4_pieceOf_68 ?_
    refine lv_iload_n hx hb dX4_pieceOf_71 rfl (lv_at hl 1 rfl) ?_
    refine ar_ld hx hb hK hP 2 rfl q (nI_clamp (by omega)) (vp_in_nI (by omega) (by omega)) dX4_pieceOf_72 ?_
    subst hQ
    exact rt_i hx hb hr hlocks hS dX4_pieceOf_73 (hP) (rfl)
  · have c_1 := bI_eq.mp c_1
    exact absurd c_1 (by rw [pcB_t (by omega)]; decide)

set_option maxHeartbeats 1000000 in
set_option maxRecDepth 100000 in
theorem c_X4_pieceOf_1 (l : Launch) (D : va_G) (k : Nat → ClassId) (d : Nat → Nat → Nat) (ns : Int32) (S : Nat → Nat → Int32) (V : Nat → Nat → Int32) (al op wf bh ah : Nat → Int32) (tr : Int32) (q : Nat) (hq : q < 9) : MI l yX4_pieceOf wsX4_pieceOf ({ frames := 1, cells := 0, slots := 0, locals := 20 }) D k [.ref (d 0 0), .int (nI q), .int 1] (wXo d ns ++ (wSt k (d 1) S ++ (wWays k (d 8) (d 9) V al op wf ++ (wRw k (d 10) bh ah tr)))) (S 4 q) (wXo d ns ++ (wSt k (d 1) S ++ (wWays k (d 8) (d 9) V al op wf ++ wRw k (d 10) bh ah tr))) := by
  intro sz
  refine Met.ofW (cc := cX4_pieceOf) (maxL := 3) (ret := (some .int)) (by decide) rfl ?_
  intro p e s m args below meth c s₁ B hml hv
  obtain ⟨rfl, hN, hsz, hP, hK, hD0⟩ := hv
  have hx := B.exec
  have hb := B.bytes
  have hr := B.returns
  have hts := atoms_spec (ws := wsX4_pieceOf) B.pre
  have hown : s.vm.findClass RX4 = some m.cls := findClass_of_methodNamed B.named
  have hlocks := B.notSynchronized
  subst hsz
  have hD := hD0.self (sz := s.heap.size)
  generalize hAe : va_A (wXo d ns ++ (wSt k (d 1) S ++ (wWays k (d 8) (d 9) V al op wf ++ (wRw k (d 10) bh ah tr)))) s.heap.size = A at hD ⊢
  have hA : ∀ q : Nat, s.heap.size ≤ q → A q := fun q h => by rw [← hAe]; exact Or.inr h
  have hS : va_S A s.heap s.heap [] := va_S.rf
  have hl := lv_entry ([.ref (d 0 0), .int (nI q), .int 1]) (n := 3) (Nat.le_of_ble_eq_true rfl)
  rw [lg_entry_eq]
  generalize (lg_sl ([.ref (d 0 0), .int (nI q), .int 1]) ++ List.replicate (3 - (lg_sl ([.ref (d 0 0), .int (nI q), .int 1])).length) Slot.unset).toArray = ls at hl ⊢
  have hl : lv_has ls 3 [(0, .ref (d 0 0)), (1, .int (nI q)), (2, .int 1)] := hl
  obtain ⟨H, hHe⟩ : ∃ H, H = s.heap := ⟨_, rfl⟩
  have hP : va_P D vwCl (wXo d ns ++ (wSt k (d 1) S ++ (wWays k (d 8) (d 9) V al op wf ++ (wRw k (d 10) bh ah tr)))) H := by rw [hHe]; exact hP
  have hS : va_S A s.heap H [] := by rw [hHe]; exact hS
  rw [← hHe]
  refine absQ (fun Q hQ => ?_)
  refine lv_iload_n hx hb dX4_pieceOf_0 rfl (lv_at hl 1 rfl) ?_
  have hPc : va_P D vwCl ([]) H := hP.sub [] rfl
  have hDc : va_D A ([]) := hD.sub [] (by decide +kernel) rfl
  refine cl_i0 (va_runS (As := [.int (nI q)]) (rest := []) ⟨hx, hb, hml, hown, hts⟩ (c_X4_isPiece l D k (nI q) H.size) (va_cwS 1 hts gX4_pieceOf_X4_isPiece rfl rfl rfl (by decide +kernel) ⟨Nat.le_of_ble_eq_true rfl, Nat.le_of_ble_eq_true rfl⟩) ⟨pr_blind, pr_at hN hPc hK hDc⟩ rfl rfl hl.1 rfl (lv_room (Nat.le_of_ble_eq_true rfl)) dX4_pieceOf_1 ⟨Nat.le_of_ble_eq_true rfl, Nat.le_of_ble_eq_true rfl⟩) hP hD hS hA [] rfl (fun H locs hP hD hS => ?_)
  clear hPc hDc
  refine lv_if_ne (tgt := 17) hx hb dX4_pieceOf_4 (by decide) (fun c_1 => ?_) (fun c_1 => ?_)
  · have c_1 := bI_ne.mp c_1
    refine lv_iload_n hx hb dX4_pieceOf_17 rfl (lv_at hl 2 rfl) ?_
    refine lv_tableIn (off := 56) (tgt := 74) hx hb dX4_pieceOf_18 (by decide) (by decide) rfl (by decide) ?_
    refine lv_aload_n hx hb dX4_pieceOf_74 rfl (lv_at hl 0 rfl) ?_
    refine va_get (D := D) (ci := 4) (v := .ref (d 1 0)) (C := RX4) (T := TX4) (N := 9) hx hb hts (fun _ h9 => (List.mem_cons_of_mem _ (List.mem_append_left _ (List.mem_append_left _ (List.mem_append_left _ (List.mem_append_left _ (List.mem_append_left _ (List.mem_append_right _ h9)))))))) hown hK hP 0 rfl rfl 0 (by decide) (hts _ (List.mem_of_getElem? (i := 5) rfl)) (fun _ h9 => h9) rfl dX4_pieceOf_75 ?_
    refine va_get (D := D) (ci := 1) (v := .ref ((d 1) 5)) (C := RX1) (T := TX1) (N := 10) hx hb hts (fun _ h9 => (List.mem_cons_of_mem _ (List.mem_append_left _ (List.mem_append_left _ (List.mem_append_left _ (List.mem_append_left _ (List.mem_append_right _ h9))))))) hown hK hP 1 rfl rfl 4 (by decide) (hts _ (List.mem_of_getElem? (i := 7) rfl)) (fun _ h9 => h9) rfl dX4_pieceOf_78 ?_
    refine lv_iload_n hx hb dX4_pieceOf_81 rfl (lv_at hl 1 rfl) ?_
    refine ar_ld hx hb hK hP 6 rfl q (nI_clamp (by omega)) (vp_in_nI (by omega) (by omega)) dX4_pieceOf_82 ?_
    subst hQ
    exact rt_i hx hb hr hlocks hS dX4_pieceOf_83 (hP) (rfl)
  · have c_1 := bI_eq.mp c_1
    exact absurd c_1 (by rw [pcB_t (by omega)]; decide)

set_option maxHeartbeats 1000000 in
set_option maxRecDepth 100000 in
theorem c_X4_pieceOf_2 (l : Launch) (D : va_G) (k : Nat → ClassId) (d : Nat → Nat → Nat) (ns : Int32) (S : Nat → Nat → Int32) (V : Nat → Nat → Int32) (al op wf bh ah : Nat → Int32) (tr : Int32) (q : Nat) (hq : q < 9) : MI l yX4_pieceOf wsX4_pieceOf ({ frames := 1, cells := 0, slots := 0, locals := 20 }) D k [.ref (d 0 0), .int (nI q), .int 2] (wXo d ns ++ (wSt k (d 1) S ++ (wWays k (d 8) (d 9) V al op wf ++ (wRw k (d 10) bh ah tr)))) (S 1 q) (wXo d ns ++ (wSt k (d 1) S ++ (wWays k (d 8) (d 9) V al op wf ++ wRw k (d 10) bh ah tr))) := by
  intro sz
  refine Met.ofW (cc := cX4_pieceOf) (maxL := 3) (ret := (some .int)) (by decide) rfl ?_
  intro p e s m args below meth c s₁ B hml hv
  obtain ⟨rfl, hN, hsz, hP, hK, hD0⟩ := hv
  have hx := B.exec
  have hb := B.bytes
  have hr := B.returns
  have hts := atoms_spec (ws := wsX4_pieceOf) B.pre
  have hown : s.vm.findClass RX4 = some m.cls := findClass_of_methodNamed B.named
  have hlocks := B.notSynchronized
  subst hsz
  have hD := hD0.self (sz := s.heap.size)
  generalize hAe : va_A (wXo d ns ++ (wSt k (d 1) S ++ (wWays k (d 8) (d 9) V al op wf ++ (wRw k (d 10) bh ah tr)))) s.heap.size = A at hD ⊢
  have hA : ∀ q : Nat, s.heap.size ≤ q → A q := fun q h => by rw [← hAe]; exact Or.inr h
  have hS : va_S A s.heap s.heap [] := va_S.rf
  have hl := lv_entry ([.ref (d 0 0), .int (nI q), .int 2]) (n := 3) (Nat.le_of_ble_eq_true rfl)
  rw [lg_entry_eq]
  generalize (lg_sl ([.ref (d 0 0), .int (nI q), .int 2]) ++ List.replicate (3 - (lg_sl ([.ref (d 0 0), .int (nI q), .int 2])).length) Slot.unset).toArray = ls at hl ⊢
  have hl : lv_has ls 3 [(0, .ref (d 0 0)), (1, .int (nI q)), (2, .int 2)] := hl
  obtain ⟨H, hHe⟩ : ∃ H, H = s.heap := ⟨_, rfl⟩
  have hP : va_P D vwCl (wXo d ns ++ (wSt k (d 1) S ++ (wWays k (d 8) (d 9) V al op wf ++ (wRw k (d 10) bh ah tr)))) H := by rw [hHe]; exact hP
  have hS : va_S A s.heap H [] := by rw [hHe]; exact hS
  rw [← hHe]
  refine absQ (fun Q hQ => ?_)
  refine lv_iload_n hx hb dX4_pieceOf_0 rfl (lv_at hl 1 rfl) ?_
  have hPc : va_P D vwCl ([]) H := hP.sub [] rfl
  have hDc : va_D A ([]) := hD.sub [] (by decide +kernel) rfl
  refine cl_i0 (va_runS (As := [.int (nI q)]) (rest := []) ⟨hx, hb, hml, hown, hts⟩ (c_X4_isPiece l D k (nI q) H.size) (va_cwS 1 hts gX4_pieceOf_X4_isPiece rfl rfl rfl (by decide +kernel) ⟨Nat.le_of_ble_eq_true rfl, Nat.le_of_ble_eq_true rfl⟩) ⟨pr_blind, pr_at hN hPc hK hDc⟩ rfl rfl hl.1 rfl (lv_room (Nat.le_of_ble_eq_true rfl)) dX4_pieceOf_1 ⟨Nat.le_of_ble_eq_true rfl, Nat.le_of_ble_eq_true rfl⟩) hP hD hS hA [] rfl (fun H locs hP hD hS => ?_)
  clear hPc hDc
  refine lv_if_ne (tgt := 17) hx hb dX4_pieceOf_4 (by decide) (fun c_1 => ?_) (fun c_1 => ?_)
  · have c_1 := bI_ne.mp c_1
    refine lv_iload_n hx hb dX4_pieceOf_17 rfl (lv_at hl 2 rfl) ?_
    refine lv_tableIn (off := 66) (tgt := 84) hx hb dX4_pieceOf_18 (by decide) (by decide) rfl (by decide) ?_
    refine lv_aload_n hx hb dX4_pieceOf_84 rfl (lv_at hl 0 rfl) ?_
    refine va_get (D := D) (ci := 4) (v := .ref (d 1 0)) (C := RX4) (T := TX4) (N := 9) hx hb hts (fun _ h9 => (List.mem_cons_of_mem _ (List.mem_append_left _ (List.mem_append_left _ (List.mem_append_left _ (List.mem_append_left _ (List.mem_append_left _ (List.mem_append_right _ h9)))))))) hown hK hP 0 rfl rfl 0 (by decide) (hts _ (List.mem_of_getElem? (i := 5) rfl)) (fun _ h9 => h9) rfl dX4_pieceOf_85 ?_
    refine va_get (D := D) (ci := 1) (v := .ref ((d 1) 2)) (C := RX1) (T := TX1) (N := 10) hx hb hts (fun _ h9 => (List.mem_cons_of_mem _ (List.mem_append_left _ (List.mem_append_left _ (List.mem_append_left _ (List.mem_append_left _ (List.mem_append_right _ h9))))))) hown hK hP 1 rfl rfl 1 (by decide) (hts _ (List.mem_of_getElem? (i := 8) rfl)) (fun _ h9 => h9) rfl dX4_pieceOf_88 ?_
    refine lv_iload_n hx hb dX4_pieceOf_91 rfl (lv_at hl 1 rfl) ?_
    refine ar_ld hx hb hK hP 3 rfl q (nI_clamp (by omega)) (vp_in_nI (by omega) (by omega)) dX4_pieceOf_92 ?_
    subst hQ
    exact rt_i hx hb hr hlocks hS dX4_pieceOf_93 (hP) (rfl)
  · have c_1 := bI_eq.mp c_1
    exact absurd c_1 (by rw [pcB_t (by omega)]; decide)

set_option maxHeartbeats 1000000 in
set_option maxRecDepth 100000 in
theorem c_X4_pieceOf_3 (l : Launch) (D : va_G) (k : Nat → ClassId) (d : Nat → Nat → Nat) (ns : Int32) (S : Nat → Nat → Int32) (V : Nat → Nat → Int32) (al op wf bh ah : Nat → Int32) (tr : Int32) (q : Nat) (hq : q < 9) : MI l yX4_pieceOf wsX4_pieceOf ({ frames := 2, cells := 0, slots := 0, locals := 44 }) D k [.ref (d 0 0), .int (nI q), .int 3] (wXo d ns ++ (wSt k (d 1) S ++ (wWays k (d 8) (d 9) V al op wf ++ (wRw k (d 10) bh ah tr)))) (cjtF (S 2) (nI q) 9) (wXo d ns ++ (wSt k (d 1) S ++ (wWays k (d 8) (d 9) V al op wf ++ wRw k (d 10) bh ah tr))) := by
  intro sz
  refine Met.ofW (cc := cX4_pieceOf) (maxL := 3) (ret := (some .int)) (by decide) rfl ?_
  intro p e s m args below meth c s₁ B hml hv
  obtain ⟨rfl, hN, hsz, hP, hK, hD0⟩ := hv
  have hx := B.exec
  have hb := B.bytes
  have hr := B.returns
  have hts := atoms_spec (ws := wsX4_pieceOf) B.pre
  have hown : s.vm.findClass RX4 = some m.cls := findClass_of_methodNamed B.named
  have hlocks := B.notSynchronized
  subst hsz
  have hD := hD0.self (sz := s.heap.size)
  generalize hAe : va_A (wXo d ns ++ (wSt k (d 1) S ++ (wWays k (d 8) (d 9) V al op wf ++ (wRw k (d 10) bh ah tr)))) s.heap.size = A at hD ⊢
  have hA : ∀ q : Nat, s.heap.size ≤ q → A q := fun q h => by rw [← hAe]; exact Or.inr h
  have hS : va_S A s.heap s.heap [] := va_S.rf
  have hl := lv_entry ([.ref (d 0 0), .int (nI q), .int 3]) (n := 3) (Nat.le_of_ble_eq_true rfl)
  rw [lg_entry_eq]
  generalize (lg_sl ([.ref (d 0 0), .int (nI q), .int 3]) ++ List.replicate (3 - (lg_sl ([.ref (d 0 0), .int (nI q), .int 3])).length) Slot.unset).toArray = ls at hl ⊢
  have hl : lv_has ls 3 [(0, .ref (d 0 0)), (1, .int (nI q)), (2, .int 3)] := hl
  obtain ⟨H, hHe⟩ : ∃ H, H = s.heap := ⟨_, rfl⟩
  have hP : va_P D vwCl (wXo d ns ++ (wSt k (d 1) S ++ (wWays k (d 8) (d 9) V al op wf ++ (wRw k (d 10) bh ah tr)))) H := by rw [hHe]; exact hP
  have hS : va_S A s.heap H [] := by rw [hHe]; exact hS
  rw [← hHe]
  refine absQ (fun Q hQ => ?_)
  refine lv_iload_n hx hb dX4_pieceOf_0 rfl (lv_at hl 1 rfl) ?_
  have hPc : va_P D vwCl ([]) H := hP.sub [] rfl
  have hDc : va_D A ([]) := hD.sub [] (by decide +kernel) rfl
  refine cl_i0 (va_runS (As := [.int (nI q)]) (rest := []) ⟨hx, hb, hml, hown, hts⟩ (c_X4_isPiece l D k (nI q) H.size) (va_cwS 1 hts gX4_pieceOf_X4_isPiece rfl rfl rfl (by decide +kernel) ⟨Nat.le_of_ble_eq_true rfl, Nat.le_of_ble_eq_true rfl⟩) ⟨pr_blind, pr_at hN hPc hK hDc⟩ rfl rfl hl.1 rfl (lv_room (Nat.le_of_ble_eq_true rfl)) dX4_pieceOf_1 ⟨Nat.le_of_ble_eq_true rfl, Nat.le_of_ble_eq_true rfl⟩) hP hD hS hA [] rfl (fun H locs hP hD hS => ?_)
  clear hPc hDc
  refine lv_if_ne (tgt := 17) hx hb dX4_pieceOf_4 (by decide) (fun c_1 => ?_) (fun c_1 => ?_)
  · have c_1 := bI_ne.mp c_1
    refine lv_iload_n hx hb dX4_pieceOf_17 rfl (lv_at hl 2 rfl) ?_
    refine lv_tableIn (off := 76) (tgt := 94) hx hb dX4_pieceOf_18 (by decide) (by decide) rfl (by decide) ?_
    refine lv_aload_n hx hb dX4_pieceOf_94 rfl (lv_at hl 0 rfl) ?_
    refine va_get (D := D) (ci := 4) (v := .ref (d 1 0)) (C := RX4) (T := TX4) (N := 9) hx hb hts (fun _ h9 => (List.mem_cons_of_mem _ (List.mem_append_left _ (List.mem_append_left _ (List.mem_append_left _ (List.mem_append_left _ (List.mem_append_left _ (List.mem_append_right _ h9)))))))) hown hK hP 0 rfl rfl 0 (by decide) (hts _ (List.mem_of_getElem? (i := 5) rfl)) (fun _ h9 => h9) rfl dX4_pieceOf_95 ?_
    refine lv_iload_n hx hb dX4_pieceOf_98 rfl (lv_at hl 1 rfl) ?_
    have hPc : va_P D vwCl (wSt k (d 1) S) H := hP.sub [1, 2, 3, 4, 5, 6, 7, 8] rfl
    have hDc : va_D A (wSt k (d 1) S) := hD.sub [1, 2, 3, 4, 5, 6, 7, 8] (by decide +kernel) rfl
    refine cl_i0 (va_runV (As := [.int (nI q)]) (rest := []) ⟨hx, hb, hml, hown, hts⟩ (c_X1_countJoinsTo l D k (d 1) S (nI q) H.size) (cwV 1 hts gX4_pieceOf_X1_countJoinsTo rfl rfl rfl (by decide +kernel) ⟨Nat.le_of_ble_eq_true rfl, Nat.le_of_ble_eq_true rfl⟩) ⟨pr_blind, va_recv hK hP (ci := 1) (q0 := 1) rfl rfl, pr_at hN hPc hK hDc⟩ rfl rfl hl.1 rfl (lv_room (Nat.le_of_ble_eq_true rfl)) dX4_pieceOf_99 ⟨Nat.le_of_ble_eq_true rfl, Nat.le_of_ble_eq_true rfl⟩) hP hD hS hA [1, 2, 3, 4, 5, 6, 7, 8] rfl (fun H locs hP hD hS => ?_)
    clear hPc hDc
    subst hQ
    exact rt_i hx hb hr hlocks hS dX4_pieceOf_102 (hP) (rfl)
  · have c_1 := bI_eq.mp c_1
    exact absurd c_1 (by rw [pcB_t (by omega)]; decide)

set_option maxHeartbeats 1000000 in
set_option maxRecDepth 100000 in
theorem c_X4_pieceOf_4 (l : Launch) (D : va_G) (k : Nat → ClassId) (d : Nat → Nat → Nat) (ns : Int32) (S : Nat → Nat → Int32) (V : Nat → Nat → Int32) (al op wf bh ah : Nat → Int32) (tr : Int32) (q : Nat) (hq : q < 9) : MI l yX4_pieceOf wsX4_pieceOf ({ frames := 1, cells := 0, slots := 0, locals := 20 }) D k [.ref (d 0 0), .int (nI q), .int 4] (wXo d ns ++ (wSt k (d 1) S ++ (wWays k (d 8) (d 9) V al op wf ++ (wRw k (d 10) bh ah tr)))) (bcF (S 2 q)) (wXo d ns ++ (wSt k (d 1) S ++ (wWays k (d 8) (d 9) V al op wf ++ wRw k (d 10) bh ah tr))) := by
  intro sz
  refine Met.ofW (cc := cX4_pieceOf) (maxL := 3) (ret := (some .int)) (by decide) rfl ?_
  intro p e s m args below meth c s₁ B hml hv
  obtain ⟨rfl, hN, hsz, hP, hK, hD0⟩ := hv
  have hx := B.exec
  have hb := B.bytes
  have hr := B.returns
  have hts := atoms_spec (ws := wsX4_pieceOf) B.pre
  have hown : s.vm.findClass RX4 = some m.cls := findClass_of_methodNamed B.named
  have hlocks := B.notSynchronized
  subst hsz
  have hD := hD0.self (sz := s.heap.size)
  generalize hAe : va_A (wXo d ns ++ (wSt k (d 1) S ++ (wWays k (d 8) (d 9) V al op wf ++ (wRw k (d 10) bh ah tr)))) s.heap.size = A at hD ⊢
  have hA : ∀ q : Nat, s.heap.size ≤ q → A q := fun q h => by rw [← hAe]; exact Or.inr h
  have hS : va_S A s.heap s.heap [] := va_S.rf
  have hl := lv_entry ([.ref (d 0 0), .int (nI q), .int 4]) (n := 3) (Nat.le_of_ble_eq_true rfl)
  rw [lg_entry_eq]
  generalize (lg_sl ([.ref (d 0 0), .int (nI q), .int 4]) ++ List.replicate (3 - (lg_sl ([.ref (d 0 0), .int (nI q), .int 4])).length) Slot.unset).toArray = ls at hl ⊢
  have hl : lv_has ls 3 [(0, .ref (d 0 0)), (1, .int (nI q)), (2, .int 4)] := hl
  obtain ⟨H, hHe⟩ : ∃ H, H = s.heap := ⟨_, rfl⟩
  have hP : va_P D vwCl (wXo d ns ++ (wSt k (d 1) S ++ (wWays k (d 8) (d 9) V al op wf ++ (wRw k (d 10) bh ah tr)))) H := by rw [hHe]; exact hP
  have hS : va_S A s.heap H [] := by rw [hHe]; exact hS
  rw [← hHe]
  refine absQ (fun Q hQ => ?_)
  refine lv_iload_n hx hb dX4_pieceOf_0 rfl (lv_at hl 1 rfl) ?_
  have hPc : va_P D vwCl ([]) H := hP.sub [] rfl
  have hDc : va_D A ([]) := hD.sub [] (by decide +kernel) rfl
  refine cl_i0 (va_runS (As := [.int (nI q)]) (rest := []) ⟨hx, hb, hml, hown, hts⟩ (c_X4_isPiece l D k (nI q) H.size) (va_cwS 1 hts gX4_pieceOf_X4_isPiece rfl rfl rfl (by decide +kernel) ⟨Nat.le_of_ble_eq_true rfl, Nat.le_of_ble_eq_true rfl⟩) ⟨pr_blind, pr_at hN hPc hK hDc⟩ rfl rfl hl.1 rfl (lv_room (Nat.le_of_ble_eq_true rfl)) dX4_pieceOf_1 ⟨Nat.le_of_ble_eq_true rfl, Nat.le_of_ble_eq_true rfl⟩) hP hD hS hA [] rfl (fun H locs hP hD hS => ?_)
  clear hPc hDc
  refine lv_if_ne (tgt := 17) hx hb dX4_pieceOf_4 (by decide) (fun c_1 => ?_) (fun c_1 => ?_)
  · have c_1 := bI_ne.mp c_1
    refine lv_iload_n hx hb dX4_pieceOf_17 rfl (lv_at hl 2 rfl) ?_
    refine lv_tableIn (off := 85) (tgt := 103) hx hb dX4_pieceOf_18 (by decide) (by decide) rfl (by decide) ?_
    refine lv_aload_n hx hb dX4_pieceOf_103 rfl (lv_at hl 0 rfl) ?_
    refine va_get (D := D) (ci := 4) (v := .ref (d 1 0)) (C := RX4) (T := TX4) (N := 9) hx hb hts (fun _ h9 => (List.mem_cons_of_mem _ (List.mem_append_left _ (List.mem_append_left _ (List.mem_append_left _ (List.mem_append_left _ (List.mem_append_left _ (List.mem_append_right _ h9)))))))) hown hK hP 0 rfl rfl 0 (by decide) (hts _ (List.mem_of_getElem? (i := 5) rfl)) (fun _ h9 => h9) rfl dX4_pieceOf_104 ?_
    refine va_get (D := D) (ci := 1) (v := .ref ((d 1) 3)) (C := RX1) (T := TX1) (N := 10) hx hb hts (fun _ h9 => (List.mem_cons_of_mem _ (List.mem_append_left _ (List.mem_append_left _ (List.mem_append_left _ (List.mem_append_left _ (List.mem_append_right _ h9))))))) hown hK hP 1 rfl rfl 2 (by decide) (hts _ (List.mem_of_getElem? (i := 9) rfl)) (fun _ h9 => h9) rfl dX4_pieceOf_107 ?_
    refine lv_iload_n hx hb dX4_pieceOf_110 rfl (lv_at hl 1 rfl) ?_
    refine ar_ld hx hb hK hP 4 rfl q (nI_clamp (by omega)) (vp_in_nI (by omega) (by omega)) dX4_pieceOf_111 ?_
    have hPc : va_P D vwCl ([]) H := hP.sub [] rfl
    have hDc : va_D A ([]) := hD.sub [] (by decide +kernel) rfl
    refine cl_i0 (va_runS (As := [.int ((S 2) q)]) (rest := []) ⟨hx, hb, hml, hown, hts⟩ (c_J6_bitCount l D k ((S 2) q) H.size) (va_cwS 1 hts gX4_pieceOf_J6_bitCount_0f7a4 rfl rfl rfl (by decide +kernel) ⟨Nat.le_of_ble_eq_true rfl, Nat.le_of_ble_eq_true rfl⟩) ⟨pr_blind, pr_at hN hPc hK hDc⟩ rfl rfl hl.1 rfl (lv_room (Nat.le_of_ble_eq_true rfl)) dX4_pieceOf_112 ⟨Nat.le_of_ble_eq_true rfl, Nat.le_of_ble_eq_true rfl⟩) hP hD hS hA [] rfl (fun H locs hP hD hS => ?_)
    clear hPc hDc
    subst hQ
    exact rt_i hx hb hr hlocks hS dX4_pieceOf_115 (hP) (rfl)
  · have c_1 := bI_eq.mp c_1
    exact absurd c_1 (by rw [pcB_t (by omega)]; decide)

set_option maxHeartbeats 1000000 in
set_option maxRecDepth 100000 in
theorem c_X4_pieceOf_5 (l : Launch) (D : va_G) (k : Nat → ClassId) (d : Nat → Nat → Nat) (ns : Int32) (S : Nat → Nat → Int32) (V : Nat → Nat → Int32) (al op wf bh ah : Nat → Int32) (tr : Int32) (q : Nat) (hq : q < 9) : MI l yX4_pieceOf wsX4_pieceOf ({ frames := 2, cells := 0, slots := 0, locals := 44 }) D k [.ref (d 0 0), .int (nI q), .int 5] (wXo d ns ++ (wSt k (d 1) S ++ (wWays k (d 8) (d 9) V al op wf ++ (wRw k (d 10) bh ah tr)))) (bcF (bhG (S 2) q)) (wXo d ns ++ (wSt k (d 1) S ++ (wWays k (d 8) (d 9) V al op wf ++ wRw k (d 10) (bhG (S 2)) ah tr))) := by
  intro sz
  refine Met.ofW (cc := cX4_pieceOf) (maxL := 3) (ret := (some .int)) (by decide) rfl ?_
  intro p e s m args below meth c s₁ B hml hv
  obtain ⟨rfl, hN, hsz, hP, hK, hD0⟩ := hv
  have hx := B.exec
  have hb := B.bytes
  have hr := B.returns
  have hts := atoms_spec (ws := wsX4_pieceOf) B.pre
  have hown : s.vm.findClass RX4 = some m.cls := findClass_of_methodNamed B.named
  have hlocks := B.notSynchronized
  subst hsz
  have hD := hD0.self (sz := s.heap.size)
  generalize hAe : va_A (wXo d ns ++ (wSt k (d 1) S ++ (wWays k (d 8) (d 9) V al op wf ++ (wRw k (d 10) bh ah tr)))) s.heap.size = A at hD ⊢
  have hA : ∀ q : Nat, s.heap.size ≤ q → A q := fun q h => by rw [← hAe]; exact Or.inr h
  have hS : va_S A s.heap s.heap [] := va_S.rf
  have hl := lv_entry ([.ref (d 0 0), .int (nI q), .int 5]) (n := 3) (Nat.le_of_ble_eq_true rfl)
  rw [lg_entry_eq]
  generalize (lg_sl ([.ref (d 0 0), .int (nI q), .int 5]) ++ List.replicate (3 - (lg_sl ([.ref (d 0 0), .int (nI q), .int 5])).length) Slot.unset).toArray = ls at hl ⊢
  have hl : lv_has ls 3 [(0, .ref (d 0 0)), (1, .int (nI q)), (2, .int 5)] := hl
  obtain ⟨H, hHe⟩ : ∃ H, H = s.heap := ⟨_, rfl⟩
  have hP : va_P D vwCl (wXo d ns ++ (wSt k (d 1) S ++ (wWays k (d 8) (d 9) V al op wf ++ (wRw k (d 10) bh ah tr)))) H := by rw [hHe]; exact hP
  have hS : va_S A s.heap H [] := by rw [hHe]; exact hS
  rw [← hHe]
  refine absQ (fun Q hQ => ?_)
  refine lv_iload_n hx hb dX4_pieceOf_0 rfl (lv_at hl 1 rfl) ?_
  have hPc : va_P D vwCl ([]) H := hP.sub [] rfl
  have hDc : va_D A ([]) := hD.sub [] (by decide +kernel) rfl
  refine cl_i0 (va_runS (As := [.int (nI q)]) (rest := []) ⟨hx, hb, hml, hown, hts⟩ (c_X4_isPiece l D k (nI q) H.size) (va_cwS 1 hts gX4_pieceOf_X4_isPiece rfl rfl rfl (by decide +kernel) ⟨Nat.le_of_ble_eq_true rfl, Nat.le_of_ble_eq_true rfl⟩) ⟨pr_blind, pr_at hN hPc hK hDc⟩ rfl rfl hl.1 rfl (lv_room (Nat.le_of_ble_eq_true rfl)) dX4_pieceOf_1 ⟨Nat.le_of_ble_eq_true rfl, Nat.le_of_ble_eq_true rfl⟩) hP hD hS hA [] rfl (fun H locs hP hD hS => ?_)
  clear hPc hDc
  refine lv_if_ne (tgt := 17) hx hb dX4_pieceOf_4 (by decide) (fun c_1 => ?_) (fun c_1 => ?_)
  · have c_1 := bI_ne.mp c_1
    refine lv_iload_n hx hb dX4_pieceOf_17 rfl (lv_at hl 2 rfl) ?_
    refine lv_tableIn (off := 98) (tgt := 116) hx hb dX4_pieceOf_18 (by decide) (by decide) rfl (by decide) ?_
    refine lv_aload_n hx hb dX4_pieceOf_116 rfl (lv_at hl 0 rfl) ?_
    refine va_get (D := D) (ci := 4) (v := .ref (d 10 0)) (C := RX4) (T := TX4) (N := 9) hx hb hts (fun _ h9 => (List.mem_cons_of_mem _ (List.mem_append_left _ (List.mem_append_left _ (List.mem_append_left _ (List.mem_append_left _ (List.mem_append_left _ (List.mem_append_right _ h9)))))))) hown hK hP 0 rfl rfl 8 (by decide) (hts _ (List.mem_of_getElem? (i := 10) rfl)) (fun _ h9 => h9) rfl dX4_pieceOf_117 ?_
    refine lv_aload_n hx hb dX4_pieceOf_120 rfl (lv_at hl 0 rfl) ?_
    refine va_get (D := D) (ci := 4) (v := .ref (d 1 0)) (C := RX4) (T := TX4) (N := 9) hx hb hts (fun _ h9 => (List.mem_cons_of_mem _ (List.mem_append_left _ (List.mem_append_left _ (List.mem_append_left _ (List.mem_append_left _ (List.mem_append_left _ (List.mem_append_right _ h9)))))))) hown hK hP 0 rfl rfl 0 (by decide) (hts _ (List.mem_of_getElem? (i := 5) rfl)) (fun _ h9 => h9) rfl dX4_pieceOf_121 ?_
    have hPc : va_P D vwCl (wRw k (d 10) bh ah tr ++ wSt k (d 1) S) H := hP.sub [21, 22, 23, 1, 2, 3, 4, 5, 6, 7, 8] rfl
    have hDc : va_D A (wRw k (d 10) bh ah tr ++ wSt k (d 1) S) := hD.sub [21, 22, 23, 1, 2, 3, 4, 5, 6, 7, 8] (by decide +kernel) rfl
    refine cl_v (va_runV (As := [.ref (d 1 0)]) (rest := []) ⟨hx, hb, hml, hown, hts⟩ (c_X0_findBehind l D k (d 10) (d 1) bh ah tr S H.size) (cwV 1 hts gX4_pieceOf_X0_findBehind rfl rfl rfl (by decide +kernel) ⟨Nat.le_of_ble_eq_true rfl, Nat.le_of_ble_eq_true rfl⟩) ⟨pr_blind, va_recv hK hP (ci := 0) (q0 := 21) rfl rfl, pr_at hN hPc hK hDc⟩ rfl rfl hl.1 rfl (lv_room (Nat.le_of_ble_eq_true rfl)) dX4_pieceOf_124 ⟨Nat.le_of_ble_eq_true rfl, Nat.le_of_ble_eq_true rfl⟩) hP hD hS hA [21, 22, 23, 1, 2, 3, 4, 5, 6, 7, 8] [0, 9, 10, 11, 12, 13, 14, 15, 16, 17, 18, 19, 20] ((wXo d ns) ++ (wWays k (d 8) (d 9) V al op wf)) [d 0 0, (d 1) 0, (d 1) 1, (d 1) 2, (d 1) 3, (d 1) 4, (d 1) 5, (d 1) 6, (d 1) 7, (d 8) 0, (d 8) 1, (d 8) 2, (d 8) 3, (d 9) 0, (d 9) 1, (d 9) 2, (d 9) 3, (d 9) 4, (d 9) 5, (d 9) 6, (d 9) 7, (d 10) 0, (d 10) 1, (d 10) 2] 24 rfl (wn := (wXo d ns ++ (wSt k (d 1) S ++ (wWays k (d 8) (d 9) V al op wf ++ (wRw k (d 10) (bhG (S 2)) ah tr))))) rfl rfl rfl rfl (by decide +kernel) rfl rfl (fun H locs hP hD hS => ?_)
    clear hPc hDc
    refine lv_aload_n hx hb dX4_pieceOf_127 rfl (lv_at hl 0 rfl) ?_
    refine va_get (D := D) (ci := 4) (v := .ref (d 10 0)) (C := RX4) (T := TX4) (N := 9) hx hb hts (fun _ h9 => (List.mem_cons_of_mem _ (List.mem_append_left _ (List.mem_append_left _ (List.mem_append_left _ (List.mem_append_left _ (List.mem_append_left _ (List.mem_append_right _ h9)))))))) hown hK hP 0 rfl rfl 8 (by decide) (hts _ (List.mem_of_getElem? (i := 10) rfl)) (fun _ h9 => h9) rfl dX4_pieceOf_128 ?_
    refine va_get (D := D) (ci := 0) (v := .ref (d 10 1)) (C := RX0) (T := TX0) (N := 3) hx hb hts (fun _ h9 => (List.mem_cons_of_mem _ (List.mem_append_left _ (List.mem_append_left _ (List.mem_append_left _ (List.mem_append_right _ h9)))))) hown hK hP 21 rfl rfl 0 (by decide) (hts _ (List.mem_of_getElem? (i := 11) rfl)) (fun _ h9 => h9) rfl dX4_pieceOf_131 ?_
    refine lv_iload_n hx hb dX4_pieceOf_134 rfl (lv_at hl 1 rfl) ?_
    refine ar_ld hx hb hK hP 22 rfl q (nI_clamp (by omega)) (vp_in_nI (by omega) (by omega)) dX4_pieceOf_135 ?_
    have hPc : va_P D vwCl ([]) H := hP.sub [] rfl
    have hDc : va_D A ([]) := hD.sub [] (by decide +kernel) rfl
    refine cl_i0 (va_runS (As := [.int ((bhG (S 2)) q)]) (rest := []) ⟨hx, hb, hml, hown, hts⟩ (c_J6_bitCount l D k ((bhG (S 2)) q) H.size) (va_cwS 1 hts gX4_pieceOf_J6_bitCount_0f7a4 rfl rfl rfl (by decide +kernel) ⟨Nat.le_of_ble_eq_true rfl, Nat.le_of_ble_eq_true rfl⟩) ⟨pr_blind, pr_at hN hPc hK hDc⟩ rfl rfl hl.1 rfl (lv_room (Nat.le_of_ble_eq_true rfl)) dX4_pieceOf_136 ⟨Nat.le_of_ble_eq_true rfl, Nat.le_of_ble_eq_true rfl⟩) hP hD hS hA [] rfl (fun H locs hP hD hS => ?_)
    clear hPc hDc
    subst hQ
    exact rt_i hx hb hr hlocks hS dX4_pieceOf_139 (hP) (rfl)
  · have c_1 := bI_eq.mp c_1
    exact absurd c_1 (by rw [pcB_t (by omega)]; decide)

set_option maxHeartbeats 1000000 in
set_option maxRecDepth 100000 in
theorem c_X4_pieceOf_6 (l : Launch) (D : va_G) (k : Nat → ClassId) (d : Nat → Nat → Nat) (ns : Int32) (S : Nat → Nat → Int32) (V : Nat → Nat → Int32) (al op wf bh ah : Nat → Int32) (tr : Int32) (q : Nat) (hq : q < 9) : MI l yX4_pieceOf wsX4_pieceOf ({ frames := 13, cells := 0, slots := 0, locals := 447 }) D k [.ref (d 0 0), .int (nI q), .int 6] (wXo d ns ++ (wSt k (d 1) S ++ (wWays k (d 8) (d 9) V al op wf ++ (wRw k (d 10) bh ah tr)))) (cjtF (apL (lsA V S al) 0 (allL (lsS V S))) (nI q) (allL (lsS V S)).length) (wXo d ns ++ (wSt k (d 1) S ++ (wWays k (d 8) (d 9) (lsS V S) (lsA V S al) (lsO V S op) wf ++ wRw k (d 10) bh ah tr))) := by
  intro sz
  refine Met.ofW (cc := cX4_pieceOf) (maxL := 3) (ret := (some .int)) (by decide) rfl ?_
  intro p e s m args below meth c s₁ B hml hv
  obtain ⟨rfl, hN, hsz, hP, hK, hD0⟩ := hv
  have hx := B.exec
  have hb := B.bytes
  have hr := B.returns
  have hts := atoms_spec (ws := wsX4_pieceOf) B.pre
  have hown : s.vm.findClass RX4 = some m.cls := findClass_of_methodNamed B.named
  have hlocks := B.notSynchronized
  subst hsz
  have hD := hD0.self (sz := s.heap.size)
  generalize hAe : va_A (wXo d ns ++ (wSt k (d 1) S ++ (wWays k (d 8) (d 9) V al op wf ++ (wRw k (d 10) bh ah tr)))) s.heap.size = A at hD ⊢
  have hA : ∀ q : Nat, s.heap.size ≤ q → A q := fun q h => by rw [← hAe]; exact Or.inr h
  have hS : va_S A s.heap s.heap [] := va_S.rf
  have hl := lv_entry ([.ref (d 0 0), .int (nI q), .int 6]) (n := 3) (Nat.le_of_ble_eq_true rfl)
  rw [lg_entry_eq]
  generalize (lg_sl ([.ref (d 0 0), .int (nI q), .int 6]) ++ List.replicate (3 - (lg_sl ([.ref (d 0 0), .int (nI q), .int 6])).length) Slot.unset).toArray = ls at hl ⊢
  have hl : lv_has ls 3 [(0, .ref (d 0 0)), (1, .int (nI q)), (2, .int 6)] := hl
  obtain ⟨H, hHe⟩ : ∃ H, H = s.heap := ⟨_, rfl⟩
  have hP : va_P D vwCl (wXo d ns ++ (wSt k (d 1) S ++ (wWays k (d 8) (d 9) V al op wf ++ (wRw k (d 10) bh ah tr)))) H := by rw [hHe]; exact hP
  have hS : va_S A s.heap H [] := by rw [hHe]; exact hS
  rw [← hHe]
  refine absQ (fun Q hQ => ?_)
  refine lv_iload_n hx hb dX4_pieceOf_0 rfl (lv_at hl 1 rfl) ?_
  have hPc : va_P D vwCl ([]) H := hP.sub [] rfl
  have hDc : va_D A ([]) := hD.sub [] (by decide +kernel) rfl
  refine cl_i0 (va_runS (As := [.int (nI q)]) (rest := []) ⟨hx, hb, hml, hown, hts⟩ (c_X4_isPiece l D k (nI q) H.size) (va_cwS 1 hts gX4_pieceOf_X4_isPiece rfl rfl rfl (by decide +kernel) ⟨Nat.le_of_ble_eq_true rfl, Nat.le_of_ble_eq_true rfl⟩) ⟨pr_blind, pr_at hN hPc hK hDc⟩ rfl rfl hl.1 rfl (lv_room (Nat.le_of_ble_eq_true rfl)) dX4_pieceOf_1 ⟨Nat.le_of_ble_eq_true rfl, Nat.le_of_ble_eq_true rfl⟩) hP hD hS hA [] rfl (fun H locs hP hD hS => ?_)
  clear hPc hDc
  refine lv_if_ne (tgt := 17) hx hb dX4_pieceOf_4 (by decide) (fun c_1 => ?_) (fun c_1 => ?_)
  · have c_1 := bI_ne.mp c_1
    refine lv_iload_n hx hb dX4_pieceOf_17 rfl (lv_at hl 2 rfl) ?_
    refine lv_tableIn (off := 122) (tgt := 140) hx hb dX4_pieceOf_18 (by decide) (by decide) rfl (by decide) ?_
    refine lv_aload_n hx hb dX4_pieceOf_140 rfl (lv_at hl 0 rfl) ?_
    refine va_get (D := D) (ci := 4) (v := .ref (d 8 0)) (C := RX4) (T := TX4) (N := 9) hx hb hts (fun _ h9 => (List.mem_cons_of_mem _ (List.mem_append_left _ (List.mem_append_left _ (List.mem_append_left _ (List.mem_append_left _ (List.mem_append_left _ (List.mem_append_right _ h9)))))))) hown hK hP 0 rfl rfl 7 (by decide) (hts _ (List.mem_of_getElem? (i := 12) rfl)) (fun _ h9 => h9) rfl dX4_pieceOf_141 ?_
    refine lv_aload_n hx hb dX4_pieceOf_144 rfl (lv_at hl 0 rfl) ?_
    refine va_get (D := D) (ci := 4) (v := .ref (d 1 0)) (C := RX4) (T := TX4) (N := 9) hx hb hts (fun _ h9 => (List.mem_cons_of_mem _ (List.mem_append_left _ (List.mem_append_left _ (List.mem_append_left _ (List.mem_append_left _ (List.mem_append_left _ (List.mem_append_right _ h9)))))))) hown hK hP 0 rfl rfl 0 (by decide) (hts _ (List.mem_of_getElem? (i := 5) rfl)) (fun _ h9 => h9) rfl dX4_pieceOf_145 ?_
    have hPc : va_P D vwCl (wWays k (d 8) (d 9) V al op wf ++ wSt k (d 1) S) H := hP.sub [9, 10, 11, 12, 13, 14, 15, 16, 17, 18, 19, 20, 1, 2, 3, 4, 5, 6, 7, 8] rfl
    have hDc : va_D A (wWays k (d 8) (d 9) V al op wf ++ wSt k (d 1) S) := hD.sub [9, 10, 11, 12, 13, 14, 15, 16, 17, 18, 19, 20, 1, 2, 3, 4, 5, 6, 7, 8] (by decide +kernel) rfl
    refine cl_v (va_runV (As := [.ref (d 1 0)]) (rest := []) ⟨hx, hb, hml, hown, hts⟩ (c_X3_list l D k (d 8) (d 9) (d 1) V S al op wf H.size) (cwV 1 hts gX4_pieceOf_X3_list rfl rfl rfl (by decide +kernel) ⟨Nat.le_of_ble_eq_true rfl, Nat.le_of_ble_eq_true rfl⟩) ⟨pr_blind, va_recv hK hP (ci := 3) (q0 := 9) rfl rfl, pr_at hN hPc hK hDc⟩ rfl rfl hl.1 rfl (lv_room (Nat.le_of_ble_eq_true rfl)) dX4_pieceOf_148 ⟨Nat.le_of_ble_eq_true rfl, Nat.le_of_ble_eq_true rfl⟩) hP hD hS hA [9, 10, 11, 12, 13, 14, 15, 16, 17, 18, 19, 20, 1, 2, 3, 4, 5, 6, 7, 8] [0, 21, 22, 23] ((wXo d ns) ++ (wRw k (d 10) bh ah tr)) [d 0 0, (d 1) 0, (d 1) 1, (d 1) 2, (d 1) 3, (d 1) 4, (d 1) 5, (d 1) 6, (d 1) 7, (d 8) 0, (d 8) 1, (d 8) 2, (d 8) 3, (d 9) 0, (d 9) 1, (d 9) 2, (d 9) 3, (d 9) 4, (d 9) 5, (d 9) 6, (d 9) 7, (d 10) 0, (d 10) 1, (d 10) 2] 24 rfl (wn := (wXo d ns ++ (wSt k (d 1) S ++ (wWays k (d 8) (d 9) (lsS V S) (lsA V S al) (lsO V S op) wf ++ (wRw k (d 10) bh ah tr))))) rfl rfl rfl rfl (by decide +kernel) rfl rfl (fun H locs hP hD hS => ?_)
    clear hPc hDc
    refine lv_aload_n hx hb dX4_pieceOf_151 rfl (lv_at hl 0 rfl) ?_
    refine va_get (D := D) (ci := 4) (v := .ref (d 8 0)) (C := RX4) (T := TX4) (N := 9) hx hb hts (fun _ h9 => (List.mem_cons_of_mem _ (List.mem_append_left _ (List.mem_append_left _ (List.mem_append_left _ (List.mem_append_left _ (List.mem_append_left _ (List.mem_append_right _ h9)))))))) hown hK hP 0 rfl rfl 7 (by decide) (hts _ (List.mem_of_getElem? (i := 12) rfl)) (fun _ h9 => h9) rfl dX4_pieceOf_152 ?_
    refine va_get (D := D) (ci := 3) (v := .ref (d 8 1)) (C := RX3) (T := TX3) (N := 6) hx hb hts (fun _ h9 => (List.mem_cons_of_mem _ (List.mem_append_left _ (List.mem_append_left _ (List.mem_append_right _ h9))))) hown hK hP 9 rfl rfl 0 (by decide) (hts _ (List.mem_of_getElem? (i := 13) rfl)) (fun _ h9 => h9) rfl dX4_pieceOf_155 ?_
    refine lv_aload_n hx hb dX4_pieceOf_158 rfl (lv_at hl 0 rfl) ?_
    refine va_get (D := D) (ci := 4) (v := .ref (d 8 0)) (C := RX4) (T := TX4) (N := 9) hx hb hts (fun _ h9 => (List.mem_cons_of_mem _ (List.mem_append_left _ (List.mem_append_left _ (List.mem_append_left _ (List.mem_append_left _ (List.mem_append_left _ (List.mem_append_right _ h9)))))))) hown hK hP 0 rfl rfl 7 (by decide) (hts _ (List.mem_of_getElem? (i := 12) rfl)) (fun _ h9 => h9) rfl dX4_pieceOf_159 ?_
    refine va_get (D := D) (ci := 3) (v := .int (nI ((allL (lsS V S)).length))) (C := RX3) (T := TX3) (N := 6) hx hb hts (fun _ h9 => (List.mem_cons_of_mem _ (List.mem_append_left _ (List.mem_append_left _ (List.mem_append_right _ h9))))) hown hK hP 9 rfl rfl 2 (by decide) (hts _ (List.mem_of_getElem? (i := 14) rfl)) (fun _ h9 => h9) rfl dX4_pieceOf_162 ?_
    refine lv_iload_n hx hb dX4_pieceOf_165 rfl (lv_at hl 1 rfl) ?_
    have hln1 := allL_len (lsS V S)
    have hln2 := opnL_len (lsS V S)
    have hPc : va_P D vwCl ([((d 8) 1, .inl (k 0, 512, .inl (apL (lsA V S al) 0 (allL (lsS V S)))))]) H := hP.sub [10] rfl
    have hDc : va_D A ([((d 8) 1, .inl (k 0, 512, .inl (apL (lsA V S al) 0 (allL (lsS V S)))))]) := hD.sub [10] (by decide +kernel) rfl
    refine cl_i0 (va_runS (As := [.ref (d 8 1), .int (nI ((allL (lsS V S)).length)), .int (nI q)]) (rest := []) ⟨hx, hb, hml, hown, hts⟩ (c_X4_countWith l D k (d 8 1) (apL (lsA V S al) 0 (allL (lsS V S))) ((allL (lsS V S)).length) (nI q) (by omega) H.size) (va_cwS 3 hts gX4_pieceOf_X4_countWith rfl rfl rfl (by decide +kernel) ⟨Nat.le_of_ble_eq_true rfl, Nat.le_of_ble_eq_true rfl⟩) ⟨pr_blind, pr_at hN hPc hK hDc⟩ rfl rfl hl.1 rfl (lv_room (Nat.le_of_ble_eq_true rfl)) dX4_pieceOf_166 ⟨Nat.le_of_ble_eq_true rfl, Nat.le_of_ble_eq_true rfl⟩) hP hD hS hA [10] rfl (fun H locs hP hD hS => ?_)
    clear hPc hDc
    subst hQ
    exact rt_i hx hb hr hlocks hS dX4_pieceOf_169 (hP) (rfl)
  · have c_1 := bI_eq.mp c_1
    exact absurd c_1 (by rw [pcB_t (by omega)]; decide)

set_option maxHeartbeats 1000000 in
set_option maxRecDepth 100000 in
theorem c_X4_pieceOf_7 (l : Launch) (D : va_G) (k : Nat → ClassId) (d : Nat → Nat → Nat) (ns : Int32) (S : Nat → Nat → Int32) (V : Nat → Nat → Int32) (al op wf bh ah : Nat → Int32) (tr : Int32) (q : Nat) (hq : q < 9) : MI l yX4_pieceOf wsX4_pieceOf ({ frames := 1, cells := 0, slots := 0, locals := 20 }) D k [.ref (d 0 0), .int (nI q), .int 7] (wXo d ns ++ (wSt k (d 1) S ++ (wWays k (d 8) (d 9) V al op wf ++ (wRw k (d 10) bh ah tr)))) (S 3 q) (wXo d ns ++ (wSt k (d 1) S ++ (wWays k (d 8) (d 9) V al op wf ++ wRw k (d 10) bh ah tr))) := by
  intro sz
  refine Met.ofW (cc := cX4_pieceOf) (maxL := 3) (ret := (some .int)) (by decide) rfl ?_
  intro p e s m args below meth c s₁ B hml hv
  obtain ⟨rfl, hN, hsz, hP, hK, hD0⟩ := hv
  have hx := B.exec
  have hb := B.bytes
  have hr := B.returns
  have hts := atoms_spec (ws := wsX4_pieceOf) B.pre
  have hown : s.vm.findClass RX4 = some m.cls := findClass_of_methodNamed B.named
  have hlocks := B.notSynchronized
  subst hsz
  have hD := hD0.self (sz := s.heap.size)
  generalize hAe : va_A (wXo d ns ++ (wSt k (d 1) S ++ (wWays k (d 8) (d 9) V al op wf ++ (wRw k (d 10) bh ah tr)))) s.heap.size = A at hD ⊢
  have hA : ∀ q : Nat, s.heap.size ≤ q → A q := fun q h => by rw [← hAe]; exact Or.inr h
  have hS : va_S A s.heap s.heap [] := va_S.rf
  have hl := lv_entry ([.ref (d 0 0), .int (nI q), .int 7]) (n := 3) (Nat.le_of_ble_eq_true rfl)
  rw [lg_entry_eq]
  generalize (lg_sl ([.ref (d 0 0), .int (nI q), .int 7]) ++ List.replicate (3 - (lg_sl ([.ref (d 0 0), .int (nI q), .int 7])).length) Slot.unset).toArray = ls at hl ⊢
  have hl : lv_has ls 3 [(0, .ref (d 0 0)), (1, .int (nI q)), (2, .int 7)] := hl
  obtain ⟨H, hHe⟩ : ∃ H, H = s.heap := ⟨_, rfl⟩
  have hP : va_P D vwCl (wXo d ns ++ (wSt k (d 1) S ++ (wWays k (d 8) (d 9) V al op wf ++ (wRw k (d 10) bh ah tr)))) H := by rw [hHe]; exact hP
  have hS : va_S A s.heap H [] := by rw [hHe]; exact hS
  rw [← hHe]
  refine absQ (fun Q hQ => ?_)
  refine lv_iload_n hx hb dX4_pieceOf_0 rfl (lv_at hl 1 rfl) ?_
  have hPc : va_P D vwCl ([]) H := hP.sub [] rfl
  have hDc : va_D A ([]) := hD.sub [] (by decide +kernel) rfl
  refine cl_i0 (va_runS (As := [.int (nI q)]) (rest := []) ⟨hx, hb, hml, hown, hts⟩ (c_X4_isPiece l D k (nI q) H.size) (va_cwS 1 hts gX4_pieceOf_X4_isPiece rfl rfl rfl (by decide +kernel) ⟨Nat.le_of_ble_eq_true rfl, Nat.le_of_ble_eq_true rfl⟩) ⟨pr_blind, pr_at hN hPc hK hDc⟩ rfl rfl hl.1 rfl (lv_room (Nat.le_of_ble_eq_true rfl)) dX4_pieceOf_1 ⟨Nat.le_of_ble_eq_true rfl, Nat.le_of_ble_eq_true rfl⟩) hP hD hS hA [] rfl (fun H locs hP hD hS => ?_)
  clear hPc hDc
  refine lv_if_ne (tgt := 17) hx hb dX4_pieceOf_4 (by decide) (fun c_1 => ?_) (fun c_1 => ?_)
  · have c_1 := bI_ne.mp c_1
    refine lv_iload_n hx hb dX4_pieceOf_17 rfl (lv_at hl 2 rfl) ?_
    refine lv_tableIn (off := 152) (tgt := 170) hx hb dX4_pieceOf_18 (by decide) (by decide) rfl (by decide) ?_
    refine lv_aload_n hx hb dX4_pieceOf_170 rfl (lv_at hl 0 rfl) ?_
    refine va_get (D := D) (ci := 4) (v := .ref (d 1 0)) (C := RX4) (T := TX4) (N := 9) hx hb hts (fun _ h9 => (List.mem_cons_of_mem _ (List.mem_append_left _ (List.mem_append_left _ (List.mem_append_left _ (List.mem_append_left _ (List.mem_append_left _ (List.mem_append_right _ h9)))))))) hown hK hP 0 rfl rfl 0 (by decide) (hts _ (List.mem_of_getElem? (i := 5) rfl)) (fun _ h9 => h9) rfl dX4_pieceOf_171 ?_
    refine va_get (D := D) (ci := 1) (v := .ref ((d 1) 4)) (C := RX1) (T := TX1) (N := 10) hx hb hts (fun _ h9 => (List.mem_cons_of_mem _ (List.mem_append_left _ (List.mem_append_left _ (List.mem_append_left _ (List.mem_append_left _ (List.mem_append_right _ h9))))))) hown hK hP 1 rfl rfl 3 (by decide) (hts _ (List.mem_of_getElem? (i := 15) rfl)) (fun _ h9 => h9) rfl dX4_pieceOf_174 ?_
    refine lv_iload_n hx hb dX4_pieceOf_177 rfl (lv_at hl 1 rfl) ?_
    refine ar_ld hx hb hK hP 5 rfl q (nI_clamp (by omega)) (vp_in_nI (by omega) (by omega)) dX4_pieceOf_178 ?_
    subst hQ
    exact rt_i hx hb hr hlocks hS dX4_pieceOf_179 (hP) (rfl)
  · have c_1 := bI_eq.mp c_1
    exact absurd c_1 (by rw [pcB_t (by omega)]; decide)

set_option maxHeartbeats 1000000 in
set_option maxRecDepth 100000 in
theorem c_X4_isJoined (l : Launch) (D : va_G) (k : Nat → ClassId) (d : Nat → Nat → Nat) (ns : Int32) (S : Nat → Nat → Int32) (V : Nat → Nat → Int32) (al op wf bh ah : Nat → Int32) (tr : Int32) (q z : Nat) (hq : q < 9) (hz : z < 9) : MI l yX4_isJoined wsX4_isJoined ({ frames := 1, cells := 0, slots := 0, locals := 21 }) D k [.ref (d 0 0), .int (nI q), .int (nI z)] (wXo d ns ++ (wSt k (d 1) S ++ (wWays k (d 8) (d 9) V al op wf ++ (wRw k (d 10) bh ah tr)))) (bitv (S 2 q) (nI z)) (wXo d ns ++ (wSt k (d 1) S ++ (wWays k (d 8) (d 9) V al op wf ++ (wRw k (d 10) bh ah tr)))) := by
  intro sz
  refine Met.ofW (cc := cX4_isJoined) (maxL := 3) (ret := (some .int)) (by decide) rfl ?_
  intro p e s m args below meth c s₁ B hml hv
  obtain ⟨rfl, hN, hsz, hP, hK, hD0⟩ := hv
  have hx := B.exec
  have hb := B.bytes
  have hr := B.returns
  have hts := atoms_spec (ws := wsX4_isJoined) B.pre
  have hown : s.vm.findClass RX4 = some m.cls := findClass_of_methodNamed B.named
  have hlocks := B.notSynchronized
  subst hsz
  have hD := hD0.self (sz := s.heap.size)
  generalize hAe : va_A (wXo d ns ++ (wSt k (d 1) S ++ (wWays k (d 8) (d 9) V al op wf ++ (wRw k (d 10) bh ah tr)))) s.heap.size = A at hD ⊢
  have hA : ∀ q : Nat, s.heap.size ≤ q → A q := fun q h => by rw [← hAe]; exact Or.inr h
  have hS : va_S A s.heap s.heap [] := va_S.rf
  have hl := lv_entry ([.ref (d 0 0), .int (nI q), .int (nI z)]) (n := 3) (Nat.le_of_ble_eq_true rfl)
  rw [lg_entry_eq]
  generalize (lg_sl ([.ref (d 0 0), .int (nI q), .int (nI z)]) ++ List.replicate (3 - (lg_sl ([.ref (d 0 0), .int (nI q), .int (nI z)])).length) Slot.unset).toArray = ls at hl ⊢
  have hl : lv_has ls 3 [(0, .ref (d 0 0)), (1, .int (nI q)), (2, .int (nI z))] := hl
  obtain ⟨H, hHe⟩ : ∃ H, H = s.heap := ⟨_, rfl⟩
  have hP : va_P D vwCl (wXo d ns ++ (wSt k (d 1) S ++ (wWays k (d 8) (d 9) V al op wf ++ (wRw k (d 10) bh ah tr)))) H := by rw [hHe]; exact hP
  have hS : va_S A s.heap H [] := by rw [hHe]; exact hS
  rw [← hHe]
  refine absQ (fun Q hQ => ?_)
  refine lv_iload_n hx hb dX4_isJoined_0 rfl (lv_at hl 1 rfl) ?_
  have hPc : va_P D vwCl ([]) H := hP.sub [] rfl
  have hDc : va_D A ([]) := hD.sub [] (by decide +kernel) rfl
  refine cl_i0 (va_runS (As := [.int (nI q)]) (rest := []) ⟨hx, hb, hml, hown, hts⟩ (c_X4_isPiece l D k (nI q) H.size) (va_cwS 1 hts gX4_isJoined_X4_isPiece rfl rfl rfl (by decide +kernel) ⟨Nat.le_of_ble_eq_true rfl, Nat.le_of_ble_eq_true rfl⟩) ⟨pr_blind, pr_at hN hPc hK hDc⟩ rfl rfl hl.1 rfl (lv_room (Nat.le_of_ble_eq_true rfl)) dX4_isJoined_1 ⟨Nat.le_of_ble_eq_true rfl, Nat.le_of_ble_eq_true rfl⟩) hP hD hS hA [] rfl (fun H locs hP hD hS => ?_)
  clear hPc hDc
  refine lv_if_eq (tgt := 14) hx hb dX4_isJoined_4 (by decide) (fun c_1 => ?_) (fun c_1 => ?_)
  · have c_1 := bI_eq.mp c_1
    exact absurd c_1 (by rw [pcB_t (by omega)]; decide)
  · have c_1 := bI_ne.mp c_1
    refine lv_iload_n hx hb dX4_isJoined_7 rfl (lv_at hl 2 rfl) ?_
    have hPc : va_P D vwCl ([]) H := hP.sub [] rfl
    have hDc : va_D A ([]) := hD.sub [] (by decide +kernel) rfl
    refine cl_i0 (va_runS (As := [.int (nI z)]) (rest := []) ⟨hx, hb, hml, hown, hts⟩ (c_X4_isPiece l D k (nI z) H.size) (va_cwS 1 hts gX4_isJoined_X4_isPiece rfl rfl rfl (by decide +kernel) ⟨Nat.le_of_ble_eq_true rfl, Nat.le_of_ble_eq_true rfl⟩) ⟨pr_blind, pr_at hN hPc hK hDc⟩ rfl rfl hl.1 rfl (lv_room (Nat.le_of_ble_eq_true rfl)) dX4_isJoined_8 ⟨Nat.le_of_ble_eq_true rfl, Nat.le_of_ble_eq_true rfl⟩) hP hD hS hA [] rfl (fun H locs hP hD hS => ?_)
    clear hPc hDc
    refine lv_if_ne (tgt := 24) hx hb dX4_isJoined_11 (by decide) (fun c_2 => ?_) (fun c_2 => ?_)
    · have c_2 := bI_ne.mp c_2
      refine lv_aload_n hx hb dX4_isJoined_24 rfl (lv_at hl 0 rfl) ?_
      refine va_get (D := D) (ci := 4) (v := .ref (d 1 0)) (C := RX4) (T := TX4) (N := 9) hx hb hts (fun _ h9 => (List.mem_cons_of_mem _ (List.mem_append_left _ (List.mem_append_left _ (List.mem_append_right _ h9))))) hown hK hP 0 rfl rfl 0 (by decide) (hts _ (List.mem_of_getElem? (i := 3) rfl)) (fun _ h9 => h9) rfl dX4_isJoined_25 ?_
      refine va_get (D := D) (ci := 1) (v := .ref ((d 1) 3)) (C := RX1) (T := TX1) (N := 10) hx hb hts (fun _ h9 => (List.mem_cons_of_mem _ (List.mem_append_left _ (List.mem_append_right _ h9)))) hown hK hP 1 rfl rfl 2 (by decide) (hts _ (List.mem_of_getElem? (i := 4) rfl)) (fun _ h9 => h9) rfl dX4_isJoined_28 ?_
      refine lv_iload_n hx hb dX4_isJoined_31 rfl (lv_at hl 1 rfl) ?_
      refine ar_ld hx hb hK hP 4 rfl q (nI_clamp (by omega)) (vp_in_nI (by omega) (by omega)) dX4_isJoined_32 ?_
      refine lv_iload_n hx hb dX4_isJoined_33 rfl (lv_at hl 2 rfl) ?_
      have hPc : va_P D vwCl ([]) H := hP.sub [] rfl
      have hDc : va_D A ([]) := hD.sub [] (by decide +kernel) rfl
      refine cl_i0 (va_runS (As := [.int ((S 2) q), .int (nI z)]) (rest := []) ⟨hx, hb, hml, hown, hts⟩ (c_X4_bit l D k ((S 2) q) (nI z) H.size) (va_cwS 2 hts gX4_isJoined_X4_bit rfl rfl rfl (by decide +kernel) ⟨Nat.le_of_ble_eq_true rfl, Nat.le_of_ble_eq_true rfl⟩) ⟨pr_blind, pr_at hN hPc hK hDc⟩ rfl rfl hl.1 rfl (lv_room (Nat.le_of_ble_eq_true rfl)) dX4_isJoined_34 ⟨Nat.le_of_ble_eq_true rfl, Nat.le_of_ble_eq_true rfl⟩) hP hD hS hA [] rfl (fun H locs hP hD hS => ?_)
      clear hPc hDc
      subst hQ
      exact rt_i hx hb hr hlocks hS dX4_isJoined_37 (hP) (rfl)
    · have c_2 := bI_eq.mp c_2
      exact absurd c_2 (by rw [pcB_t (by omega)]; decide)
