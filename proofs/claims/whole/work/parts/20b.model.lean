set_option maxHeartbeats 1000000 in
set_option maxRecDepth 100000 in
theorem c_X5_holds (l : Launch) (D : va_G) (k : Nat → ClassId) (h : Nat → Nat) (th : Int32) (f asd sl kp sv : Nat → Int32) (sm : Int32) (tx : Nat → Int32) (ln : Int32) (dg : Int64) (v : Int32)  : MI l yX5_holds wsX5_holds ({ frames := 0, cells := 0, slots := 0, locals := 0 }) D k [.ref (h 0), .int v] (wMo k h th f asd sl kp sv sm tx ln dg) (bI (decide (v = 0))) (wMo k h v f asd sl kp sv sm tx ln dg) := by
  intro sz
  refine Met.ofW (cc := cX5_holds) (maxL := 2) (ret := (some .boolean)) (by decide) rfl ?_
  intro p e s m args below meth c s₁ B hml hv
  obtain ⟨rfl, hN, hsz, hP, hK, hD0⟩ := hv
  have hx := B.exec
  have hb := B.bytes
  have hr := B.returns
  have hts := atoms_spec (ws := wsX5_holds) B.pre
  have hown : s.vm.findClass RX5 = some m.cls := findClass_of_methodNamed B.named
  have hlocks := B.notSynchronized
  subst hsz
  have hD := hD0.self (sz := s.heap.size)
  generalize hAe : va_A (wMo k h th f asd sl kp sv sm tx ln dg) s.heap.size = A at hD ⊢
  have hA : ∀ q : Nat, s.heap.size ≤ q → A q := fun q h => by rw [← hAe]; exact Or.inr h
  have hS : va_S A s.heap s.heap [] := va_S.rf
  have hl := lv_entry ([.ref (h 0), .int v]) (n := 2) (Nat.le_of_ble_eq_true rfl)
  rw [lg_entry_eq]
  generalize (lg_sl ([.ref (h 0), .int v]) ++ List.replicate (2 - (lg_sl ([.ref (h 0), .int v])).length) Slot.unset).toArray = ls at hl ⊢
  have hl : lv_has ls 2 [(0, .ref (h 0)), (1, .int v)] := hl
  obtain ⟨H, hHe⟩ : ∃ H, H = s.heap := ⟨_, rfl⟩
  have hP : va_P D vwCl (wMo k h th f asd sl kp sv sm tx ln dg) H := by rw [hHe]; exact hP
  have hS : va_S A s.heap H [] := by rw [hHe]; exact hS
  rw [← hHe]
  refine absQ (fun Q hQ => ?_)
  refine lv_aload_n hx hb dX5_holds_0 rfl (lv_at hl 0 rfl) ?_
  refine lv_iload_n hx hb dX5_holds_1 rfl (lv_at hl 1 rfl) ?_
  refine va_put (D := D) (ci := 5) (v := .int v) (ty := tyX5 0) (C := RX5) (T := TX5) (N := 10) hx hb hts (fun _ h9 => (List.mem_cons_of_mem _ (List.mem_append_right _ h9))) tyX5 tyX5_ok nmX5 hown hK hP hD hS 0 rfl rfl 0 (by decide) (hts _ (List.mem_of_getElem? (i := 1) rfl)) (fun _ h9 => h9) rfl (tyX5_ok 0 (by decide)) rfl rfl (Nat.le_of_ble_eq_true rfl) dX5_holds_2 (fun H locs hP hD hS => ?_)
  have hP : va_P D vwCl ([(h 0, .inr (5, [.int v, .ref (h 1), .ref (h 2), .ref (h 3), .ref (h 4), .ref (h 5), .int sm, .ref (h 6), .int ln, .long dg])), (h 1, .inl (k 0, 72, .inl f)), (h 2, .inl (k 0, 72, .inl asd)), (h 3, .inl (k 0, 144, .inl sl)), (h 4, .inl (k 1, 2, .inl kp)), (h 5, .inl (k 0, 432, .inl sv)), (h 6, .inl (k 0, 60, .inl tx))]) H := hP
  have hD : va_D A ([(h 0, .inr (5, [.int v, .ref (h 1), .ref (h 2), .ref (h 3), .ref (h 4), .ref (h 5), .int sm, .ref (h 6), .int ln, .long dg])), (h 1, .inl (k 0, 72, .inl f)), (h 2, .inl (k 0, 72, .inl asd)), (h 3, .inl (k 0, 144, .inl sl)), (h 4, .inl (k 1, 2, .inl kp)), (h 5, .inl (k 0, 432, .inl sv)), (h 6, .inl (k 0, 60, .inl tx))]) := hD
  refine lv_iload_n hx hb dX5_holds_5 rfl (lv_at hl 1 rfl) ?_
  refine lv_if_ne (tgt := 13) hx hb dX5_holds_6 (by decide) (fun c_1 => ?_) (fun c_1 => ?_)
  · refine lv_iconst (v := 0) hx hb dX5_holds_13 (by decide) ?_
    subst hQ
    exact rt_z hx hb hr hlocks hS dX5_holds_14 (hP) (rfl) (by simp [bI, c_1])
  · refine lv_iconst (v := 1) hx hb dX5_holds_9 (by decide) ?_
    refine lv_goto (tgt := 14) hx hb dX5_holds_10 (by decide) ?_
    subst hQ
    exact rt_z hx hb hr hlocks hS dX5_holds_14 (hP) (rfl) (by simp [bI, c_1])

set_option maxHeartbeats 1000000 in
set_option maxRecDepth 100000 in
theorem c_X5_putAside (l : Launch) (D : va_G) (k : Nat → ClassId) (h : Nat → Nat) (th : Int32) (f asd sl kp sv : Nat → Int32) (sm : Int32) (tx : Nat → Int32) (ln : Int32) (dg : Int64)  : MV l yX5_putAside wsX5_putAside ({ frames := 0, cells := 0, slots := 0, locals := 0 }) D k [.ref (h 0)] (wMo k h th f asd sl kp sv sm tx ln dg) (wMo k h th f f sl kp sv sm tx ln dg) := by
  intro sz
  refine Met.ofW (cc := cX5_putAside) (maxL := 2) (ret := none) (by decide) rfl ?_
  intro p e s m args below meth c s₁ B hml hv
  obtain ⟨rfl, hN, hsz, hP, hK, hD0⟩ := hv
  have hx := B.exec
  have hb := B.bytes
  have hr := B.returns
  have hts := atoms_spec (ws := wsX5_putAside) B.pre
  have hown : s.vm.findClass RX5 = some m.cls := findClass_of_methodNamed B.named
  have hlocks := B.notSynchronized
  subst hsz
  have hD := hD0.self (sz := s.heap.size)
  generalize hAe : va_A (wMo k h th f asd sl kp sv sm tx ln dg) s.heap.size = A at hD ⊢
  have hA : ∀ q : Nat, s.heap.size ≤ q → A q := fun q h => by rw [← hAe]; exact Or.inr h
  have hS : va_S A s.heap s.heap [] := va_S.rf
  have hl := lv_entry ([.ref (h 0)]) (n := 2) (Nat.le_of_ble_eq_true rfl)
  rw [lg_entry_eq]
  generalize (lg_sl ([.ref (h 0)]) ++ List.replicate (2 - (lg_sl ([.ref (h 0)])).length) Slot.unset).toArray = ls at hl ⊢
  have hl : lv_has ls 2 [(0, .ref (h 0))] := hl
  obtain ⟨H, hHe⟩ : ∃ H, H = s.heap := ⟨_, rfl⟩
  have hP : va_P D vwCl (wMo k h th f asd sl kp sv sm tx ln dg) H := by rw [hHe]; exact hP
  have hS : va_S A s.heap H [] := by rw [hHe]; exact hS
  rw [← hHe]
  refine absQ (fun Q hQ => ?_)
  refine lv_iconst (v := 0) hx hb dX5_putAside_0 (by decide) ?_
  refine lv_istore_n (lv' := [(1, .int 0), (0, .ref (h 0))]) hx hb dX5_putAside_1 rfl hl (by decide) rfl (fun ls hl => ?_)
  suffices LOOP_i : ∀ (fu_i i : Nat) (g : Nat → Int32), 72 - i < fu_i → i ≤ 72 → g = fil f asd i → ∀ (H : Heap) (locs : List Loc) (ls : Array Slot), va_P D vwCl ([(h 0, .inr (5, [.int th, .ref (h 1), .ref (h 2), .ref (h 3), .ref (h 4), .ref (h 5), .int sm, .ref (h 6), .int ln, .long dg])), (h 1, .inl (k 0, 72, .inl f)), (h 2, .inl (k 0, 72, .inl g)), (h 3, .inl (k 0, 144, .inl sl)), (h 4, .inl (k 1, 2, .inl kp)), (h 5, .inl (k 0, 432, .inl sv)), (h 6, .inl (k 0, 60, .inl tx))]) H → va_D A ([(h 0, .inr (5, [.int th, .ref (h 1), .ref (h 2), .ref (h 3), .ref (h 4), .ref (h 5), .int sm, .ref (h 6), .int ln, .long dg])), (h 1, .inl (k 0, 72, .inl f)), (h 2, .inl (k 0, 72, .inl g)), (h 3, .inl (k 0, 144, .inl sl)), (h 4, .inl (k 1, 2, .inl kp)), (h 5, .inl (k 0, 432, .inl sv)), (h 6, .inl (k 0, 60, .inl tx))]) → va_S A s.heap H locs → lv_has ls 2 [(1, .int (nI i)), (0, .ref (h 0))] → W p l e ({ frames := 0, cells := 0, slots := 0, locals := 0 } : Room) s m ([.ref (h 0)] : List Value).toArray below meth c H locs 0 0 Q (F0 m 2 ls []) from LOOP_i (72 + 1) 0 asd (by omega) (by omega) ((fil_0 _ _).symm)  _ _ _ hP hD hS (lv_sub hl [0, 1] rfl)
  clear hP hD hS hl hHe
  intro fu_i
  induction fu_i with
  | zero => intro i g hn_i; omega
  | succ fu_i ih_i =>
    intro i g hn_i hle_i e_g  H locs ls hP hD hS hl
    refine lv_iload_n hx hb dX5_putAside_2 rfl (lv_at hl 0 rfl) ?_
    refine lv_bipush (v := 72) hx hb dX5_putAside_3 (by decide) ?_
    refine lv_icmp_ge (tgt := 26) hx hb dX5_putAside_5 (by decide) (fun c_1 => ?_) (fun c_1 => ?_)
    · have c_1 : 72 ≤ i := (nI_leI (a := 72) (b := i) (by omega) (by omega)).mp c_1
      have hz_i : 72 = i := by omega
      subst hz_i
      subst e_g
      have hP : va_P D vwCl ([(h 0, .inr (5, [.int th, .ref (h 1), .ref (h 2), .ref (h 3), .ref (h 4), .ref (h 5), .int sm, .ref (h 6), .int ln, .long dg])), (h 1, .inl (k 0, 72, .inl f)), (h 2, .inl (k 0, 72, .inl f)), (h 3, .inl (k 0, 144, .inl sl)), (h 4, .inl (k 1, 2, .inl kp)), (h 5, .inl (k 0, 432, .inl sv)), (h 6, .inl (k 0, 60, .inl tx))]) H := va_P.ext hP hD 2 rfl f (fil_in _ _ _)
      have hD : va_D A ([(h 0, .inr (5, [.int th, .ref (h 1), .ref (h 2), .ref (h 3), .ref (h 4), .ref (h 5), .int sm, .ref (h 6), .int ln, .long dg])), (h 1, .inl (k 0, 72, .inl f)), (h 2, .inl (k 0, 72, .inl f)), (h 3, .inl (k 0, 144, .inl sl)), (h 4, .inl (k 1, 2, .inl kp)), (h 5, .inl (k 0, 432, .inl sv)), (h 6, .inl (k 0, 60, .inl tx))]) := hD.addr rfl
      subst hQ
      exact rt_v hx hb hr hlocks hS dX5_putAside_26 (hP)
    · have c_1 : ¬ (72 ≤ i) := fun h9 => c_1 ((nI_leI (a := 72) (b := i) (by omega) (by omega)).mpr h9)
      refine lv_aload_n hx hb dX5_putAside_8 rfl (lv_at hl 1 rfl) ?_
      refine va_get (D := D) (ci := 5) (v := .ref (h 2)) (C := RX5) (T := TX5) (N := 10) hx hb hts (fun _ h9 => (List.mem_cons_of_mem _ (List.mem_append_right _ h9))) hown hK hP 0 rfl rfl 2 (by decide) (hts _ (List.mem_of_getElem? (i := 1) rfl)) (fun _ h9 => h9) rfl dX5_putAside_9 ?_
      refine lv_iload_n hx hb dX5_putAside_12 rfl (lv_at hl 0 rfl) ?_
      refine lv_aload_n hx hb dX5_putAside_13 rfl (lv_at hl 1 rfl) ?_
      refine va_get (D := D) (ci := 5) (v := .ref (h 1)) (C := RX5) (T := TX5) (N := 10) hx hb hts (fun _ h9 => (List.mem_cons_of_mem _ (List.mem_append_right _ h9))) hown hK hP 0 rfl rfl 1 (by decide) (hts _ (List.mem_of_getElem? (i := 2) rfl)) (fun _ h9 => h9) rfl dX5_putAside_14 ?_
      refine lv_iload_n hx hb dX5_putAside_17 rfl (lv_at hl 0 rfl) ?_
      refine ar_ld hx hb hK hP 1 rfl i (nI_clamp (by omega)) (vp_in_nI (by omega) (by omega)) dX5_putAside_18 ?_
      refine ar_st hx hb hK hP hD hS 2 rfl i (nI_clamp (by omega)) (vp_in_nI (by omega) (by omega)) dX5_putAside_19 (wn := [(h 0, .inr (5, [.int th, .ref (h 1), .ref (h 2), .ref (h 3), .ref (h 4), .ref (h 5), .int sm, .ref (h 6), .int ln, .long dg])), (h 1, .inl (k 0, 72, .inl f)), (h 2, .inl (k 0, 72, .inl (upd g i (f i)))), (h 3, .inl (k 0, 144, .inl sl)), (h 4, .inl (k 1, 2, .inl kp)), (h 5, .inl (k 0, 432, .inl sv)), (h 6, .inl (k 0, 60, .inl tx))]) rfl (fun H locs hP hD hS => ?_)
      refine lv_iinc (v := (nI (i + 1))) (lv' := [(1, .int (nI (i + 1))), (0, .ref (h 0))]) hx hb dX5_putAside_20 hl (k := 0) rfl (nI_1 i) (by decide) rfl (fun ls hl => ?_)
      refine lv_goto (tgt := 2) hx hb dX5_putAside_23 (by decide) ?_
      exact ih_i (i + 1) (upd g i (f i)) (by omega) (by omega) (by rw [e_g]; exact fil_s f asd i)  _ _ _ hP hD hS (lv_sub hl [0, 1] rfl)

set_option maxHeartbeats 1000000 in
set_option maxRecDepth 100000 in
theorem c_X5_putBack (l : Launch) (D : va_G) (k : Nat → ClassId) (h : Nat → Nat) (th : Int32) (f asd sl kp sv : Nat → Int32) (sm : Int32) (tx : Nat → Int32) (ln : Int32) (dg : Int64)  : MV l yX5_putBack wsX5_putBack ({ frames := 0, cells := 0, slots := 0, locals := 0 }) D k [.ref (h 0)] (wMo k h th f asd sl kp sv sm tx ln dg) (wMo k h th asd asd sl kp sv sm tx ln dg) := by
  intro sz
  refine Met.ofW (cc := cX5_putBack) (maxL := 2) (ret := none) (by decide) rfl ?_
  intro p e s m args below meth c s₁ B hml hv
  obtain ⟨rfl, hN, hsz, hP, hK, hD0⟩ := hv
  have hx := B.exec
  have hb := B.bytes
  have hr := B.returns
  have hts := atoms_spec (ws := wsX5_putBack) B.pre
  have hown : s.vm.findClass RX5 = some m.cls := findClass_of_methodNamed B.named
  have hlocks := B.notSynchronized
  subst hsz
  have hD := hD0.self (sz := s.heap.size)
  generalize hAe : va_A (wMo k h th f asd sl kp sv sm tx ln dg) s.heap.size = A at hD ⊢
  have hA : ∀ q : Nat, s.heap.size ≤ q → A q := fun q h => by rw [← hAe]; exact Or.inr h
  have hS : va_S A s.heap s.heap [] := va_S.rf
  have hl := lv_entry ([.ref (h 0)]) (n := 2) (Nat.le_of_ble_eq_true rfl)
  rw [lg_entry_eq]
  generalize (lg_sl ([.ref (h 0)]) ++ List.replicate (2 - (lg_sl ([.ref (h 0)])).length) Slot.unset).toArray = ls at hl ⊢
  have hl : lv_has ls 2 [(0, .ref (h 0))] := hl
  obtain ⟨H, hHe⟩ : ∃ H, H = s.heap := ⟨_, rfl⟩
  have hP : va_P D vwCl (wMo k h th f asd sl kp sv sm tx ln dg) H := by rw [hHe]; exact hP
  have hS : va_S A s.heap H [] := by rw [hHe]; exact hS
  rw [← hHe]
  refine absQ (fun Q hQ => ?_)
  refine lv_iconst (v := 0) hx hb dX5_putBack_0 (by decide) ?_
  refine lv_istore_n (lv' := [(1, .int 0), (0, .ref (h 0))]) hx hb dX5_putBack_1 rfl hl (by decide) rfl (fun ls hl => ?_)
  suffices LOOP_i : ∀ (fu_i i : Nat) (g : Nat → Int32), 72 - i < fu_i → i ≤ 72 → g = fil asd f i → ∀ (H : Heap) (locs : List Loc) (ls : Array Slot), va_P D vwCl ([(h 0, .inr (5, [.int th, .ref (h 1), .ref (h 2), .ref (h 3), .ref (h 4), .ref (h 5), .int sm, .ref (h 6), .int ln, .long dg])), (h 1, .inl (k 0, 72, .inl g)), (h 2, .inl (k 0, 72, .inl asd)), (h 3, .inl (k 0, 144, .inl sl)), (h 4, .inl (k 1, 2, .inl kp)), (h 5, .inl (k 0, 432, .inl sv)), (h 6, .inl (k 0, 60, .inl tx))]) H → va_D A ([(h 0, .inr (5, [.int th, .ref (h 1), .ref (h 2), .ref (h 3), .ref (h 4), .ref (h 5), .int sm, .ref (h 6), .int ln, .long dg])), (h 1, .inl (k 0, 72, .inl g)), (h 2, .inl (k 0, 72, .inl asd)), (h 3, .inl (k 0, 144, .inl sl)), (h 4, .inl (k 1, 2, .inl kp)), (h 5, .inl (k 0, 432, .inl sv)), (h 6, .inl (k 0, 60, .inl tx))]) → va_S A s.heap H locs → lv_has ls 2 [(1, .int (nI i)), (0, .ref (h 0))] → W p l e ({ frames := 0, cells := 0, slots := 0, locals := 0 } : Room) s m ([.ref (h 0)] : List Value).toArray below meth c H locs 0 0 Q (F0 m 2 ls []) from LOOP_i (72 + 1) 0 f (by omega) (by omega) ((fil_0 _ _).symm)  _ _ _ hP hD hS (lv_sub hl [0, 1] rfl)
  clear hP hD hS hl hHe
  intro fu_i
  induction fu_i with
  | zero => intro i g hn_i; omega
  | succ fu_i ih_i =>
    intro i g hn_i hle_i e_g  H locs ls hP hD hS hl
    refine lv_iload_n hx hb dX5_putBack_2 rfl (lv_at hl 0 rfl) ?_
    refine lv_bipush (v := 72) hx hb dX5_putBack_3 (by decide) ?_
    refine lv_icmp_ge (tgt := 26) hx hb dX5_putBack_5 (by decide) (fun c_1 => ?_) (fun c_1 => ?_)
    · have c_1 : 72 ≤ i := (nI_leI (a := 72) (b := i) (by omega) (by omega)).mp c_1
      have hz_i : 72 = i := by omega
      subst hz_i
      subst e_g
      have hP : va_P D vwCl ([(h 0, .inr (5, [.int th, .ref (h 1), .ref (h 2), .ref (h 3), .ref (h 4), .ref (h 5), .int sm, .ref (h 6), .int ln, .long dg])), (h 1, .inl (k 0, 72, .inl asd)), (h 2, .inl (k 0, 72, .inl asd)), (h 3, .inl (k 0, 144, .inl sl)), (h 4, .inl (k 1, 2, .inl kp)), (h 5, .inl (k 0, 432, .inl sv)), (h 6, .inl (k 0, 60, .inl tx))]) H := va_P.ext hP hD 1 rfl asd (fil_in _ _ _)
      have hD : va_D A ([(h 0, .inr (5, [.int th, .ref (h 1), .ref (h 2), .ref (h 3), .ref (h 4), .ref (h 5), .int sm, .ref (h 6), .int ln, .long dg])), (h 1, .inl (k 0, 72, .inl asd)), (h 2, .inl (k 0, 72, .inl asd)), (h 3, .inl (k 0, 144, .inl sl)), (h 4, .inl (k 1, 2, .inl kp)), (h 5, .inl (k 0, 432, .inl sv)), (h 6, .inl (k 0, 60, .inl tx))]) := hD.addr rfl
      subst hQ
      exact rt_v hx hb hr hlocks hS dX5_putBack_26 (hP)
    · have c_1 : ¬ (72 ≤ i) := fun h9 => c_1 ((nI_leI (a := 72) (b := i) (by omega) (by omega)).mpr h9)
      refine lv_aload_n hx hb dX5_putBack_8 rfl (lv_at hl 1 rfl) ?_
      refine va_get (D := D) (ci := 5) (v := .ref (h 1)) (C := RX5) (T := TX5) (N := 10) hx hb hts (fun _ h9 => (List.mem_cons_of_mem _ (List.mem_append_right _ h9))) hown hK hP 0 rfl rfl 1 (by decide) (hts _ (List.mem_of_getElem? (i := 1) rfl)) (fun _ h9 => h9) rfl dX5_putBack_9 ?_
      refine lv_iload_n hx hb dX5_putBack_12 rfl (lv_at hl 0 rfl) ?_
      refine lv_aload_n hx hb dX5_putBack_13 rfl (lv_at hl 1 rfl) ?_
      refine va_get (D := D) (ci := 5) (v := .ref (h 2)) (C := RX5) (T := TX5) (N := 10) hx hb hts (fun _ h9 => (List.mem_cons_of_mem _ (List.mem_append_right _ h9))) hown hK hP 0 rfl rfl 2 (by decide) (hts _ (List.mem_of_getElem? (i := 2) rfl)) (fun _ h9 => h9) rfl dX5_putBack_14 ?_
      refine lv_iload_n hx hb dX5_putBack_17 rfl (lv_at hl 0 rfl) ?_
      refine ar_ld hx hb hK hP 2 rfl i (nI_clamp (by omega)) (vp_in_nI (by omega) (by omega)) dX5_putBack_18 ?_
      refine ar_st hx hb hK hP hD hS 1 rfl i (nI_clamp (by omega)) (vp_in_nI (by omega) (by omega)) dX5_putBack_19 (wn := [(h 0, .inr (5, [.int th, .ref (h 1), .ref (h 2), .ref (h 3), .ref (h 4), .ref (h 5), .int sm, .ref (h 6), .int ln, .long dg])), (h 1, .inl (k 0, 72, .inl (upd g i (asd i)))), (h 2, .inl (k 0, 72, .inl asd)), (h 3, .inl (k 0, 144, .inl sl)), (h 4, .inl (k 1, 2, .inl kp)), (h 5, .inl (k 0, 432, .inl sv)), (h 6, .inl (k 0, 60, .inl tx))]) rfl (fun H locs hP hD hS => ?_)
      refine lv_iinc (v := (nI (i + 1))) (lv' := [(1, .int (nI (i + 1))), (0, .ref (h 0))]) hx hb dX5_putBack_20 hl (k := 0) rfl (nI_1 i) (by decide) rfl (fun ls hl => ?_)
      refine lv_goto (tgt := 2) hx hb dX5_putBack_23 (by decide) ?_
      exact ih_i (i + 1) (upd g i (asd i)) (by omega) (by omega) (by rw [e_g]; exact fil_s asd f i)  _ _ _ hP hD hS (lv_sub hl [0, 1] rfl)

set_option maxHeartbeats 1000000 in
set_option maxRecDepth 100000 in
theorem c_X5_weight (l : Launch) (D : va_G) (k : Nat → ClassId) (h : Nat → Nat) (th : Int32) (f asd sl kp sv : Nat → Int32) (sm : Int32) (tx : Nat → Int32) (ln : Int32) (dg : Int64) (x : Int32)  : MI l yX5_weight wsX5_weight ({ frames := 0, cells := 0, slots := 0, locals := 0 }) D k [.ref (h 0), .int x] (wMo k h th f asd sl kp sv sm tx ln dg) (wmF f x 9) (wMo k h th f asd sl kp sv sm tx ln dg) := by
  intro sz
  refine Met.ofW (cc := cX5_weight) (maxL := 4) (ret := (some .int)) (by decide) rfl ?_
  intro p e s m args below meth c s₁ B hml hv
  obtain ⟨rfl, hN, hsz, hP, hK, hD0⟩ := hv
  have hx := B.exec
  have hb := B.bytes
  have hr := B.returns
  have hts := atoms_spec (ws := wsX5_weight) B.pre
  have hown : s.vm.findClass RX5 = some m.cls := findClass_of_methodNamed B.named
  have hlocks := B.notSynchronized
  subst hsz
  have hD := hD0.self (sz := s.heap.size)
  generalize hAe : va_A (wMo k h th f asd sl kp sv sm tx ln dg) s.heap.size = A at hD ⊢
  have hA : ∀ q : Nat, s.heap.size ≤ q → A q := fun q h => by rw [← hAe]; exact Or.inr h
  have hS : va_S A s.heap s.heap [] := va_S.rf
  have hl := lv_entry ([.ref (h 0), .int x]) (n := 4) (Nat.le_of_ble_eq_true rfl)
  rw [lg_entry_eq]
  generalize (lg_sl ([.ref (h 0), .int x]) ++ List.replicate (4 - (lg_sl ([.ref (h 0), .int x])).length) Slot.unset).toArray = ls at hl ⊢
  have hl : lv_has ls 4 [(0, .ref (h 0)), (1, .int x)] := hl
  obtain ⟨H, hHe⟩ : ∃ H, H = s.heap := ⟨_, rfl⟩
  have hP : va_P D vwCl (wMo k h th f asd sl kp sv sm tx ln dg) H := by rw [hHe]; exact hP
  have hS : va_S A s.heap H [] := by rw [hHe]; exact hS
  rw [← hHe]
  refine absQ (fun Q hQ => ?_)
  refine lv_sipush (v := 1000) hx hb dX5_weight_0 (by decide) ?_
  refine lv_istore_n (lv' := [(2, .int 1000), (0, .ref (h 0)), (1, .int x)]) hx hb dX5_weight_3 rfl hl (by decide) rfl (fun ls hl => ?_)
  refine lv_iconst (v := 0) hx hb dX5_weight_4 (by decide) ?_
  refine lv_istore_n (lv' := [(3, .int 0), (2, .int 1000), (0, .ref (h 0)), (1, .int x)]) hx hb dX5_weight_5 rfl hl (by decide) rfl (fun ls hl => ?_)
  suffices LOOP_i : ∀ (fu_i i : Nat) (y : Int32), 9 - i < fu_i → i ≤ 9 → y = wmF f x i → ∀ (H : Heap) (locs : List Loc) (ls : Array Slot), va_P D vwCl (wMo k h th f asd sl kp sv sm tx ln dg) H → va_D A (wMo k h th f asd sl kp sv sm tx ln dg) → va_S A s.heap H locs → lv_has ls 4 [(3, .int (nI i)), (2, .int y), (0, .ref (h 0)), (1, .int x)] → W p l e ({ frames := 0, cells := 0, slots := 0, locals := 0 } : Room) s m ([.ref (h 0), .int x] : List Value).toArray below meth c H locs 0 0 Q (F0 m 6 ls []) from LOOP_i (9 + 1) 0 1000 (by omega) (by omega) (rfl)  _ _ _ hP hD hS (lv_sub hl [0, 1, 2, 3] rfl)
  clear hP hD hS hl hHe
  intro fu_i
  induction fu_i with
  | zero => intro i y hn_i; omega
  | succ fu_i ih_i =>
    intro i y hn_i hle_i e_y  H locs ls hP hD hS hl
    refine lv_iload_n hx hb dX5_weight_6 rfl (lv_at hl 0 rfl) ?_
    refine lv_bipush (v := 9) hx hb dX5_weight_7 (by decide) ?_
    refine lv_icmp_ge (tgt := 54) hx hb dX5_weight_9 (by decide) (fun c_1 => ?_) (fun c_1 => ?_)
    · have c_1 : 9 ≤ i := (nI_leI (a := 9) (b := i) (by omega) (by omega)).mp c_1
      have hz_i : 9 = i := by omega
      subst hz_i
      refine lv_iload_n hx hb dX5_weight_54 rfl (lv_at hl 1 rfl) ?_
      subst hQ
      exact rt_i hx hb hr hlocks hS dX5_weight_55 (hP) (e_y)
    · have c_1 : ¬ (9 ≤ i) := fun h9 => c_1 ((nI_leI (a := 9) (b := i) (by omega) (by omega)).mpr h9)
      refine lv_iload_n hx hb dX5_weight_12 rfl (lv_at hl 3 rfl) ?_
      refine lv_iload_n hx hb dX5_weight_13 rfl (lv_at hl 0 rfl) ?_
      refine lv_ishr hx hb dX5_weight_14 ?_
      refine lv_iconst (v := 1) hx hb dX5_weight_15 (by decide) ?_
      refine lv_iand hx hb dX5_weight_16 ?_
      refine lv_iconst (v := 1) hx hb dX5_weight_17 (by decide) ?_
      refine lv_icmp_ne (tgt := 46) hx hb dX5_weight_18 (by decide) (fun c_2 => ?_) (fun c_2 => ?_)
      · refine lv_iload_n hx hb dX5_weight_46 rfl (lv_at hl 1 rfl) ?_
        refine lv_istore_n (lv' := [(2, .int y), (3, .int (nI i)), (0, .ref (h 0)), (1, .int x)]) hx hb dX5_weight_47 rfl hl (by decide) rfl (fun ls hl => ?_)
        refine lv_iinc (v := (nI (i + 1))) (lv' := [(3, .int (nI (i + 1))), (2, .int y), (0, .ref (h 0)), (1, .int x)]) hx hb dX5_weight_48 hl (k := 1) rfl (nI_1 i) (by decide) rfl (fun ls hl => ?_)
        refine lv_goto (tgt := 6) hx hb dX5_weight_51 (by decide) ?_
        exact ih_i (i + 1) y (by omega) (by omega) (by rw [wmF, if_neg (show ¬ bitv x (nI i) = 1 from c_2), ← e_y])  _ _ _ hP hD hS (lv_sub hl [0, 1, 2, 3] rfl)
      · refine lv_aload_n hx hb dX5_weight_21 rfl (lv_at hl 2 rfl) ?_
        refine va_get (D := D) (ci := 5) (v := .ref (h 1)) (C := RX5) (T := TX5) (N := 10) hx hb hts (fun _ h9 => (List.mem_cons_of_mem _ (List.mem_append_right _ h9))) hown hK hP 0 rfl rfl 1 (by decide) (hts _ (List.mem_of_getElem? (i := 1) rfl)) (fun _ h9 => h9) rfl dX5_weight_22 ?_
        refine lv_bipush (v := 9) hx hb dX5_weight_25 (by decide) ?_
        refine lv_iload_n hx hb dX5_weight_27 rfl (lv_at hl 0 rfl) ?_
        refine lv_iadd hx hb dX5_weight_28 ?_
        refine tp_e (y := (nI (9 + i))) (nI_add 9 i) ?_
        refine ar_ld hx hb hK hP 1 rfl (9 + i) (nI_clamp (by omega)) (vp_in_nI (by omega) (by omega)) dX5_weight_29 ?_
        refine lv_iload_n hx hb dX5_weight_30 rfl (lv_at hl 1 rfl) ?_
        refine lv_icmp_ge (tgt := 46) hx hb dX5_weight_31 (by decide) (fun c_3 => ?_) (fun c_3 => ?_)
        · refine lv_iload_n hx hb dX5_weight_46 rfl (lv_at hl 1 rfl) ?_
          refine lv_istore_n (lv' := [(2, .int y), (3, .int (nI i)), (0, .ref (h 0)), (1, .int x)]) hx hb dX5_weight_47 rfl hl (by decide) rfl (fun ls hl => ?_)
          refine lv_iinc (v := (nI (i + 1))) (lv' := [(3, .int (nI (i + 1))), (2, .int y), (0, .ref (h 0)), (1, .int x)]) hx hb dX5_weight_48 hl (k := 1) rfl (nI_1 i) (by decide) rfl (fun ls hl => ?_)
          refine lv_goto (tgt := 6) hx hb dX5_weight_51 (by decide) ?_
          exact ih_i (i + 1) y (by omega) (by omega) (by rw [wmF, if_pos (show bitv x (nI i) = 1 from c_2), if_pos (by rw [← e_y]; exact c_3), ← e_y])  _ _ _ hP hD hS (lv_sub hl [0, 1, 2, 3] rfl)
        · refine lv_aload_n hx hb dX5_weight_34 rfl (lv_at hl 2 rfl) ?_
          refine va_get (D := D) (ci := 5) (v := .ref (h 1)) (C := RX5) (T := TX5) (N := 10) hx hb hts (fun _ h9 => (List.mem_cons_of_mem _ (List.mem_append_right _ h9))) hown hK hP 0 rfl rfl 1 (by decide) (hts _ (List.mem_of_getElem? (i := 1) rfl)) (fun _ h9 => h9) rfl dX5_weight_35 ?_
          refine lv_bipush (v := 9) hx hb dX5_weight_38 (by decide) ?_
          refine lv_iload_n hx hb dX5_weight_40 rfl (lv_at hl 0 rfl) ?_
          refine lv_iadd hx hb dX5_weight_41 ?_
          refine tp_e (y := (nI (9 + i))) (nI_add 9 i) ?_
          refine ar_ld hx hb hK hP 1 rfl (9 + i) (nI_clamp (by omega)) (vp_in_nI (by omega) (by omega)) dX5_weight_42 ?_
          refine lv_goto (tgt := 47) hx hb dX5_weight_43 (by decide) ?_
          refine lv_istore_n (lv' := [(2, .int (f (9 + i))), (3, .int (nI i)), (0, .ref (h 0)), (1, .int x)]) hx hb dX5_weight_47 rfl hl (by decide) rfl (fun ls hl => ?_)
          refine lv_iinc (v := (nI (i + 1))) (lv' := [(3, .int (nI (i + 1))), (2, .int (f (9 + i))), (0, .ref (h 0)), (1, .int x)]) hx hb dX5_weight_48 hl (k := 1) rfl (nI_1 i) (by decide) rfl (fun ls hl => ?_)
          refine lv_goto (tgt := 6) hx hb dX5_weight_51 (by decide) ?_
          exact ih_i (i + 1) (f (9 + i)) (by omega) (by omega) (by rw [wmF, if_pos (show bitv x (nI i) = 1 from c_2), if_neg (by rw [← e_y]; exact c_3)])  _ _ _ hP hD hS (lv_sub hl [0, 1, 2, 3] rfl)

set_option maxHeartbeats 1000000 in
set_option maxRecDepth 100000 in
theorem c_X5_behind (l : Launch) (D : va_G) (k : Nat → ClassId) (h : Nat → Nat) (th : Int32) (f asd sl kp sv : Nat → Int32) (sm : Int32) (tx : Nat → Int32) (ln : Int32) (dg : Int64) (q : Nat) (hq : q < 9) : MI l yX5_behind wsX5_behind ({ frames := 0, cells := 0, slots := 0, locals := 0 }) D k [.ref (h 0), .int (nI q)] (wMo k h th f asd sl kp sv sm tx ln dg) (bmF f q (9 - (q + 1))) (wMo k h th f asd sl kp sv sm tx ln dg) := by
  intro sz
  refine Met.ofW (cc := cX5_behind) (maxL := 4) (ret := (some .int)) (by decide) rfl ?_
  intro p e s m args below meth c s₁ B hml hv
  obtain ⟨rfl, hN, hsz, hP, hK, hD0⟩ := hv
  have hx := B.exec
  have hb := B.bytes
  have hr := B.returns
  have hts := atoms_spec (ws := wsX5_behind) B.pre
  have hown : s.vm.findClass RX5 = some m.cls := findClass_of_methodNamed B.named
  have hlocks := B.notSynchronized
  subst hsz
  have hD := hD0.self (sz := s.heap.size)
  generalize hAe : va_A (wMo k h th f asd sl kp sv sm tx ln dg) s.heap.size = A at hD ⊢
  have hA : ∀ q : Nat, s.heap.size ≤ q → A q := fun q h => by rw [← hAe]; exact Or.inr h
  have hS : va_S A s.heap s.heap [] := va_S.rf
  have hl := lv_entry ([.ref (h 0), .int (nI q)]) (n := 4) (Nat.le_of_ble_eq_true rfl)
  rw [lg_entry_eq]
  generalize (lg_sl ([.ref (h 0), .int (nI q)]) ++ List.replicate (4 - (lg_sl ([.ref (h 0), .int (nI q)])).length) Slot.unset).toArray = ls at hl ⊢
  have hl : lv_has ls 4 [(0, .ref (h 0)), (1, .int (nI q))] := hl
  obtain ⟨H, hHe⟩ : ∃ H, H = s.heap := ⟨_, rfl⟩
  have hP : va_P D vwCl (wMo k h th f asd sl kp sv sm tx ln dg) H := by rw [hHe]; exact hP
  have hS : va_S A s.heap H [] := by rw [hHe]; exact hS
  rw [← hHe]
  refine absQ (fun Q hQ => ?_)
  refine lv_aload_n hx hb dX5_behind_0 rfl (lv_at hl 0 rfl) ?_
  refine va_get (D := D) (ci := 5) (v := .ref (h 1)) (C := RX5) (T := TX5) (N := 10) hx hb hts (fun _ h9 => (List.mem_cons_of_mem _ (List.mem_append_right _ h9))) hown hK hP 0 rfl rfl 1 (by decide) (hts _ (List.mem_of_getElem? (i := 1) rfl)) (fun _ h9 => h9) rfl dX5_behind_1 ?_
  refine lv_bipush (v := 27) hx hb dX5_behind_4 (by decide) ?_
  refine lv_iload_n hx hb dX5_behind_6 rfl (lv_at hl 1 rfl) ?_
  refine lv_iadd hx hb dX5_behind_7 ?_
  refine tp_e (y := (nI (27 + q))) (nI_add 27 q) ?_
  refine ar_ld hx hb hK hP 1 rfl (27 + q) (nI_clamp (by omega)) (vp_in_nI (by omega) (by omega)) dX5_behind_8 ?_
  refine lv_istore_n (lv' := [(2, .int (f (27 + q))), (0, .ref (h 0)), (1, .int (nI q))]) hx hb dX5_behind_9 rfl hl (by decide) rfl (fun ls hl => ?_)
  refine lv_iload_n hx hb dX5_behind_10 rfl (lv_at hl 2 rfl) ?_
  refine lv_iconst (v := 1) hx hb dX5_behind_11 (by decide) ?_
  refine lv_iadd hx hb dX5_behind_12 ?_
  refine tp_e (y := (nI (q + 1))) (nI_add q 1) ?_
  refine lv_istore_n (lv' := [(3, .int (nI (q + 1))), (2, .int (f (27 + q))), (0, .ref (h 0)), (1, .int (nI q))]) hx hb dX5_behind_13 rfl hl (by decide) rfl (fun ls hl => ?_)
  suffices LOOP_i : ∀ (fu_i i : Nat) (y : Int32), 9 - i < fu_i → i ≤ 9 → y = bmF f q (i - (q + 1)) → ((q + 1) ≤ i) → ∀ (H : Heap) (locs : List Loc) (ls : Array Slot), va_P D vwCl (wMo k h th f asd sl kp sv sm tx ln dg) H → va_D A (wMo k h th f asd sl kp sv sm tx ln dg) → va_S A s.heap H locs → lv_has ls 4 [(3, .int (nI i)), (2, .int y), (0, .ref (h 0)), (1, .int (nI q))] → W p l e ({ frames := 0, cells := 0, slots := 0, locals := 0 } : Room) s m ([.ref (h 0), .int (nI q)] : List Value).toArray below meth c H locs 0 0 Q (F0 m 14 ls []) from LOOP_i (9 + 1) (q + 1) (f (27 + q)) (by omega) (by omega) (by rw [show q + 1 - (q + 1) = 0 from by omega, bmF]) (by omega) _ _ _ hP hD hS (lv_sub hl [0, 1, 2, 3] rfl)
  clear hP hD hS hl hHe
  intro fu_i
  induction fu_i with
  | zero => intro i y hn_i; omega
  | succ fu_i ih_i =>
    intro i y hn_i hle_i e_y hlo_i H locs ls hP hD hS hl
    refine lv_iload_n hx hb dX5_behind_14 rfl (lv_at hl 0 rfl) ?_
    refine lv_bipush (v := 9) hx hb dX5_behind_15 (by decide) ?_
    refine lv_icmp_ge (tgt := 51) hx hb dX5_behind_17 (by decide) (fun c_1 => ?_) (fun c_1 => ?_)
    · have c_1 : 9 ≤ i := (nI_leI (a := 9) (b := i) (by omega) (by omega)).mp c_1
      have hz_i : 9 = i := by omega
      subst hz_i
      refine lv_iload_n hx hb dX5_behind_51 rfl (lv_at hl 1 rfl) ?_
      subst hQ
      exact rt_i hx hb hr hlocks hS dX5_behind_52 (hP) (e_y)
    · have c_1 : ¬ (9 ≤ i) := fun h9 => c_1 ((nI_leI (a := 9) (b := i) (by omega) (by omega)).mpr h9)
      refine lv_iload_n hx hb dX5_behind_20 rfl (lv_at hl 1 rfl) ?_
      refine lv_iload_n hx hb dX5_behind_21 rfl (lv_at hl 1 rfl) ?_
      refine lv_iload_n hx hb dX5_behind_22 rfl (lv_at hl 0 rfl) ?_
      refine lv_ishr hx hb dX5_behind_23 ?_
      refine lv_iconst (v := 1) hx hb dX5_behind_24 (by decide) ?_
      refine lv_iand hx hb dX5_behind_25 ?_
      refine lv_iconst (v := 1) hx hb dX5_behind_26 (by decide) ?_
      refine lv_icmp_ne (tgt := 42) hx hb dX5_behind_27 (by decide) (fun c_2 => ?_) (fun c_2 => ?_)
      · refine lv_iconst (v := 0) hx hb dX5_behind_42 (by decide) ?_
        refine lv_ior hx hb dX5_behind_43 ?_
        refine lv_istore_n (lv' := [(2, .int (y ||| 0)), (3, .int (nI i)), (0, .ref (h 0)), (1, .int (nI q))]) hx hb dX5_behind_44 rfl hl (by decide) rfl (fun ls hl => ?_)
        refine lv_iinc (v := (nI (i + 1))) (lv' := [(3, .int (nI (i + 1))), (2, .int (y ||| 0)), (0, .ref (h 0)), (1, .int (nI q))]) hx hb dX5_behind_45 hl (k := 1) rfl (nI_1 i) (by decide) rfl (fun ls hl => ?_)
        refine lv_goto (tgt := 14) hx hb dX5_behind_48 (by decide) ?_
        exact ih_i (i + 1) (y ||| 0) (by omega) (by omega) (by rw [bmF_s _ (show q + 1 ≤ i from by omega), ← e_y, if_neg (show ¬ bitv y (nI i) = 1 from c_2)]) (by omega) _ _ _ hP hD hS (lv_sub hl [0, 1, 2, 3] rfl)
      · refine lv_aload_n hx hb dX5_behind_30 rfl (lv_at hl 2 rfl) ?_
        refine va_get (D := D) (ci := 5) (v := .ref (h 1)) (C := RX5) (T := TX5) (N := 10) hx hb hts (fun _ h9 => (List.mem_cons_of_mem _ (List.mem_append_right _ h9))) hown hK hP 0 rfl rfl 1 (by decide) (hts _ (List.mem_of_getElem? (i := 1) rfl)) (fun _ h9 => h9) rfl dX5_behind_31 ?_
        refine lv_bipush (v := 27) hx hb dX5_behind_34 (by decide) ?_
        refine lv_iload_n hx hb dX5_behind_36 rfl (lv_at hl 0 rfl) ?_
        refine lv_iadd hx hb dX5_behind_37 ?_
        refine tp_e (y := (nI (27 + i))) (nI_add 27 i) ?_
        refine ar_ld hx hb hK hP 1 rfl (27 + i) (nI_clamp (by omega)) (vp_in_nI (by omega) (by omega)) dX5_behind_38 ?_
        refine lv_goto (tgt := 43) hx hb dX5_behind_39 (by decide) ?_
        refine lv_ior hx hb dX5_behind_43 ?_
        refine lv_istore_n (lv' := [(2, .int (y ||| (f (27 + i)))), (3, .int (nI i)), (0, .ref (h 0)), (1, .int (nI q))]) hx hb dX5_behind_44 rfl hl (by decide) rfl (fun ls hl => ?_)
        refine lv_iinc (v := (nI (i + 1))) (lv' := [(3, .int (nI (i + 1))), (2, .int (y ||| (f (27 + i)))), (0, .ref (h 0)), (1, .int (nI q))]) hx hb dX5_behind_45 hl (k := 1) rfl (nI_1 i) (by decide) rfl (fun ls hl => ?_)
        refine lv_goto (tgt := 14) hx hb dX5_behind_48 (by decide) ?_
        exact ih_i (i + 1) (y ||| (f (27 + i))) (by omega) (by omega) (by rw [bmF_s _ (show q + 1 ≤ i from by omega), ← e_y, if_pos (show bitv y (nI i) = 1 from c_2)]) (by omega) _ _ _ hP hD hS (lv_sub hl [0, 1, 2, 3] rfl)

set_option maxHeartbeats 1000000 in
set_option maxRecDepth 100000 in
theorem c_X5_anew (l : Launch) (D : va_G) (k : Nat → ClassId) (h : Nat → Nat) (th : Int32) (f asd sl kp sv : Nat → Int32) (sm : Int32) (tx : Nat → Int32) (ln : Int32) (dg : Int64)  : MV l yX5_anew wsX5_anew ({ frames := 0, cells := 0, slots := 0, locals := 0 }) D k [.ref (h 0)] (wMo k h th f asd sl kp sv sm tx ln dg) (wMo k h th (anM f) asd sl kp sv sm tx ln dg) := by
  intro sz
  refine Met.ofW (cc := cX5_anew) (maxL := 2) (ret := none) (by decide) rfl ?_
  intro p e s m args below meth c s₁ B hml hv
  obtain ⟨rfl, hN, hsz, hP, hK, hD0⟩ := hv
  have hx := B.exec
  have hb := B.bytes
  have hr := B.returns
  have hts := atoms_spec (ws := wsX5_anew) B.pre
  have hown : s.vm.findClass RX5 = some m.cls := findClass_of_methodNamed B.named
  have hlocks := B.notSynchronized
  subst hsz
  have hD := hD0.self (sz := s.heap.size)
  generalize hAe : va_A (wMo k h th f asd sl kp sv sm tx ln dg) s.heap.size = A at hD ⊢
  have hA : ∀ q : Nat, s.heap.size ≤ q → A q := fun q h => by rw [← hAe]; exact Or.inr h
  have hS : va_S A s.heap s.heap [] := va_S.rf
  have hl := lv_entry ([.ref (h 0)]) (n := 2) (Nat.le_of_ble_eq_true rfl)
  rw [lg_entry_eq]
  generalize (lg_sl ([.ref (h 0)]) ++ List.replicate (2 - (lg_sl ([.ref (h 0)])).length) Slot.unset).toArray = ls at hl ⊢
  have hl : lv_has ls 2 [(0, .ref (h 0))] := hl
  obtain ⟨H, hHe⟩ : ∃ H, H = s.heap := ⟨_, rfl⟩
  have hP : va_P D vwCl (wMo k h th f asd sl kp sv sm tx ln dg) H := by rw [hHe]; exact hP
  have hS : va_S A s.heap H [] := by rw [hHe]; exact hS
  rw [← hHe]
  refine absQ (fun Q hQ => ?_)
  refine lv_iconst (v := 0) hx hb dX5_anew_0 (by decide) ?_
  refine lv_istore_n (lv' := [(1, .int 0), (0, .ref (h 0))]) hx hb dX5_anew_1 rfl hl (by decide) rfl (fun ls hl => ?_)
  suffices LOOP_i : ∀ (fu_i i : Nat) (g : Nat → Int32), 9 - i < fu_i → i ≤ 9 → g = bkF f f 9 i → ∀ (H : Heap) (locs : List Loc) (ls : Array Slot), va_P D vwCl ([(h 0, .inr (5, [.int th, .ref (h 1), .ref (h 2), .ref (h 3), .ref (h 4), .ref (h 5), .int sm, .ref (h 6), .int ln, .long dg])), (h 1, .inl (k 0, 72, .inl g)), (h 2, .inl (k 0, 72, .inl asd)), (h 3, .inl (k 0, 144, .inl sl)), (h 4, .inl (k 1, 2, .inl kp)), (h 5, .inl (k 0, 432, .inl sv)), (h 6, .inl (k 0, 60, .inl tx))]) H → va_D A ([(h 0, .inr (5, [.int th, .ref (h 1), .ref (h 2), .ref (h 3), .ref (h 4), .ref (h 5), .int sm, .ref (h 6), .int ln, .long dg])), (h 1, .inl (k 0, 72, .inl g)), (h 2, .inl (k 0, 72, .inl asd)), (h 3, .inl (k 0, 144, .inl sl)), (h 4, .inl (k 1, 2, .inl kp)), (h 5, .inl (k 0, 432, .inl sv)), (h 6, .inl (k 0, 60, .inl tx))]) → va_S A s.heap H locs → lv_has ls 2 [(1, .int (nI i)), (0, .ref (h 0))] → W p l e ({ frames := 0, cells := 0, slots := 0, locals := 0 } : Room) s m ([.ref (h 0)] : List Value).toArray below meth c H locs 0 0 Q (F0 m 2 ls []) from LOOP_i (9 + 1) 0 f (by omega) (by omega) ((bkF_0 _ _ _).symm)  _ _ _ hP hD hS (lv_sub hl [0, 1] rfl)
  clear hP hD hS hl hHe
  intro fu_i
  induction fu_i with
  | zero => intro i g hn_i; omega
  | succ fu_i ih_i =>
    intro i g hn_i hle_i e_g  H locs ls hP hD hS hl
    refine lv_iload_n hx hb dX5_anew_2 rfl (lv_at hl 0 rfl) ?_
    refine lv_bipush (v := 9) hx hb dX5_anew_3 (by decide) ?_
    refine lv_icmp_ge (tgt := 31) hx hb dX5_anew_5 (by decide) (fun c_1 => ?_) (fun c_1 => ?_)
    · have c_1 : 9 ≤ i := (nI_leI (a := 9) (b := i) (by omega) (by omega)).mp c_1
      have hz_i : 9 = i := by omega
      subst hz_i
      subst e_g
      refine lv_bipush (v := 45) hx hb dX5_anew_31 (by decide) ?_
      refine lv_istore_n (lv' := [(1, .int 45), (0, .ref (h 0))]) hx hb dX5_anew_33 rfl hl (by decide) rfl (fun ls hl => ?_)
      suffices LOOP_j : ∀ (fu_j j : Nat) (g2 : Nat → Int32), 70 - j < fu_j → j ≤ 70 → g2 = bkF (bkF f f 9 9) (fun _ => 0) 45 (j - 45) → (45 ≤ j) → ∀ (H : Heap) (locs : List Loc) (ls : Array Slot), va_P D vwCl ([(h 0, .inr (5, [.int th, .ref (h 1), .ref (h 2), .ref (h 3), .ref (h 4), .ref (h 5), .int sm, .ref (h 6), .int ln, .long dg])), (h 1, .inl (k 0, 72, .inl g2)), (h 2, .inl (k 0, 72, .inl asd)), (h 3, .inl (k 0, 144, .inl sl)), (h 4, .inl (k 1, 2, .inl kp)), (h 5, .inl (k 0, 432, .inl sv)), (h 6, .inl (k 0, 60, .inl tx))]) H → va_D A ([(h 0, .inr (5, [.int th, .ref (h 1), .ref (h 2), .ref (h 3), .ref (h 4), .ref (h 5), .int sm, .ref (h 6), .int ln, .long dg])), (h 1, .inl (k 0, 72, .inl g2)), (h 2, .inl (k 0, 72, .inl asd)), (h 3, .inl (k 0, 144, .inl sl)), (h 4, .inl (k 1, 2, .inl kp)), (h 5, .inl (k 0, 432, .inl sv)), (h 6, .inl (k 0, 60, .inl tx))]) → va_S A s.heap H locs → lv_has ls 2 [(1, .int (nI j)), (0, .ref (h 0))] → W p l e ({ frames := 0, cells := 0, slots := 0, locals := 0 } : Room) s m ([.ref (h 0)] : List Value).toArray below meth c H locs 0 0 Q (F0 m 34 ls []) from LOOP_j (70 + 1) 45 (bkF f f 9 9) (by omega) (by omega) ((bkF_0 _ _ _).symm) (by omega) _ _ _ hP hD hS (lv_sub hl [0, 1] rfl)
      clear hP hD hS hl
      intro fu_j
      induction fu_j with
      | zero => intro j g2 hn_j; omega
      | succ fu_j ih_j =>
        intro j g2 hn_j hle_j e_g2 hlo_j H locs ls hP hD hS hl
        refine lv_iload_n hx hb dX5_anew_34 rfl (lv_at hl 0 rfl) ?_
        refine lv_bipush (v := 70) hx hb dX5_anew_35 (by decide) ?_
        refine lv_icmp_ge (tgt := 53) hx hb dX5_anew_37 (by decide) (fun c_2 => ?_) (fun c_2 => ?_)
        · have c_2 : 70 ≤ j := (nI_leI (a := 70) (b := j) (by omega) (by omega)).mp c_2
          have hz_j : 70 = j := by omega
          subst hz_j
          subst e_g2
          subst hQ
          exact rt_v hx hb hr hlocks hS dX5_anew_53 (hP)
        · have c_2 : ¬ (70 ≤ j) := fun h9 => c_2 ((nI_leI (a := 70) (b := j) (by omega) (by omega)).mpr h9)
          refine lv_aload_n hx hb dX5_anew_40 rfl (lv_at hl 1 rfl) ?_
          refine va_get (D := D) (ci := 5) (v := .ref (h 1)) (C := RX5) (T := TX5) (N := 10) hx hb hts (fun _ h9 => (List.mem_cons_of_mem _ (List.mem_append_right _ h9))) hown hK hP 0 rfl rfl 1 (by decide) (hts _ (List.mem_of_getElem? (i := 1) rfl)) (fun _ h9 => h9) rfl dX5_anew_41 ?_
          refine lv_iload_n hx hb dX5_anew_44 rfl (lv_at hl 0 rfl) ?_
          refine lv_iconst (v := 0) hx hb dX5_anew_45 (by decide) ?_
          refine ar_st hx hb hK hP hD hS 1 rfl j (nI_clamp (by omega)) (vp_in_nI (by omega) (by omega)) dX5_anew_46 (wn := [(h 0, .inr (5, [.int th, .ref (h 1), .ref (h 2), .ref (h 3), .ref (h 4), .ref (h 5), .int sm, .ref (h 6), .int ln, .long dg])), (h 1, .inl (k 0, 72, .inl (upd g2 j 0))), (h 2, .inl (k 0, 72, .inl asd)), (h 3, .inl (k 0, 144, .inl sl)), (h 4, .inl (k 1, 2, .inl kp)), (h 5, .inl (k 0, 432, .inl sv)), (h 6, .inl (k 0, 60, .inl tx))]) rfl (fun H locs hP hD hS => ?_)
          refine lv_iinc (v := (nI (j + 1))) (lv' := [(1, .int (nI (j + 1))), (0, .ref (h 0))]) hx hb dX5_anew_47 hl (k := 0) rfl (nI_1 j) (by decide) rfl (fun ls hl => ?_)
          refine lv_goto (tgt := 34) hx hb dX5_anew_50 (by decide) ?_
          exact ih_j (j + 1) (upd g2 j 0) (by omega) (by omega) (by rw [e_g2]; have h9 := bkF_s (bkF f f 9 9) (fun _ => 0) 45 (j - 45); rw [show 45 + (j - 45) = j from by omega, show j - 45 + 1 = j + 1 - 45 from by omega] at h9; exact h9) (by omega) _ _ _ hP hD hS (lv_sub hl [0, 1] rfl)
    · have c_1 : ¬ (9 ≤ i) := fun h9 => c_1 ((nI_leI (a := 9) (b := i) (by omega) (by omega)).mpr h9)
      refine lv_aload_n hx hb dX5_anew_8 rfl (lv_at hl 1 rfl) ?_
      refine va_get (D := D) (ci := 5) (v := .ref (h 1)) (C := RX5) (T := TX5) (N := 10) hx hb hts (fun _ h9 => (List.mem_cons_of_mem _ (List.mem_append_right _ h9))) hown hK hP 0 rfl rfl 1 (by decide) (hts _ (List.mem_of_getElem? (i := 1) rfl)) (fun _ h9 => h9) rfl dX5_anew_9 ?_
      refine lv_bipush (v := 9) hx hb dX5_anew_12 (by decide) ?_
      refine lv_iload_n hx hb dX5_anew_14 rfl (lv_at hl 0 rfl) ?_
      refine lv_iadd hx hb dX5_anew_15 ?_
      refine tp_e (y := (nI (9 + i))) (nI_add 9 i) ?_
      refine lv_aload_n hx hb dX5_anew_16 rfl (lv_at hl 1 rfl) ?_
      refine va_get (D := D) (ci := 5) (v := .ref (h 1)) (C := RX5) (T := TX5) (N := 10) hx hb hts (fun _ h9 => (List.mem_cons_of_mem _ (List.mem_append_right _ h9))) hown hK hP 0 rfl rfl 1 (by decide) (hts _ (List.mem_of_getElem? (i := 1) rfl)) (fun _ h9 => h9) rfl dX5_anew_17 ?_
      refine lv_iconst (v := 0) hx hb dX5_anew_20 (by decide) ?_
      refine lv_iload_n hx hb dX5_anew_21 rfl (lv_at hl 0 rfl) ?_
      refine lv_iadd hx hb dX5_anew_22 ?_
      refine tp_e (y := (nI (0 + i))) (nI_add 0 i) ?_
      refine ar_ld hx hb hK hP 1 rfl (0 + i) (nI_clamp (by omega)) (vp_in_nI (by omega) (by omega)) dX5_anew_23 ?_
      refine ar_st hx hb hK hP hD hS 1 rfl (9 + i) (nI_clamp (by omega)) (vp_in_nI (by omega) (by omega)) dX5_anew_24 (wn := [(h 0, .inr (5, [.int th, .ref (h 1), .ref (h 2), .ref (h 3), .ref (h 4), .ref (h 5), .int sm, .ref (h 6), .int ln, .long dg])), (h 1, .inl (k 0, 72, .inl (upd g (9 + i) (g (0 + i))))), (h 2, .inl (k 0, 72, .inl asd)), (h 3, .inl (k 0, 144, .inl sl)), (h 4, .inl (k 1, 2, .inl kp)), (h 5, .inl (k 0, 432, .inl sv)), (h 6, .inl (k 0, 60, .inl tx))]) rfl (fun H locs hP hD hS => ?_)
      refine lv_iinc (v := (nI (i + 1))) (lv' := [(1, .int (nI (i + 1))), (0, .ref (h 0))]) hx hb dX5_anew_25 hl (k := 0) rfl (nI_1 i) (by decide) rfl (fun ls hl => ?_)
      refine lv_goto (tgt := 2) hx hb dX5_anew_28 (by decide) ?_
      exact ih_i (i + 1) (upd g (9 + i) (g (0 + i))) (by omega) (by omega) (by rw [e_g, bkF_out f f (show 0 + i < 9 ∨ 9 + i ≤ 0 + i from by omega), Nat.zero_add]; exact bkF_s f f 9 i)  _ _ _ hP hD hS (lv_sub hl [0, 1] rfl)

set_option maxHeartbeats 1000000 in
set_option maxRecDepth 100000 in
theorem c_X5_joins (l : Launch) (D : va_G) (k : Nat → ClassId) (h : Nat → Nat) (th : Int32) (f asd sl kp sv : Nat → Int32) (sm : Int32) (tx : Nat → Int32) (ln : Int32) (dg : Int64)  : MI l yX5_joins wsX5_joins ({ frames := 1, cells := 0, slots := 0, locals := 22 }) D k [.ref (h 0)] (wMo k h th f asd sl kp sv sm tx ln dg) (jnM f 9) (wMo k h th f asd sl kp sv sm tx ln dg) := by
  intro sz
  refine Met.ofW (cc := cX5_joins) (maxL := 3) (ret := (some .int)) (by decide) rfl ?_
  intro p e s m args below meth c s₁ B hml hv
  obtain ⟨rfl, hN, hsz, hP, hK, hD0⟩ := hv
  have hx := B.exec
  have hb := B.bytes
  have hr := B.returns
  have hts := atoms_spec (ws := wsX5_joins) B.pre
  have hown : s.vm.findClass RX5 = some m.cls := findClass_of_methodNamed B.named
  have hlocks := B.notSynchronized
  subst hsz
  have hD := hD0.self (sz := s.heap.size)
  generalize hAe : va_A (wMo k h th f asd sl kp sv sm tx ln dg) s.heap.size = A at hD ⊢
  have hA : ∀ q : Nat, s.heap.size ≤ q → A q := fun q h => by rw [← hAe]; exact Or.inr h
  have hS : va_S A s.heap s.heap [] := va_S.rf
  have hl := lv_entry ([.ref (h 0)]) (n := 3) (Nat.le_of_ble_eq_true rfl)
  rw [lg_entry_eq]
  generalize (lg_sl ([.ref (h 0)]) ++ List.replicate (3 - (lg_sl ([.ref (h 0)])).length) Slot.unset).toArray = ls at hl ⊢
  have hl : lv_has ls 3 [(0, .ref (h 0))] := hl
  obtain ⟨H, hHe⟩ : ∃ H, H = s.heap := ⟨_, rfl⟩
  have hP : va_P D vwCl (wMo k h th f asd sl kp sv sm tx ln dg) H := by rw [hHe]; exact hP
  have hS : va_S A s.heap H [] := by rw [hHe]; exact hS
  rw [← hHe]
  refine absQ (fun Q hQ => ?_)
  refine lv_iconst (v := 0) hx hb dX5_joins_0 (by decide) ?_
  refine lv_istore_n (lv' := [(1, .int 0), (0, .ref (h 0))]) hx hb dX5_joins_1 rfl hl (by decide) rfl (fun ls hl => ?_)
  refine lv_iconst (v := 0) hx hb dX5_joins_2 (by decide) ?_
  refine lv_istore_n (lv' := [(2, .int 0), (1, .int 0), (0, .ref (h 0))]) hx hb dX5_joins_3 rfl hl (by decide) rfl (fun ls hl => ?_)
  suffices LOOP_i : ∀ (fu_i i : Nat) (y : Int32), 9 - i < fu_i → i ≤ 9 → y = jnM f i → ∀ (H : Heap) (locs : List Loc) (ls : Array Slot), va_P D vwCl (wMo k h th f asd sl kp sv sm tx ln dg) H → va_D A (wMo k h th f asd sl kp sv sm tx ln dg) → va_S A s.heap H locs → lv_has ls 3 [(2, .int (nI i)), (1, .int y), (0, .ref (h 0))] → W p l e ({ frames := 1, cells := 0, slots := 0, locals := 22 } : Room) s m ([.ref (h 0)] : List Value).toArray below meth c H locs 0 0 Q (F0 m 4 ls []) from LOOP_i (9 + 1) 0 0 (by omega) (by omega) (rfl)  _ _ _ hP hD hS (lv_sub hl [0, 1, 2] rfl)
  clear hP hD hS hl hHe
  intro fu_i
  induction fu_i with
  | zero => intro i y hn_i; omega
  | succ fu_i ih_i =>
    intro i y hn_i hle_i e_y  H locs ls hP hD hS hl
    refine lv_iload_n hx hb dX5_joins_4 rfl (lv_at hl 0 rfl) ?_
    refine lv_bipush (v := 9) hx hb dX5_joins_5 (by decide) ?_
    refine lv_icmp_ge (tgt := 31) hx hb dX5_joins_7 (by decide) (fun c_1 => ?_) (fun c_1 => ?_)
    · have c_1 : 9 ≤ i := (nI_leI (a := 9) (b := i) (by omega) (by omega)).mp c_1
      have hz_i : 9 = i := by omega
      subst hz_i
      subst e_y
      refine lv_iload_n hx hb dX5_joins_31 rfl (lv_at hl 1 rfl) ?_
      subst hQ
      exact rt_i hx hb hr hlocks hS dX5_joins_32 (hP) (rfl)
    · have c_1 : ¬ (9 ≤ i) := fun h9 => c_1 ((nI_leI (a := 9) (b := i) (by omega) (by omega)).mpr h9)
      refine lv_iload_n hx hb dX5_joins_10 rfl (lv_at hl 1 rfl) ?_
      refine lv_aload_n hx hb dX5_joins_11 rfl (lv_at hl 2 rfl) ?_
      refine va_get (D := D) (ci := 5) (v := .ref (h 1)) (C := RX5) (T := TX5) (N := 10) hx hb hts (fun _ h9 => (List.mem_cons_of_mem _ (List.mem_append_right _ h9))) hown hK hP 0 rfl rfl 1 (by decide) (hts _ (List.mem_of_getElem? (i := 1) rfl)) (fun _ h9 => h9) rfl dX5_joins_12 ?_
      refine lv_bipush (v := 27) hx hb dX5_joins_15 (by decide) ?_
      refine lv_iload_n hx hb dX5_joins_17 rfl (lv_at hl 0 rfl) ?_
      refine lv_iadd hx hb dX5_joins_18 ?_
      refine tp_e (y := (nI (27 + i))) (nI_add 27 i) ?_
      refine ar_ld hx hb hK hP 1 rfl (27 + i) (nI_clamp (by omega)) (vp_in_nI (by omega) (by omega)) dX5_joins_19 ?_
      have hPc : va_P D vwCl ([]) H := hP.sub [] rfl
      have hDc : va_D A ([]) := hD.sub [] (by decide +kernel) rfl
      refine cl_i0 (va_runS (As := [.int (f (27 + i))]) (rest := [.int y]) ⟨hx, hb, hml, hown, hts⟩ (c_X5_many l D k (f (27 + i)) H.size) (va_cwS 1 hts gX5_joins_X5_many rfl rfl rfl (by decide +kernel) ⟨Nat.le_of_ble_eq_true rfl, Nat.le_of_ble_eq_true rfl⟩) ⟨pr_blind, pr_at hN hPc hK hDc⟩ rfl rfl hl.1 rfl (lv_room (Nat.le_of_ble_eq_true rfl)) dX5_joins_20 ⟨Nat.le_of_ble_eq_true rfl, Nat.le_of_ble_eq_true rfl⟩) hP hD hS hA [] rfl (fun H locs hP hD hS => ?_)
      clear hPc hDc
      refine lv_iadd hx hb dX5_joins_23 ?_
      refine lv_istore_n (lv' := [(1, .int (y + (mnF (f (27 + i)) 9))), (2, .int (nI i)), (0, .ref (h 0))]) hx hb dX5_joins_24 rfl hl (by decide) rfl (fun ls hl => ?_)
      refine lv_iinc (v := (nI (i + 1))) (lv' := [(2, .int (nI (i + 1))), (1, .int (y + (mnF (f (27 + i)) 9))), (0, .ref (h 0))]) hx hb dX5_joins_25 hl (k := 1) rfl (nI_1 i) (by decide) rfl (fun ls hl => ?_)
      refine lv_goto (tgt := 4) hx hb dX5_joins_28 (by decide) ?_
      exact ih_i (i + 1) (y + (mnF (f (27 + i)) 9)) (by omega) (by omega) (by rw [jnM, ← e_y])  _ _ _ hP hD hS (lv_sub hl [0, 1, 2] rfl)

set_option maxHeartbeats 1000000 in
set_option maxRecDepth 100000 in
theorem c_X5_joinsTo (l : Launch) (D : va_G) (k : Nat → ClassId) (h : Nat → Nat) (th : Int32) (f asd sl kp sv : Nat → Int32) (sm : Int32) (tx : Nat → Int32) (ln : Int32) (dg : Int64) (q : Int32)  : MI l yX5_joinsTo wsX5_joinsTo ({ frames := 0, cells := 0, slots := 0, locals := 0 }) D k [.ref (h 0), .int q] (wMo k h th f asd sl kp sv sm tx ln dg) (jtM f q 9) (wMo k h th f asd sl kp sv sm tx ln dg) := by
  intro sz
  refine Met.ofW (cc := cX5_joinsTo) (maxL := 4) (ret := (some .int)) (by decide) rfl ?_
  intro p e s m args below meth c s₁ B hml hv
  obtain ⟨rfl, hN, hsz, hP, hK, hD0⟩ := hv
  have hx := B.exec
  have hb := B.bytes
  have hr := B.returns
  have hts := atoms_spec (ws := wsX5_joinsTo) B.pre
  have hown : s.vm.findClass RX5 = some m.cls := findClass_of_methodNamed B.named
  have hlocks := B.notSynchronized
  subst hsz
  have hD := hD0.self (sz := s.heap.size)
  generalize hAe : va_A (wMo k h th f asd sl kp sv sm tx ln dg) s.heap.size = A at hD ⊢
  have hA : ∀ q : Nat, s.heap.size ≤ q → A q := fun q h => by rw [← hAe]; exact Or.inr h
  have hS : va_S A s.heap s.heap [] := va_S.rf
  have hl := lv_entry ([.ref (h 0), .int q]) (n := 4) (Nat.le_of_ble_eq_true rfl)
  rw [lg_entry_eq]
  generalize (lg_sl ([.ref (h 0), .int q]) ++ List.replicate (4 - (lg_sl ([.ref (h 0), .int q])).length) Slot.unset).toArray = ls at hl ⊢
  have hl : lv_has ls 4 [(0, .ref (h 0)), (1, .int q)] := hl
  obtain ⟨H, hHe⟩ : ∃ H, H = s.heap := ⟨_, rfl⟩
  have hP : va_P D vwCl (wMo k h th f asd sl kp sv sm tx ln dg) H := by rw [hHe]; exact hP
  have hS : va_S A s.heap H [] := by rw [hHe]; exact hS
  rw [← hHe]
  refine absQ (fun Q hQ => ?_)
  refine lv_iconst (v := 0) hx hb dX5_joinsTo_0 (by decide) ?_
  refine lv_istore_n (lv' := [(2, .int 0), (0, .ref (h 0)), (1, .int q)]) hx hb dX5_joinsTo_1 rfl hl (by decide) rfl (fun ls hl => ?_)
  refine lv_iconst (v := 0) hx hb dX5_joinsTo_2 (by decide) ?_
  refine lv_istore_n (lv' := [(3, .int 0), (2, .int 0), (0, .ref (h 0)), (1, .int q)]) hx hb dX5_joinsTo_3 rfl hl (by decide) rfl (fun ls hl => ?_)
  suffices LOOP_i : ∀ (fu_i i : Nat) (y : Int32), 9 - i < fu_i → i ≤ 9 → y = jtM f q i → ∀ (H : Heap) (locs : List Loc) (ls : Array Slot), va_P D vwCl (wMo k h th f asd sl kp sv sm tx ln dg) H → va_D A (wMo k h th f asd sl kp sv sm tx ln dg) → va_S A s.heap H locs → lv_has ls 4 [(3, .int (nI i)), (2, .int y), (0, .ref (h 0)), (1, .int q)] → W p l e ({ frames := 0, cells := 0, slots := 0, locals := 0 } : Room) s m ([.ref (h 0), .int q] : List Value).toArray below meth c H locs 0 0 Q (F0 m 4 ls []) from LOOP_i (9 + 1) 0 0 (by omega) (by omega) (rfl)  _ _ _ hP hD hS (lv_sub hl [0, 1, 2, 3] rfl)
  clear hP hD hS hl hHe
  intro fu_i
  induction fu_i with
  | zero => intro i y hn_i; omega
  | succ fu_i ih_i =>
    intro i y hn_i hle_i e_y  H locs ls hP hD hS hl
    refine lv_iload_n hx hb dX5_joinsTo_4 rfl (lv_at hl 0 rfl) ?_
    refine lv_bipush (v := 9) hx hb dX5_joinsTo_5 (by decide) ?_
    refine lv_icmp_ge (tgt := 32) hx hb dX5_joinsTo_7 (by decide) (fun c_1 => ?_) (fun c_1 => ?_)
    · have c_1 : 9 ≤ i := (nI_leI (a := 9) (b := i) (by omega) (by omega)).mp c_1
      have hz_i : 9 = i := by omega
      subst hz_i
      subst e_y
      refine lv_iload_n hx hb dX5_joinsTo_32 rfl (lv_at hl 1 rfl) ?_
      subst hQ
      exact rt_i hx hb hr hlocks hS dX5_joinsTo_33 (hP) (rfl)
    · have c_1 : ¬ (9 ≤ i) := fun h9 => c_1 ((nI_leI (a := 9) (b := i) (by omega) (by omega)).mpr h9)
      refine lv_iload_n hx hb dX5_joinsTo_10 rfl (lv_at hl 1 rfl) ?_
      refine lv_aload_n hx hb dX5_joinsTo_11 rfl (lv_at hl 2 rfl) ?_
      refine va_get (D := D) (ci := 5) (v := .ref (h 1)) (C := RX5) (T := TX5) (N := 10) hx hb hts (fun _ h9 => (List.mem_cons_of_mem _ (List.mem_append_right _ h9))) hown hK hP 0 rfl rfl 1 (by decide) (hts _ (List.mem_of_getElem? (i := 1) rfl)) (fun _ h9 => h9) rfl dX5_joinsTo_12 ?_
      refine lv_bipush (v := 27) hx hb dX5_joinsTo_15 (by decide) ?_
      refine lv_iload_n hx hb dX5_joinsTo_17 rfl (lv_at hl 0 rfl) ?_
      refine lv_iadd hx hb dX5_joinsTo_18 ?_
      refine tp_e (y := (nI (27 + i))) (nI_add 27 i) ?_
      refine ar_ld hx hb hK hP 1 rfl (27 + i) (nI_clamp (by omega)) (vp_in_nI (by omega) (by omega)) dX5_joinsTo_19 ?_
      refine lv_iload_n hx hb dX5_joinsTo_20 rfl (lv_at hl 3 rfl) ?_
      refine lv_ishr hx hb dX5_joinsTo_21 ?_
      refine lv_iconst (v := 1) hx hb dX5_joinsTo_22 (by decide) ?_
      refine lv_iand hx hb dX5_joinsTo_23 ?_
      refine lv_iadd hx hb dX5_joinsTo_24 ?_
      refine lv_istore_n (lv' := [(2, .int (y + (((f (27 + i)) >>> (q &&& 31)) &&& 1))), (3, .int (nI i)), (0, .ref (h 0)), (1, .int q)]) hx hb dX5_joinsTo_25 rfl hl (by decide) rfl (fun ls hl => ?_)
      refine lv_iinc (v := (nI (i + 1))) (lv' := [(3, .int (nI (i + 1))), (2, .int (y + (((f (27 + i)) >>> (q &&& 31)) &&& 1))), (0, .ref (h 0)), (1, .int q)]) hx hb dX5_joinsTo_26 hl (k := 1) rfl (nI_1 i) (by decide) rfl (fun ls hl => ?_)
      refine lv_goto (tgt := 4) hx hb dX5_joinsTo_29 (by decide) ?_
      exact ih_i (i + 1) (y + (((f (27 + i)) >>> (q &&& 31)) &&& 1)) (by omega) (by omega) (by rw [jtM, ← e_y]; rfl)  _ _ _ hP hD hS (lv_sub hl [0, 1, 2, 3] rfl)

set_option maxHeartbeats 1000000 in
set_option maxRecDepth 100000 in
theorem c_X5_sum (l : Launch) (D : va_G) (k : Nat → ClassId) (h : Nat → Nat) (th : Int32) (f asd sl kp sv : Nat → Int32) (sm : Int32) (tx : Nat → Int32) (ln : Int32) (dg : Int64) (a : Nat) (ha : a ≤ 60) : MI l yX5_sum wsX5_sum ({ frames := 0, cells := 0, slots := 0, locals := 0 }) D k [.ref (h 0), .int (nI a)] (wMo k h th f asd sl kp sv sm tx ln dg) (smM f a 9) (wMo k h th f asd sl kp sv sm tx ln dg) := by
  intro sz
  refine Met.ofW (cc := cX5_sum) (maxL := 4) (ret := (some .int)) (by decide) rfl ?_
  intro p e s m args below meth c s₁ B hml hv
  obtain ⟨rfl, hN, hsz, hP, hK, hD0⟩ := hv
  have hx := B.exec
  have hb := B.bytes
  have hr := B.returns
  have hts := atoms_spec (ws := wsX5_sum) B.pre
  have hown : s.vm.findClass RX5 = some m.cls := findClass_of_methodNamed B.named
  have hlocks := B.notSynchronized
  subst hsz
  have hD := hD0.self (sz := s.heap.size)
  generalize hAe : va_A (wMo k h th f asd sl kp sv sm tx ln dg) s.heap.size = A at hD ⊢
  have hA : ∀ q : Nat, s.heap.size ≤ q → A q := fun q h => by rw [← hAe]; exact Or.inr h
  have hS : va_S A s.heap s.heap [] := va_S.rf
  have hl := lv_entry ([.ref (h 0), .int (nI a)]) (n := 4) (Nat.le_of_ble_eq_true rfl)
  rw [lg_entry_eq]
  generalize (lg_sl ([.ref (h 0), .int (nI a)]) ++ List.replicate (4 - (lg_sl ([.ref (h 0), .int (nI a)])).length) Slot.unset).toArray = ls at hl ⊢
  have hl : lv_has ls 4 [(0, .ref (h 0)), (1, .int (nI a))] := hl
  obtain ⟨H, hHe⟩ : ∃ H, H = s.heap := ⟨_, rfl⟩
  have hP : va_P D vwCl (wMo k h th f asd sl kp sv sm tx ln dg) H := by rw [hHe]; exact hP
  have hS : va_S A s.heap H [] := by rw [hHe]; exact hS
  rw [← hHe]
  refine absQ (fun Q hQ => ?_)
  refine lv_iconst (v := 0) hx hb dX5_sum_0 (by decide) ?_
  refine lv_istore_n (lv' := [(2, .int 0), (0, .ref (h 0)), (1, .int (nI a))]) hx hb dX5_sum_1 rfl hl (by decide) rfl (fun ls hl => ?_)
  refine lv_iconst (v := 0) hx hb dX5_sum_2 (by decide) ?_
  refine lv_istore_n (lv' := [(3, .int 0), (2, .int 0), (0, .ref (h 0)), (1, .int (nI a))]) hx hb dX5_sum_3 rfl hl (by decide) rfl (fun ls hl => ?_)
  suffices LOOP_i : ∀ (fu_i i : Nat) (y : Int32), 9 - i < fu_i → i ≤ 9 → y = smM f a i → ∀ (H : Heap) (locs : List Loc) (ls : Array Slot), va_P D vwCl (wMo k h th f asd sl kp sv sm tx ln dg) H → va_D A (wMo k h th f asd sl kp sv sm tx ln dg) → va_S A s.heap H locs → lv_has ls 4 [(3, .int (nI i)), (2, .int y), (0, .ref (h 0)), (1, .int (nI a))] → W p l e ({ frames := 0, cells := 0, slots := 0, locals := 0 } : Room) s m ([.ref (h 0), .int (nI a)] : List Value).toArray below meth c H locs 0 0 Q (F0 m 4 ls []) from LOOP_i (9 + 1) 0 0 (by omega) (by omega) (rfl)  _ _ _ hP hD hS (lv_sub hl [0, 1, 2, 3] rfl)
  clear hP hD hS hl hHe
  intro fu_i
  induction fu_i with
  | zero => intro i y hn_i; omega
  | succ fu_i ih_i =>
    intro i y hn_i hle_i e_y  H locs ls hP hD hS hl
    refine lv_iload_n hx hb dX5_sum_4 rfl (lv_at hl 0 rfl) ?_
    refine lv_bipush (v := 9) hx hb dX5_sum_5 (by decide) ?_
    refine lv_icmp_ge (tgt := 27) hx hb dX5_sum_7 (by decide) (fun c_1 => ?_) (fun c_1 => ?_)
    · have c_1 : 9 ≤ i := (nI_leI (a := 9) (b := i) (by omega) (by omega)).mp c_1
      have hz_i : 9 = i := by omega
      subst hz_i
      subst e_y
      refine lv_iload_n hx hb dX5_sum_27 rfl (lv_at hl 1 rfl) ?_
      subst hQ
      exact rt_i hx hb hr hlocks hS dX5_sum_28 (hP) (rfl)
    · have c_1 : ¬ (9 ≤ i) := fun h9 => c_1 ((nI_leI (a := 9) (b := i) (by omega) (by omega)).mpr h9)
      refine lv_iload_n hx hb dX5_sum_10 rfl (lv_at hl 1 rfl) ?_
      refine lv_aload_n hx hb dX5_sum_11 rfl (lv_at hl 2 rfl) ?_
      refine va_get (D := D) (ci := 5) (v := .ref (h 1)) (C := RX5) (T := TX5) (N := 10) hx hb hts (fun _ h9 => (List.mem_cons_of_mem _ (List.mem_append_right _ h9))) hown hK hP 0 rfl rfl 1 (by decide) (hts _ (List.mem_of_getElem? (i := 1) rfl)) (fun _ h9 => h9) rfl dX5_sum_12 ?_
      refine lv_iload_n hx hb dX5_sum_15 rfl (lv_at hl 3 rfl) ?_
      refine lv_iload_n hx hb dX5_sum_16 rfl (lv_at hl 0 rfl) ?_
      refine lv_iadd hx hb dX5_sum_17 ?_
      refine tp_e (y := (nI (a + i))) (nI_add a i) ?_
      refine ar_ld hx hb hK hP 1 rfl (a + i) (nI_clamp (by omega)) (vp_in_nI (by omega) (by omega)) dX5_sum_18 ?_
      refine lv_iadd hx hb dX5_sum_19 ?_
      refine lv_istore_n (lv' := [(2, .int (y + (f (a + i)))), (3, .int (nI i)), (0, .ref (h 0)), (1, .int (nI a))]) hx hb dX5_sum_20 rfl hl (by decide) rfl (fun ls hl => ?_)
      refine lv_iinc (v := (nI (i + 1))) (lv' := [(3, .int (nI (i + 1))), (2, .int (y + (f (a + i)))), (0, .ref (h 0)), (1, .int (nI a))]) hx hb dX5_sum_21 hl (k := 1) rfl (nI_1 i) (by decide) rfl (fun ls hl => ?_)
      refine lv_goto (tgt := 4) hx hb dX5_sum_24 (by decide) ?_
      exact ih_i (i + 1) (y + (f (a + i))) (by omega) (by omega) (by rw [smM, ← e_y])  _ _ _ hP hD hS (lv_sub hl [0, 1, 2, 3] rfl)
