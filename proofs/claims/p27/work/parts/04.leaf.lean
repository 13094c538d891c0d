set_option maxHeartbeats 1000000 in
set_option maxRecDepth 100000 in
theorem c_X4_bit (l : Launch) (D : va_G) (k : Nat → ClassId) (mask pos : Int32)  : MI l yX4_bit wsX4_bit ({ frames := 0, cells := 0, slots := 0, locals := 0 }) D k [.int mask, .int pos] ([]) (bitv mask pos) ([]) := by
  intro sz
  refine Met.ofW (cc := cX4_bit) (maxL := 2) (ret := (some .int)) (by decide) rfl ?_
  intro p e s m args below meth c s₁ B hml hv
  obtain ⟨rfl, hN, hsz, hP, hK, hD0⟩ := hv
  have hx := B.exec
  have hb := B.bytes
  have hr := B.returns
  have hts := atoms_spec (ws := wsX4_bit) B.pre
  have hown : s.vm.findClass RX4 = some m.cls := findClass_of_methodNamed B.named
  have hlocks := B.notSynchronized
  subst hsz
  have hD := hD0.self (sz := s.heap.size)
  generalize hAe : va_A ([]) s.heap.size = A at hD ⊢
  have hA : ∀ q : Nat, s.heap.size ≤ q → A q := fun q h => by rw [← hAe]; exact Or.inr h
  have hS : va_S A s.heap s.heap [] := va_S.rf
  have hl := lv_entry ([.int mask, .int pos]) (n := 2) (Nat.le_of_ble_eq_true rfl)
  rw [lg_entry_eq]
  generalize (lg_sl ([.int mask, .int pos]) ++ List.replicate (2 - (lg_sl ([.int mask, .int pos])).length) Slot.unset).toArray = ls at hl ⊢
  have hl : lv_has ls 2 [(0, .int mask), (1, .int pos)] := hl
  obtain ⟨H, hHe⟩ : ∃ H, H = s.heap := ⟨_, rfl⟩
  have hP : va_P D vwCl ([]) H := by rw [hHe]; exact hP
  have hS : va_S A s.heap H [] := by rw [hHe]; exact hS
  rw [← hHe]
  refine absQ (fun Q hQ => ?_)
  refine lv_iload_n hx hb dX4_bit_0 rfl (lv_at hl 0 rfl) ?_
  refine lv_iload_n hx hb dX4_bit_1 rfl (lv_at hl 1 rfl) ?_
  refine lv_ishr hx hb dX4_bit_2 ?_
  refine lv_iconst (v := 1) hx hb dX4_bit_3 (by decide) ?_
  refine lv_iand hx hb dX4_bit_4 ?_
  subst hQ
  exact rt_i hx hb hr hlocks hS dX4_bit_5 (hP) (rfl)

set_option maxHeartbeats 1000000 in
set_option maxRecDepth 100000 in
theorem c_X4_isPiece (l : Launch) (D : va_G) (k : Nat → ClassId) (pos : Int32)  : MI l yX4_isPiece wsX4_isPiece ({ frames := 0, cells := 0, slots := 0, locals := 0 }) D k [.int pos] ([]) (bI (pcB pos)) ([]) := by
  intro sz
  refine Met.ofW (cc := cX4_isPiece) (maxL := 1) (ret := (some .boolean)) (by decide) rfl ?_
  intro p e s m args below meth c s₁ B hml hv
  obtain ⟨rfl, hN, hsz, hP, hK, hD0⟩ := hv
  have hx := B.exec
  have hb := B.bytes
  have hr := B.returns
  have hts := atoms_spec (ws := wsX4_isPiece) B.pre
  have hown : s.vm.findClass RX4 = some m.cls := findClass_of_methodNamed B.named
  have hlocks := B.notSynchronized
  subst hsz
  have hD := hD0.self (sz := s.heap.size)
  generalize hAe : va_A ([]) s.heap.size = A at hD ⊢
  have hA : ∀ q : Nat, s.heap.size ≤ q → A q := fun q h => by rw [← hAe]; exact Or.inr h
  have hS : va_S A s.heap s.heap [] := va_S.rf
  have hl := lv_entry ([.int pos]) (n := 1) (Nat.le_of_ble_eq_true rfl)
  rw [lg_entry_eq]
  generalize (lg_sl ([.int pos]) ++ List.replicate (1 - (lg_sl ([.int pos])).length) Slot.unset).toArray = ls at hl ⊢
  have hl : lv_has ls 1 [(0, .int pos)] := hl
  obtain ⟨H, hHe⟩ : ∃ H, H = s.heap := ⟨_, rfl⟩
  have hP : va_P D vwCl ([]) H := by rw [hHe]; exact hP
  have hS : va_S A s.heap H [] := by rw [hHe]; exact hS
  rw [← hHe]
  refine absQ (fun Q hQ => ?_)
  refine lv_iload_n hx hb dX4_isPiece_0 rfl (lv_at hl 0 rfl) ?_
  refine lv_if_lt (tgt := 14) hx hb dX4_isPiece_1 (by decide) (fun c_1 => ?_) (fun c_1 => ?_)
  · refine lv_iconst (v := 0) hx hb dX4_isPiece_14 (by decide) ?_
    subst hQ
    exact rt_z hx hb hr hlocks hS dX4_isPiece_15 (hP) (rfl) (by simp [pcB, bI, c_1])
  · refine lv_iload_n hx hb dX4_isPiece_4 rfl (lv_at hl 0 rfl) ?_
    refine lv_bipush (v := 9) hx hb dX4_isPiece_5 (by decide) ?_
    refine lv_icmp_ge (tgt := 14) hx hb dX4_isPiece_7 (by decide) (fun c_2 => ?_) (fun c_2 => ?_)
    · refine lv_iconst (v := 0) hx hb dX4_isPiece_14 (by decide) ?_
      subst hQ
      exact rt_z hx hb hr hlocks hS dX4_isPiece_15 (hP) (rfl) (by simp [pcB, bI, c_1, c_2])
    · refine lv_iconst (v := 1) hx hb dX4_isPiece_10 (by decide) ?_
      refine lv_goto (tgt := 15) hx hb dX4_isPiece_11 (by decide) ?_
      subst hQ
      exact rt_z hx hb hr hlocks hS dX4_isPiece_15 (hP) (rfl) (by simp [pcB, bI, c_1, c_2])

/-- the weight of a mask over the first pieces -/
def wtF (r : Nat → Int32) (mask : Int32) : Nat → Int32
  | 0 => 999
  | i + 1 => if bitv mask (nI i) = 1 then (if wtF r mask i ≤ r i then wtF r mask i else r i) else wtF r mask i
/-- joins to a piece, from the first pieces -/
def cjtF (f : Nat → Int32) (pos : Int32) : Nat → Int32
  | 0 => 0
  | i + 1 => cjtF f pos i + bitv (f i) pos
/-- no piece of the mask, of the last n ones from i on, has one of the mask in its row -/
def opR (f : Nat → Int32) (mask : Int32) : Nat → Nat → Bool
  | 0, _ => true
  | n + 1, i => if bitv mask (nI i) = 1 then (if f i &&& mask = 0 then opR f mask n (i + 1) else false) else opR f mask n (i + 1)
theorem opR_s (f : Nat → Int32) (mask : Int32) {i : Nat} (h : ¬ 9 ≤ i) : opR f mask (9 - i) i = if bitv mask (nI i) = 1 then (if f i &&& mask = 0 then opR f mask (9 - (i + 1)) (i + 1) else false) else opR f mask (9 - (i + 1)) (i + 1) := by
  rw [show 9 - i = (9 - (i + 1)) + 1 from by omega, opR]
/-- the rests, less a weight in the mask's first pieces -/
def twF (r : Nat → Int32) (mask w : Int32) (i : Nat) : Nat → Int32 := fun j => if j < i ∧ bitv mask (nI j) = 1 then r j - w else r j
theorem twF_0 (r : Nat → Int32) (mask w : Int32) : twF r mask w 0 = r := by funext j; simp [twF]
theorem twF_t (r : Nat → Int32) (mask w : Int32) (i : Nat) (h : bitv mask (nI i) = 1) : upd (twF r mask w i) i (twF r mask w i i - w) = twF r mask w (i + 1) := by
  funext j
  unfold upd twF
  by_cases hj : j = i
  · subst hj; simp [h]
  · rw [if_neg hj]
    by_cases h2 : j < i
    · simp [h2, show j < i + 1 from by omega]
    · simp [h2, show ¬ j < i + 1 from by omega]
theorem twF_f (r : Nat → Int32) (mask w : Int32) (i : Nat) (h : ¬ bitv mask (nI i) = 1) : twF r mask w i = twF r mask w (i + 1) := by
  funext j
  unfold twF
  by_cases hj : j = i
  · subst hj; simp [h]
  · by_cases h2 : j < i
    · simp [h2, show j < i + 1 from by omega]
    · simp [h2, show ¬ j < i + 1 from by omega]

set_option maxHeartbeats 1000000 in
set_option maxRecDepth 100000 in
theorem c_X1_weightOf (l : Launch) (D : va_G) (k : Nat → ClassId) (a : Nat → Nat) (S : Nat → Nat → Int32) (mask : Int32)  : MI l yX1_weightOf wsX1_weightOf ({ frames := 1, cells := 0, slots := 0, locals := 21 }) D k [.ref (a 0), .int mask] (wSt k a S) (wtF (S 4) mask 9) (wSt k a S) := by
  intro sz
  refine Met.ofW (cc := cX1_weightOf) (maxL := 4) (ret := (some .int)) (by decide) rfl ?_
  intro p e s m args below meth c s₁ B hml hv
  obtain ⟨rfl, hN, hsz, hP, hK, hD0⟩ := hv
  have hx := B.exec
  have hb := B.bytes
  have hr := B.returns
  have hts := atoms_spec (ws := wsX1_weightOf) B.pre
  have hown : s.vm.findClass RX1 = some m.cls := findClass_of_methodNamed B.named
  have hlocks := B.notSynchronized
  subst hsz
  have hD := hD0.self (sz := s.heap.size)
  generalize hAe : va_A (wSt k a S) s.heap.size = A at hD ⊢
  have hA : ∀ q : Nat, s.heap.size ≤ q → A q := fun q h => by rw [← hAe]; exact Or.inr h
  have hS : va_S A s.heap s.heap [] := va_S.rf
  have hl := lv_entry ([.ref (a 0), .int mask]) (n := 4) (Nat.le_of_ble_eq_true rfl)
  rw [lg_entry_eq]
  generalize (lg_sl ([.ref (a 0), .int mask]) ++ List.replicate (4 - (lg_sl ([.ref (a 0), .int mask])).length) Slot.unset).toArray = ls at hl ⊢
  have hl : lv_has ls 4 [(0, .ref (a 0)), (1, .int mask)] := hl
  obtain ⟨H, hHe⟩ : ∃ H, H = s.heap := ⟨_, rfl⟩
  have hP : va_P D vwCl (wSt k a S) H := by rw [hHe]; exact hP
  have hS : va_S A s.heap H [] := by rw [hHe]; exact hS
  rw [← hHe]
  refine absQ (fun Q hQ => ?_)
  refine lv_sipush (v := 999) hx hb dX1_weightOf_0 (by decide) ?_
  refine lv_istore_n (lv' := [(2, .int 999), (0, .ref (a 0)), (1, .int mask)]) hx hb dX1_weightOf_3 rfl hl (by decide) rfl (fun ls hl => ?_)
  refine lv_iconst (v := 0) hx hb dX1_weightOf_4 (by decide) ?_
  refine lv_istore_n (lv' := [(3, .int 0), (2, .int 999), (0, .ref (a 0)), (1, .int mask)]) hx hb dX1_weightOf_5 rfl hl (by decide) rfl (fun ls hl => ?_)
  suffices LOOP_i : ∀ (fu_i i : Nat) (x : Int32), 9 - i < fu_i → i ≤ 9 → x = wtF (S 4) mask i → ∀ (H : Heap) (locs : List Loc) (ls : Array Slot), va_P D vwCl (wSt k a S) H → va_D A (wSt k a S) → va_S A s.heap H locs → lv_has ls 4 [(3, .int (nI i)), (2, .int x), (0, .ref (a 0)), (1, .int mask)] → W p l e ({ frames := 1, cells := 0, slots := 0, locals := 21 } : Room) s m ([.ref (a 0), .int mask] : List Value).toArray below meth c H locs 0 0 Q (F0 m 6 ls []) from LOOP_i (9 + 1) 0 999 (by omega) (by omega) (rfl)  _ _ _ hP hD hS (lv_sub hl [0, 1, 2, 3] rfl)
  clear hP hD hS hl hHe
  intro fu_i
  induction fu_i with
  | zero => intro i x hn_i; omega
  | succ fu_i ih_i =>
    intro i x hn_i hle_i e_x  H locs ls hP hD hS hl
    refine lv_iload_n hx hb dX1_weightOf_6 rfl (lv_at hl 0 rfl) ?_
    refine lv_bipush (v := 9) hx hb dX1_weightOf_7 (by decide) ?_
    refine lv_icmp_ge (tgt := 44) hx hb dX1_weightOf_9 (by decide) (fun c_1 => ?_) (fun c_1 => ?_)
    · have c_1 : 9 ≤ i := (nI_leI (a := 9) (b := i) (by omega) (by omega)).mp c_1
      obtain rfl : i = 9 := by omega
      subst e_x
      refine lv_iload_n hx hb dX1_weightOf_44 rfl (lv_at hl 1 rfl) ?_
      subst hQ
      exact rt_i hx hb hr hlocks hS dX1_weightOf_45 (hP) (rfl)
    · have c_1 : ¬ (9 ≤ i) := fun h9 => c_1 ((nI_leI (a := 9) (b := i) (by omega) (by omega)).mpr h9)
      refine lv_iload_n hx hb dX1_weightOf_12 rfl (lv_at hl 3 rfl) ?_
      refine lv_iload_n hx hb dX1_weightOf_13 rfl (lv_at hl 0 rfl) ?_
      have hPc : va_P D vwCl ([]) H := hP.sub [] rfl
      have hDc : va_D A ([]) := hD.sub [] (by decide +kernel) rfl
      refine cl_i0 (va_runSN (As := [.int mask, .int (nI i)]) (rest := []) ⟨hx, hb, hml, hown, hts⟩ (c_X4_bit l D k mask (nI i) H.size) ⟨va_cnB 2 hts gX1_weightOf_X4_bit_n49 rfl rfl rfl hN.2.2.2.2.2.2.2.2.1 (hts (.initialized RX4) (List.mem_of_getElem? (i := 3) rfl)) (by decide +kernel) ⟨Nat.le_of_ble_eq_true rfl, Nat.le_of_ble_eq_true rfl⟩, hts (.static yX4_bit) (List.mem_of_getElem? (i := 2) rfl), trivial⟩ ⟨pr_blind, pr_at hN hPc hK hDc⟩ rfl rfl hl.1 rfl (lv_room (Nat.le_of_ble_eq_true rfl)) dX1_weightOf_14 ⟨Nat.le_of_ble_eq_true rfl, Nat.le_of_ble_eq_true rfl⟩) hP hD hS hA [] rfl (fun H locs hP hD hS => ?_)
      clear hPc hDc
      refine lv_iconst (v := 1) hx hb dX1_weightOf_17 (by decide) ?_
      refine lv_icmp_ne (tgt := 38) hx hb dX1_weightOf_18 (by decide) (fun c_2 => ?_) (fun c_2 => ?_)
      · refine lv_iinc (v := (nI (i + 1))) (lv' := [(3, .int (nI (i + 1))), (2, .int x), (0, .ref (a 0)), (1, .int mask)]) hx hb dX1_weightOf_38 hl (k := 0) rfl (nI_1 i) (by decide) rfl (fun ls hl => ?_)
        refine lv_goto (tgt := 6) hx hb dX1_weightOf_41 (by decide) ?_
        exact ih_i (i + 1) x (by omega) (by omega) (by rw [wtF, ← e_x]; simp [c_1, c_2])  _ _ _ hP hD hS (lv_sub hl [0, 1, 2, 3] rfl)
      · refine lv_aload_n hx hb dX1_weightOf_21 rfl (lv_at hl 2 rfl) ?_
        refine va_get (D := D) (ci := 1) (v := .ref (a 5)) (C := RX1) (T := TX1) (N := 10) hx hb hts (fun _ h9 => (List.mem_cons_of_mem _ (List.mem_append_right _ h9))) hown hK hP 0 rfl rfl 4 (by decide) (hts _ (List.mem_of_getElem? (i := 1) rfl)) (fun _ h9 => h9) rfl dX1_weightOf_22 ?_
        refine lv_iload_n hx hb dX1_weightOf_25 rfl (lv_at hl 0 rfl) ?_
        refine ar_ld hx hb hK hP 5 rfl i (nI_clamp (by omega)) (vp_in_nI (by omega) (by omega)) dX1_weightOf_26 ?_
        refine lv_iload_n hx hb dX1_weightOf_27 rfl (lv_at hl 1 rfl) ?_
        refine lv_icmp_ge (tgt := 38) hx hb dX1_weightOf_28 (by decide) (fun c_3 => ?_) (fun c_3 => ?_)
        · refine lv_iinc (v := (nI (i + 1))) (lv' := [(3, .int (nI (i + 1))), (2, .int x), (0, .ref (a 0)), (1, .int mask)]) hx hb dX1_weightOf_38 hl (k := 0) rfl (nI_1 i) (by decide) rfl (fun ls hl => ?_)
          refine lv_goto (tgt := 6) hx hb dX1_weightOf_41 (by decide) ?_
          exact ih_i (i + 1) x (by omega) (by omega) (by rw [wtF, ← e_x]; simp [c_1, c_2, c_3])  _ _ _ hP hD hS (lv_sub hl [0, 1, 2, 3] rfl)
        · refine lv_aload_n hx hb dX1_weightOf_31 rfl (lv_at hl 2 rfl) ?_
          refine va_get (D := D) (ci := 1) (v := .ref (a 5)) (C := RX1) (T := TX1) (N := 10) hx hb hts (fun _ h9 => (List.mem_cons_of_mem _ (List.mem_append_right _ h9))) hown hK hP 0 rfl rfl 4 (by decide) (hts _ (List.mem_of_getElem? (i := 1) rfl)) (fun _ h9 => h9) rfl dX1_weightOf_32 ?_
          refine lv_iload_n hx hb dX1_weightOf_35 rfl (lv_at hl 0 rfl) ?_
          refine ar_ld hx hb hK hP 5 rfl i (nI_clamp (by omega)) (vp_in_nI (by omega) (by omega)) dX1_weightOf_36 ?_
          refine lv_istore_n (lv' := [(2, .int ((S 4) i)), (3, .int (nI i)), (0, .ref (a 0)), (1, .int mask)]) hx hb dX1_weightOf_37 rfl hl (by decide) rfl (fun ls hl => ?_)
          refine lv_iinc (v := (nI (i + 1))) (lv' := [(3, .int (nI (i + 1))), (2, .int ((S 4) i)), (0, .ref (a 0)), (1, .int mask)]) hx hb dX1_weightOf_38 hl (k := 1) rfl (nI_1 i) (by decide) rfl (fun ls hl => ?_)
          refine lv_goto (tgt := 6) hx hb dX1_weightOf_41 (by decide) ?_
          exact ih_i (i + 1) ((S 4) i) (by omega) (by omega) (by rw [wtF, ← e_x]; simp [c_1, c_2, c_3])  _ _ _ hP hD hS (lv_sub hl [0, 1, 2, 3] rfl)

set_option maxHeartbeats 1000000 in
set_option maxRecDepth 100000 in
theorem c_X1_copyGraph (l : Launch) (D : va_G) (k : Nat → ClassId) (a b : Nat → Nat) (S T : Nat → Nat → Int32)  : MV l yX1_copyGraph wsX1_copyGraph ({ frames := 0, cells := 0, slots := 0, locals := 0 }) D k [.ref (a 0), .ref (b 0)] (wSt k a S ++ (wSt k b T)) (wSt k a (mkS (T 0) (T 1) (T 2) (T 3) (S 4) (S 5) (S 6) (S 7)) ++ wSt k b T) := by
  intro sz
  refine Met.ofW (cc := cX1_copyGraph) (maxL := 3) (ret := none) (by decide) rfl ?_
  intro p e s m args below meth c s₁ B hml hv
  obtain ⟨rfl, hN, hsz, hP, hK, hD0⟩ := hv
  have hx := B.exec
  have hb := B.bytes
  have hr := B.returns
  have hts := atoms_spec (ws := wsX1_copyGraph) B.pre
  have hown : s.vm.findClass RX1 = some m.cls := findClass_of_methodNamed B.named
  have hlocks := B.notSynchronized
  subst hsz
  have hD := hD0.self (sz := s.heap.size)
  generalize hAe : va_A (wSt k a S ++ (wSt k b T)) s.heap.size = A at hD ⊢
  have hA : ∀ q : Nat, s.heap.size ≤ q → A q := fun q h => by rw [← hAe]; exact Or.inr h
  have hS : va_S A s.heap s.heap [] := va_S.rf
  have hl := lv_entry ([.ref (a 0), .ref (b 0)]) (n := 3) (Nat.le_of_ble_eq_true rfl)
  rw [lg_entry_eq]
  generalize (lg_sl ([.ref (a 0), .ref (b 0)]) ++ List.replicate (3 - (lg_sl ([.ref (a 0), .ref (b 0)])).length) Slot.unset).toArray = ls at hl ⊢
  have hl : lv_has ls 3 [(0, .ref (a 0)), (1, .ref (b 0))] := hl
  obtain ⟨H, hHe⟩ : ∃ H, H = s.heap := ⟨_, rfl⟩
  have hP : va_P D vwCl (wSt k a S ++ (wSt k b T)) H := by rw [hHe]; exact hP
  have hS : va_S A s.heap H [] := by rw [hHe]; exact hS
  rw [← hHe]
  refine absQ (fun Q hQ => ?_)
  refine lv_iconst (v := 0) hx hb dX1_copyGraph_0 (by decide) ?_
  refine lv_istore_n (lv' := [(2, .int 0), (0, .ref (a 0)), (1, .ref (b 0))]) hx hb dX1_copyGraph_1 rfl hl (by decide) rfl (fun ls hl => ?_)
  suffices LOOP_i : ∀ (fu_i i : Nat) (g0 : Nat → Int32) (g1 : Nat → Int32) (g2 : Nat → Int32) (g3 : Nat → Int32), 9 - i < fu_i → i ≤ 9 → g0 = fil (T 0) (S 0) i → g1 = fil (T 1) (S 1) i → g2 = fil (T 2) (S 2) i → g3 = fil (T 3) (S 3) i → ∀ (H : Heap) (locs : List Loc) (ls : Array Slot), va_P D vwCl ([(a 0, .inr (1, [.ref (a 1), .ref (a 2), .ref (a 3), .ref (a 4), .ref (a 5), .ref (a 6), .ref (a 7), .int (S 7 0), .int (S 7 1), .int (S 7 2)])), (a 1, .inl (k 0, 9, .inl g0)), (a 2, .inl (k 0, 9, .inl g1)), (a 3, .inl (k 0, 9, .inl g2)), (a 4, .inl (k 0, 9, .inl g3)), (a 5, .inl (k 0, 9, .inl (S 4))), (a 6, .inl (k 0, 12, .inl (S 5))), (a 7, .inl (k 0, 12, .inl (S 6)))] ++ (wSt k b T)) H → va_D A ([(a 0, .inr (1, [.ref (a 1), .ref (a 2), .ref (a 3), .ref (a 4), .ref (a 5), .ref (a 6), .ref (a 7), .int (S 7 0), .int (S 7 1), .int (S 7 2)])), (a 1, .inl (k 0, 9, .inl g0)), (a 2, .inl (k 0, 9, .inl g1)), (a 3, .inl (k 0, 9, .inl g2)), (a 4, .inl (k 0, 9, .inl g3)), (a 5, .inl (k 0, 9, .inl (S 4))), (a 6, .inl (k 0, 12, .inl (S 5))), (a 7, .inl (k 0, 12, .inl (S 6)))] ++ (wSt k b T)) → va_S A s.heap H locs → lv_has ls 3 [(2, .int (nI i)), (0, .ref (a 0)), (1, .ref (b 0))] → W p l e ({ frames := 0, cells := 0, slots := 0, locals := 0 } : Room) s m ([.ref (a 0), .ref (b 0)] : List Value).toArray below meth c H locs 0 0 Q (F0 m 2 ls []) from LOOP_i (9 + 1) 0 (S 0) (S 1) (S 2) (S 3) (by omega) (by omega) ((fil_0 _ _).symm) ((fil_0 _ _).symm) ((fil_0 _ _).symm) ((fil_0 _ _).symm)  _ _ _ hP hD hS (lv_sub hl [0, 1, 2] rfl)
  clear hP hD hS hl hHe
  intro fu_i
  induction fu_i with
  | zero => intro i g0 g1 g2 g3 hn_i; omega
  | succ fu_i ih_i =>
    intro i g0 g1 g2 g3 hn_i hle_i e_g0 e_g1 e_g2 e_g3  H locs ls hP hD hS hl
    refine lv_iload_n hx hb dX1_copyGraph_2 rfl (lv_at hl 0 rfl) ?_
    refine lv_bipush (v := 9) hx hb dX1_copyGraph_3 (by decide) ?_
    refine lv_icmp_ge (tgt := 62) hx hb dX1_copyGraph_5 (by decide) (fun c_1 => ?_) (fun c_1 => ?_)
    · have c_1 : 9 ≤ i := (nI_leI (a := 9) (b := i) (by omega) (by omega)).mp c_1
      obtain rfl : i = 9 := by omega
      subst e_g0
      subst e_g1
      subst e_g2
      subst e_g3
      have hP : va_P D vwCl ([(a 0, .inr (1, [.ref (a 1), .ref (a 2), .ref (a 3), .ref (a 4), .ref (a 5), .ref (a 6), .ref (a 7), .int (S 7 0), .int (S 7 1), .int (S 7 2)])), (a 1, .inl (k 0, 9, .inl (T 0))), (a 2, .inl (k 0, 9, .inl (fil (T 1) (S 1) 9))), (a 3, .inl (k 0, 9, .inl (fil (T 2) (S 2) 9))), (a 4, .inl (k 0, 9, .inl (fil (T 3) (S 3) 9))), (a 5, .inl (k 0, 9, .inl (S 4))), (a 6, .inl (k 0, 12, .inl (S 5))), (a 7, .inl (k 0, 12, .inl (S 6)))] ++ (wSt k b T)) H := va_P.ext hP hD 1 rfl (T 0) (fil_in _ _ _)
      have hD : va_D A ([(a 0, .inr (1, [.ref (a 1), .ref (a 2), .ref (a 3), .ref (a 4), .ref (a 5), .ref (a 6), .ref (a 7), .int (S 7 0), .int (S 7 1), .int (S 7 2)])), (a 1, .inl (k 0, 9, .inl (T 0))), (a 2, .inl (k 0, 9, .inl (fil (T 1) (S 1) 9))), (a 3, .inl (k 0, 9, .inl (fil (T 2) (S 2) 9))), (a 4, .inl (k 0, 9, .inl (fil (T 3) (S 3) 9))), (a 5, .inl (k 0, 9, .inl (S 4))), (a 6, .inl (k 0, 12, .inl (S 5))), (a 7, .inl (k 0, 12, .inl (S 6)))] ++ (wSt k b T)) := hD.addr rfl
      have hP : va_P D vwCl ([(a 0, .inr (1, [.ref (a 1), .ref (a 2), .ref (a 3), .ref (a 4), .ref (a 5), .ref (a 6), .ref (a 7), .int (S 7 0), .int (S 7 1), .int (S 7 2)])), (a 1, .inl (k 0, 9, .inl (T 0))), (a 2, .inl (k 0, 9, .inl (T 1))), (a 3, .inl (k 0, 9, .inl (fil (T 2) (S 2) 9))), (a 4, .inl (k 0, 9, .inl (fil (T 3) (S 3) 9))), (a 5, .inl (k 0, 9, .inl (S 4))), (a 6, .inl (k 0, 12, .inl (S 5))), (a 7, .inl (k 0, 12, .inl (S 6)))] ++ (wSt k b T)) H := va_P.ext hP hD 2 rfl (T 1) (fil_in _ _ _)
      have hD : va_D A ([(a 0, .inr (1, [.ref (a 1), .ref (a 2), .ref (a 3), .ref (a 4), .ref (a 5), .ref (a 6), .ref (a 7), .int (S 7 0), .int (S 7 1), .int (S 7 2)])), (a 1, .inl (k 0, 9, .inl (T 0))), (a 2, .inl (k 0, 9, .inl (T 1))), (a 3, .inl (k 0, 9, .inl (fil (T 2) (S 2) 9))), (a 4, .inl (k 0, 9, .inl (fil (T 3) (S 3) 9))), (a 5, .inl (k 0, 9, .inl (S 4))), (a 6, .inl (k 0, 12, .inl (S 5))), (a 7, .inl (k 0, 12, .inl (S 6)))] ++ (wSt k b T)) := hD.addr rfl
      have hP : va_P D vwCl ([(a 0, .inr (1, [.ref (a 1), .ref (a 2), .ref (a 3), .ref (a 4), .ref (a 5), .ref (a 6), .ref (a 7), .int (S 7 0), .int (S 7 1), .int (S 7 2)])), (a 1, .inl (k 0, 9, .inl (T 0))), (a 2, .inl (k 0, 9, .inl (T 1))), (a 3, .inl (k 0, 9, .inl (T 2))), (a 4, .inl (k 0, 9, .inl (fil (T 3) (S 3) 9))), (a 5, .inl (k 0, 9, .inl (S 4))), (a 6, .inl (k 0, 12, .inl (S 5))), (a 7, .inl (k 0, 12, .inl (S 6)))] ++ (wSt k b T)) H := va_P.ext hP hD 3 rfl (T 2) (fil_in _ _ _)
      have hD : va_D A ([(a 0, .inr (1, [.ref (a 1), .ref (a 2), .ref (a 3), .ref (a 4), .ref (a 5), .ref (a 6), .ref (a 7), .int (S 7 0), .int (S 7 1), .int (S 7 2)])), (a 1, .inl (k 0, 9, .inl (T 0))), (a 2, .inl (k 0, 9, .inl (T 1))), (a 3, .inl (k 0, 9, .inl (T 2))), (a 4, .inl (k 0, 9, .inl (fil (T 3) (S 3) 9))), (a 5, .inl (k 0, 9, .inl (S 4))), (a 6, .inl (k 0, 12, .inl (S 5))), (a 7, .inl (k 0, 12, .inl (S 6)))] ++ (wSt k b T)) := hD.addr rfl
      have hP : va_P D vwCl ([(a 0, .inr (1, [.ref (a 1), .ref (a 2), .ref (a 3), .ref (a 4), .ref (a 5), .ref (a 6), .ref (a 7), .int (S 7 0), .int (S 7 1), .int (S 7 2)])), (a 1, .inl (k 0, 9, .inl (T 0))), (a 2, .inl (k 0, 9, .inl (T 1))), (a 3, .inl (k 0, 9, .inl (T 2))), (a 4, .inl (k 0, 9, .inl (T 3))), (a 5, .inl (k 0, 9, .inl (S 4))), (a 6, .inl (k 0, 12, .inl (S 5))), (a 7, .inl (k 0, 12, .inl (S 6)))] ++ (wSt k b T)) H := va_P.ext hP hD 4 rfl (T 3) (fil_in _ _ _)
      have hD : va_D A ([(a 0, .inr (1, [.ref (a 1), .ref (a 2), .ref (a 3), .ref (a 4), .ref (a 5), .ref (a 6), .ref (a 7), .int (S 7 0), .int (S 7 1), .int (S 7 2)])), (a 1, .inl (k 0, 9, .inl (T 0))), (a 2, .inl (k 0, 9, .inl (T 1))), (a 3, .inl (k 0, 9, .inl (T 2))), (a 4, .inl (k 0, 9, .inl (T 3))), (a 5, .inl (k 0, 9, .inl (S 4))), (a 6, .inl (k 0, 12, .inl (S 5))), (a 7, .inl (k 0, 12, .inl (S 6)))] ++ (wSt k b T)) := hD.addr rfl
      subst hQ
      exact rt_v hx hb hr hlocks hS dX1_copyGraph_62 (hP)
    · have c_1 : ¬ (9 ≤ i) := fun h9 => c_1 ((nI_leI (a := 9) (b := i) (by omega) (by omega)).mpr h9)
      refine lv_aload_n hx hb dX1_copyGraph_8 rfl (lv_at hl 1 rfl) ?_
      refine va_get (D := D) (ci := 1) (v := .ref (a 1)) (C := RX1) (T := TX1) (N := 10) hx hb hts (fun _ h9 => (List.mem_cons_of_mem _ (List.mem_append_right _ h9))) hown hK hP 0 rfl rfl 0 (by decide) (hts _ (List.mem_of_getElem? (i := 1) rfl)) (fun _ h9 => h9) rfl dX1_copyGraph_9 ?_
      refine lv_iload_n hx hb dX1_copyGraph_12 rfl (lv_at hl 0 rfl) ?_
      refine lv_aload_n hx hb dX1_copyGraph_13 rfl (lv_at hl 2 rfl) ?_
      refine va_get (D := D) (ci := 1) (v := .ref (b 1)) (C := RX1) (T := TX1) (N := 10) hx hb hts (fun _ h9 => (List.mem_cons_of_mem _ (List.mem_append_right _ h9))) hown hK hP 8 rfl rfl 0 (by decide) (hts _ (List.mem_of_getElem? (i := 1) rfl)) (fun _ h9 => h9) rfl dX1_copyGraph_14 ?_
      refine lv_iload_n hx hb dX1_copyGraph_17 rfl (lv_at hl 0 rfl) ?_
      refine ar_ld hx hb hK hP 9 rfl i (nI_clamp (by omega)) (vp_in_nI (by omega) (by omega)) dX1_copyGraph_18 ?_
      refine ar_st hx hb hK hP hD hS 1 rfl i (nI_clamp (by omega)) (vp_in_nI (by omega) (by omega)) dX1_copyGraph_19 (wn := ([(a 0, .inr (1, [.ref (a 1), .ref (a 2), .ref (a 3), .ref (a 4), .ref (a 5), .ref (a 6), .ref (a 7), .int (S 7 0), .int (S 7 1), .int (S 7 2)])), (a 1, .inl (k 0, 9, .inl (upd g0 i ((T 0) i)))), (a 2, .inl (k 0, 9, .inl g1)), (a 3, .inl (k 0, 9, .inl g2)), (a 4, .inl (k 0, 9, .inl g3)), (a 5, .inl (k 0, 9, .inl (S 4))), (a 6, .inl (k 0, 12, .inl (S 5))), (a 7, .inl (k 0, 12, .inl (S 6)))] ++ (wSt k b T))) rfl (fun H locs hP hD hS => ?_)
      refine lv_aload_n hx hb dX1_copyGraph_20 rfl (lv_at hl 1 rfl) ?_
      refine va_get (D := D) (ci := 1) (v := .ref (a 2)) (C := RX1) (T := TX1) (N := 10) hx hb hts (fun _ h9 => (List.mem_cons_of_mem _ (List.mem_append_right _ h9))) hown hK hP 0 rfl rfl 1 (by decide) (hts _ (List.mem_of_getElem? (i := 2) rfl)) (fun _ h9 => h9) rfl dX1_copyGraph_21 ?_
      refine lv_iload_n hx hb dX1_copyGraph_24 rfl (lv_at hl 0 rfl) ?_
      refine lv_aload_n hx hb dX1_copyGraph_25 rfl (lv_at hl 2 rfl) ?_
      refine va_get (D := D) (ci := 1) (v := .ref (b 2)) (C := RX1) (T := TX1) (N := 10) hx hb hts (fun _ h9 => (List.mem_cons_of_mem _ (List.mem_append_right _ h9))) hown hK hP 8 rfl rfl 1 (by decide) (hts _ (List.mem_of_getElem? (i := 2) rfl)) (fun _ h9 => h9) rfl dX1_copyGraph_26 ?_
      refine lv_iload_n hx hb dX1_copyGraph_29 rfl (lv_at hl 0 rfl) ?_
      refine ar_ld hx hb hK hP 10 rfl i (nI_clamp (by omega)) (vp_in_nI (by omega) (by omega)) dX1_copyGraph_30 ?_
      refine ar_st hx hb hK hP hD hS 2 rfl i (nI_clamp (by omega)) (vp_in_nI (by omega) (by omega)) dX1_copyGraph_31 (wn := ([(a 0, .inr (1, [.ref (a 1), .ref (a 2), .ref (a 3), .ref (a 4), .ref (a 5), .ref (a 6), .ref (a 7), .int (S 7 0), .int (S 7 1), .int (S 7 2)])), (a 1, .inl (k 0, 9, .inl (upd g0 i ((T 0) i)))), (a 2, .inl (k 0, 9, .inl (upd g1 i ((T 1) i)))), (a 3, .inl (k 0, 9, .inl g2)), (a 4, .inl (k 0, 9, .inl g3)), (a 5, .inl (k 0, 9, .inl (S 4))), (a 6, .inl (k 0, 12, .inl (S 5))), (a 7, .inl (k 0, 12, .inl (S 6)))] ++ (wSt k b T))) rfl (fun H locs hP hD hS => ?_)
      refine lv_aload_n hx hb dX1_copyGraph_32 rfl (lv_at hl 1 rfl) ?_
      refine va_get (D := D) (ci := 1) (v := .ref (a 3)) (C := RX1) (T := TX1) (N := 10) hx hb hts (fun _ h9 => (List.mem_cons_of_mem _ (List.mem_append_right _ h9))) hown hK hP 0 rfl rfl 2 (by decide) (hts _ (List.mem_of_getElem? (i := 3) rfl)) (fun _ h9 => h9) rfl dX1_copyGraph_33 ?_
      refine lv_iload_n hx hb dX1_copyGraph_36 rfl (lv_at hl 0 rfl) ?_
      refine lv_aload_n hx hb dX1_copyGraph_37 rfl (lv_at hl 2 rfl) ?_
      refine va_get (D := D) (ci := 1) (v := .ref (b 3)) (C := RX1) (T := TX1) (N := 10) hx hb hts (fun _ h9 => (List.mem_cons_of_mem _ (List.mem_append_right _ h9))) hown hK hP 8 rfl rfl 2 (by decide) (hts _ (List.mem_of_getElem? (i := 3) rfl)) (fun _ h9 => h9) rfl dX1_copyGraph_38 ?_
      refine lv_iload_n hx hb dX1_copyGraph_41 rfl (lv_at hl 0 rfl) ?_
      refine ar_ld hx hb hK hP 11 rfl i (nI_clamp (by omega)) (vp_in_nI (by omega) (by omega)) dX1_copyGraph_42 ?_
      refine ar_st hx hb hK hP hD hS 3 rfl i (nI_clamp (by omega)) (vp_in_nI (by omega) (by omega)) dX1_copyGraph_43 (wn := ([(a 0, .inr (1, [.ref (a 1), .ref (a 2), .ref (a 3), .ref (a 4), .ref (a 5), .ref (a 6), .ref (a 7), .int (S 7 0), .int (S 7 1), .int (S 7 2)])), (a 1, .inl (k 0, 9, .inl (upd g0 i ((T 0) i)))), (a 2, .inl (k 0, 9, .inl (upd g1 i ((T 1) i)))), (a 3, .inl (k 0, 9, .inl (upd g2 i ((T 2) i)))), (a 4, .inl (k 0, 9, .inl g3)), (a 5, .inl (k 0, 9, .inl (S 4))), (a 6, .inl (k 0, 12, .inl (S 5))), (a 7, .inl (k 0, 12, .inl (S 6)))] ++ (wSt k b T))) rfl (fun H locs hP hD hS => ?_)
      refine lv_aload_n hx hb dX1_copyGraph_44 rfl (lv_at hl 1 rfl) ?_
      refine va_get (D := D) (ci := 1) (v := .ref (a 4)) (C := RX1) (T := TX1) (N := 10) hx hb hts (fun _ h9 => (List.mem_cons_of_mem _ (List.mem_append_right _ h9))) hown hK hP 0 rfl rfl 3 (by decide) (hts _ (List.mem_of_getElem? (i := 4) rfl)) (fun _ h9 => h9) rfl dX1_copyGraph_45 ?_
      refine lv_iload_n hx hb dX1_copyGraph_48 rfl (lv_at hl 0 rfl) ?_
      refine lv_aload_n hx hb dX1_copyGraph_49 rfl (lv_at hl 2 rfl) ?_
      refine va_get (D := D) (ci := 1) (v := .ref (b 4)) (C := RX1) (T := TX1) (N := 10) hx hb hts (fun _ h9 => (List.mem_cons_of_mem _ (List.mem_append_right _ h9))) hown hK hP 8 rfl rfl 3 (by decide) (hts _ (List.mem_of_getElem? (i := 4) rfl)) (fun _ h9 => h9) rfl dX1_copyGraph_50 ?_
      refine lv_iload_n hx hb dX1_copyGraph_53 rfl (lv_at hl 0 rfl) ?_
      refine ar_ld hx hb hK hP 12 rfl i (nI_clamp (by omega)) (vp_in_nI (by omega) (by omega)) dX1_copyGraph_54 ?_
      refine ar_st hx hb hK hP hD hS 4 rfl i (nI_clamp (by omega)) (vp_in_nI (by omega) (by omega)) dX1_copyGraph_55 (wn := ([(a 0, .inr (1, [.ref (a 1), .ref (a 2), .ref (a 3), .ref (a 4), .ref (a 5), .ref (a 6), .ref (a 7), .int (S 7 0), .int (S 7 1), .int (S 7 2)])), (a 1, .inl (k 0, 9, .inl (upd g0 i ((T 0) i)))), (a 2, .inl (k 0, 9, .inl (upd g1 i ((T 1) i)))), (a 3, .inl (k 0, 9, .inl (upd g2 i ((T 2) i)))), (a 4, .inl (k 0, 9, .inl (upd g3 i ((T 3) i)))), (a 5, .inl (k 0, 9, .inl (S 4))), (a 6, .inl (k 0, 12, .inl (S 5))), (a 7, .inl (k 0, 12, .inl (S 6)))] ++ (wSt k b T))) rfl (fun H locs hP hD hS => ?_)
      refine lv_iinc (v := (nI (i + 1))) (lv' := [(2, .int (nI (i + 1))), (0, .ref (a 0)), (1, .ref (b 0))]) hx hb dX1_copyGraph_56 hl (k := 0) rfl (nI_1 i) (by decide) rfl (fun ls hl => ?_)
      refine lv_goto (tgt := 2) hx hb dX1_copyGraph_59 (by decide) ?_
      exact ih_i (i + 1) (upd g0 i ((T 0) i)) (upd g1 i ((T 1) i)) (upd g2 i ((T 2) i)) (upd g3 i ((T 3) i)) (by omega) (by omega) (by rw [e_g0]; exact fil_s (T 0) (S 0) i) (by rw [e_g1]; exact fil_s (T 1) (S 1) i) (by rw [e_g2]; exact fil_s (T 2) (S 2) i) (by rw [e_g3]; exact fil_s (T 3) (S 3) i)  _ _ _ hP hD hS (lv_sub hl [0, 1, 2] rfl)

set_option maxHeartbeats 1000000 in
set_option maxRecDepth 100000 in
theorem c_X1_copySplitting (l : Launch) (D : va_G) (k : Nat → ClassId) (a b : Nat → Nat) (S T : Nat → Nat → Int32)  : MV l yX1_copySplitting wsX1_copySplitting ({ frames := 0, cells := 0, slots := 0, locals := 0 }) D k [.ref (a 0), .ref (b 0)] (wSt k a S ++ (wSt k b T)) (wSt k a (mkS (S 0) (S 1) (S 2) (S 3) (T 4) (T 5) (T 6) (cnt (T 7 0) (T 7 1) (T 7 2))) ++ wSt k b T) := by
  intro sz
  refine Met.ofW (cc := cX1_copySplitting) (maxL := 3) (ret := none) (by decide) rfl ?_
  intro p e s m args below meth c s₁ B hml hv
  obtain ⟨rfl, hN, hsz, hP, hK, hD0⟩ := hv
  have hx := B.exec
  have hb := B.bytes
  have hr := B.returns
  have hts := atoms_spec (ws := wsX1_copySplitting) B.pre
  have hown : s.vm.findClass RX1 = some m.cls := findClass_of_methodNamed B.named
  have hlocks := B.notSynchronized
  subst hsz
  have hD := hD0.self (sz := s.heap.size)
  generalize hAe : va_A (wSt k a S ++ (wSt k b T)) s.heap.size = A at hD ⊢
  have hA : ∀ q : Nat, s.heap.size ≤ q → A q := fun q h => by rw [← hAe]; exact Or.inr h
  have hS : va_S A s.heap s.heap [] := va_S.rf
  have hl := lv_entry ([.ref (a 0), .ref (b 0)]) (n := 3) (Nat.le_of_ble_eq_true rfl)
  rw [lg_entry_eq]
  generalize (lg_sl ([.ref (a 0), .ref (b 0)]) ++ List.replicate (3 - (lg_sl ([.ref (a 0), .ref (b 0)])).length) Slot.unset).toArray = ls at hl ⊢
  have hl : lv_has ls 3 [(0, .ref (a 0)), (1, .ref (b 0))] := hl
  obtain ⟨H, hHe⟩ : ∃ H, H = s.heap := ⟨_, rfl⟩
  have hP : va_P D vwCl (wSt k a S ++ (wSt k b T)) H := by rw [hHe]; exact hP
  have hS : va_S A s.heap H [] := by rw [hHe]; exact hS
  rw [← hHe]
  refine absQ (fun Q hQ => ?_)
  refine lv_iconst (v := 0) hx hb dX1_copySplitting_0 (by decide) ?_
  refine lv_istore_n (lv' := [(2, .int 0), (0, .ref (a 0)), (1, .ref (b 0))]) hx hb dX1_copySplitting_1 rfl hl (by decide) rfl (fun ls hl => ?_)
  suffices LOOP_i : ∀ (fu_i i : Nat) (g4 : Nat → Int32), 9 - i < fu_i → i ≤ 9 → g4 = fil (T 4) (S 4) i → ∀ (H : Heap) (locs : List Loc) (ls : Array Slot), va_P D vwCl ([(a 0, .inr (1, [.ref (a 1), .ref (a 2), .ref (a 3), .ref (a 4), .ref (a 5), .ref (a 6), .ref (a 7), .int (S 7 0), .int (S 7 1), .int (S 7 2)])), (a 1, .inl (k 0, 9, .inl (S 0))), (a 2, .inl (k 0, 9, .inl (S 1))), (a 3, .inl (k 0, 9, .inl (S 2))), (a 4, .inl (k 0, 9, .inl (S 3))), (a 5, .inl (k 0, 9, .inl g4)), (a 6, .inl (k 0, 12, .inl (S 5))), (a 7, .inl (k 0, 12, .inl (S 6)))] ++ (wSt k b T)) H → va_D A ([(a 0, .inr (1, [.ref (a 1), .ref (a 2), .ref (a 3), .ref (a 4), .ref (a 5), .ref (a 6), .ref (a 7), .int (S 7 0), .int (S 7 1), .int (S 7 2)])), (a 1, .inl (k 0, 9, .inl (S 0))), (a 2, .inl (k 0, 9, .inl (S 1))), (a 3, .inl (k 0, 9, .inl (S 2))), (a 4, .inl (k 0, 9, .inl (S 3))), (a 5, .inl (k 0, 9, .inl g4)), (a 6, .inl (k 0, 12, .inl (S 5))), (a 7, .inl (k 0, 12, .inl (S 6)))] ++ (wSt k b T)) → va_S A s.heap H locs → lv_has ls 3 [(2, .int (nI i)), (0, .ref (a 0)), (1, .ref (b 0))] → W p l e ({ frames := 0, cells := 0, slots := 0, locals := 0 } : Room) s m ([.ref (a 0), .ref (b 0)] : List Value).toArray below meth c H locs 0 0 Q (F0 m 2 ls []) from LOOP_i (9 + 1) 0 (S 4) (by omega) (by omega) ((fil_0 _ _).symm)  _ _ _ hP hD hS (lv_sub hl [0, 1, 2] rfl)
  clear hP hD hS hl hHe
  intro fu_i
  induction fu_i with
  | zero => intro i g4 hn_i; omega
  | succ fu_i ih_i =>
    intro i g4 hn_i hle_i e_g4  H locs ls hP hD hS hl
    refine lv_iload_n hx hb dX1_copySplitting_2 rfl (lv_at hl 0 rfl) ?_
    refine lv_bipush (v := 9) hx hb dX1_copySplitting_3 (by decide) ?_
    refine lv_icmp_ge (tgt := 26) hx hb dX1_copySplitting_5 (by decide) (fun c_1 => ?_) (fun c_1 => ?_)
    · have c_1 : 9 ≤ i := (nI_leI (a := 9) (b := i) (by omega) (by omega)).mp c_1
      obtain rfl : i = 9 := by omega
      subst e_g4
      have hP : va_P D vwCl ([(a 0, .inr (1, [.ref (a 1), .ref (a 2), .ref (a 3), .ref (a 4), .ref (a 5), .ref (a 6), .ref (a 7), .int (S 7 0), .int (S 7 1), .int (S 7 2)])), (a 1, .inl (k 0, 9, .inl (S 0))), (a 2, .inl (k 0, 9, .inl (S 1))), (a 3, .inl (k 0, 9, .inl (S 2))), (a 4, .inl (k 0, 9, .inl (S 3))), (a 5, .inl (k 0, 9, .inl (T 4))), (a 6, .inl (k 0, 12, .inl (S 5))), (a 7, .inl (k 0, 12, .inl (S 6)))] ++ (wSt k b T)) H := va_P.ext hP hD 5 rfl (T 4) (fil_in _ _ _)
      have hD : va_D A ([(a 0, .inr (1, [.ref (a 1), .ref (a 2), .ref (a 3), .ref (a 4), .ref (a 5), .ref (a 6), .ref (a 7), .int (S 7 0), .int (S 7 1), .int (S 7 2)])), (a 1, .inl (k 0, 9, .inl (S 0))), (a 2, .inl (k 0, 9, .inl (S 1))), (a 3, .inl (k 0, 9, .inl (S 2))), (a 4, .inl (k 0, 9, .inl (S 3))), (a 5, .inl (k 0, 9, .inl (T 4))), (a 6, .inl (k 0, 12, .inl (S 5))), (a 7, .inl (k 0, 12, .inl (S 6)))] ++ (wSt k b T)) := hD.addr rfl
      refine lv_iconst (v := 0) hx hb dX1_copySplitting_26 (by decide) ?_
      refine lv_istore_n (lv' := [(2, .int 0), (0, .ref (a 0)), (1, .ref (b 0))]) hx hb dX1_copySplitting_27 rfl hl (by decide) rfl (fun ls hl => ?_)
      suffices LOOP_i2 : ∀ (fu_i2 i2 : Nat) (g5 : Nat → Int32) (g6 : Nat → Int32), 12 - i2 < fu_i2 → i2 ≤ 12 → g5 = fil (T 5) (S 5) i2 → g6 = fil (T 6) (S 6) i2 → ∀ (H : Heap) (locs : List Loc) (ls : Array Slot), va_P D vwCl ([(a 0, .inr (1, [.ref (a 1), .ref (a 2), .ref (a 3), .ref (a 4), .ref (a 5), .ref (a 6), .ref (a 7), .int (S 7 0), .int (S 7 1), .int (S 7 2)])), (a 1, .inl (k 0, 9, .inl (S 0))), (a 2, .inl (k 0, 9, .inl (S 1))), (a 3, .inl (k 0, 9, .inl (S 2))), (a 4, .inl (k 0, 9, .inl (S 3))), (a 5, .inl (k 0, 9, .inl (T 4))), (a 6, .inl (k 0, 12, .inl g5)), (a 7, .inl (k 0, 12, .inl g6))] ++ (wSt k b T)) H → va_D A ([(a 0, .inr (1, [.ref (a 1), .ref (a 2), .ref (a 3), .ref (a 4), .ref (a 5), .ref (a 6), .ref (a 7), .int (S 7 0), .int (S 7 1), .int (S 7 2)])), (a 1, .inl (k 0, 9, .inl (S 0))), (a 2, .inl (k 0, 9, .inl (S 1))), (a 3, .inl (k 0, 9, .inl (S 2))), (a 4, .inl (k 0, 9, .inl (S 3))), (a 5, .inl (k 0, 9, .inl (T 4))), (a 6, .inl (k 0, 12, .inl g5)), (a 7, .inl (k 0, 12, .inl g6))] ++ (wSt k b T)) → va_S A s.heap H locs → lv_has ls 3 [(2, .int (nI i2)), (0, .ref (a 0)), (1, .ref (b 0))] → W p l e ({ frames := 0, cells := 0, slots := 0, locals := 0 } : Room) s m ([.ref (a 0), .ref (b 0)] : List Value).toArray below meth c H locs 0 0 Q (F0 m 28 ls []) from LOOP_i2 (12 + 1) 0 (S 5) (S 6) (by omega) (by omega) ((fil_0 _ _).symm) ((fil_0 _ _).symm)  _ _ _ hP hD hS (lv_sub hl [0, 1, 2] rfl)
      clear hP hD hS hl
      intro fu_i2
      induction fu_i2 with
      | zero => intro i2 g5 g6 hn_i2; omega
      | succ fu_i2 ih_i2 =>
        intro i2 g5 g6 hn_i2 hle_i2 e_g5 e_g6  H locs ls hP hD hS hl
        refine lv_iload_n hx hb dX1_copySplitting_28 rfl (lv_at hl 0 rfl) ?_
        refine lv_bipush (v := 12) hx hb dX1_copySplitting_29 (by decide) ?_
        refine lv_icmp_ge (tgt := 64) hx hb dX1_copySplitting_31 (by decide) (fun c_2 => ?_) (fun c_2 => ?_)
        · have c_2 : 12 ≤ i2 := (nI_leI (a := 12) (b := i2) (by omega) (by omega)).mp c_2
          obtain rfl : i2 = 12 := by omega
          subst e_g5
          subst e_g6
          have hP : va_P D vwCl ([(a 0, .inr (1, [.ref (a 1), .ref (a 2), .ref (a 3), .ref (a 4), .ref (a 5), .ref (a 6), .ref (a 7), .int (S 7 0), .int (S 7 1), .int (S 7 2)])), (a 1, .inl (k 0, 9, .inl (S 0))), (a 2, .inl (k 0, 9, .inl (S 1))), (a 3, .inl (k 0, 9, .inl (S 2))), (a 4, .inl (k 0, 9, .inl (S 3))), (a 5, .inl (k 0, 9, .inl (T 4))), (a 6, .inl (k 0, 12, .inl (T 5))), (a 7, .inl (k 0, 12, .inl (fil (T 6) (S 6) 12)))] ++ (wSt k b T)) H := va_P.ext hP hD 6 rfl (T 5) (fil_in _ _ _)
          have hD : va_D A ([(a 0, .inr (1, [.ref (a 1), .ref (a 2), .ref (a 3), .ref (a 4), .ref (a 5), .ref (a 6), .ref (a 7), .int (S 7 0), .int (S 7 1), .int (S 7 2)])), (a 1, .inl (k 0, 9, .inl (S 0))), (a 2, .inl (k 0, 9, .inl (S 1))), (a 3, .inl (k 0, 9, .inl (S 2))), (a 4, .inl (k 0, 9, .inl (S 3))), (a 5, .inl (k 0, 9, .inl (T 4))), (a 6, .inl (k 0, 12, .inl (T 5))), (a 7, .inl (k 0, 12, .inl (fil (T 6) (S 6) 12)))] ++ (wSt k b T)) := hD.addr rfl
          have hP : va_P D vwCl ([(a 0, .inr (1, [.ref (a 1), .ref (a 2), .ref (a 3), .ref (a 4), .ref (a 5), .ref (a 6), .ref (a 7), .int (S 7 0), .int (S 7 1), .int (S 7 2)])), (a 1, .inl (k 0, 9, .inl (S 0))), (a 2, .inl (k 0, 9, .inl (S 1))), (a 3, .inl (k 0, 9, .inl (S 2))), (a 4, .inl (k 0, 9, .inl (S 3))), (a 5, .inl (k 0, 9, .inl (T 4))), (a 6, .inl (k 0, 12, .inl (T 5))), (a 7, .inl (k 0, 12, .inl (T 6)))] ++ (wSt k b T)) H := va_P.ext hP hD 7 rfl (T 6) (fil_in _ _ _)
          have hD : va_D A ([(a 0, .inr (1, [.ref (a 1), .ref (a 2), .ref (a 3), .ref (a 4), .ref (a 5), .ref (a 6), .ref (a 7), .int (S 7 0), .int (S 7 1), .int (S 7 2)])), (a 1, .inl (k 0, 9, .inl (S 0))), (a 2, .inl (k 0, 9, .inl (S 1))), (a 3, .inl (k 0, 9, .inl (S 2))), (a 4, .inl (k 0, 9, .inl (S 3))), (a 5, .inl (k 0, 9, .inl (T 4))), (a 6, .inl (k 0, 12, .inl (T 5))), (a 7, .inl (k 0, 12, .inl (T 6)))] ++ (wSt k b T)) := hD.addr rfl
          refine lv_aload_n hx hb dX1_copySplitting_64 rfl (lv_at hl 1 rfl) ?_
          refine lv_aload_n hx hb dX1_copySplitting_65 rfl (lv_at hl 2 rfl) ?_
          refine va_get (D := D) (ci := 1) (v := .int (T 7 0)) (C := RX1) (T := TX1) (N := 10) hx hb hts (fun _ h9 => (List.mem_cons_of_mem _ (List.mem_append_right _ h9))) hown hK hP 8 rfl rfl 7 (by decide) (hts _ (List.mem_of_getElem? (i := 4) rfl)) (fun _ h9 => h9) rfl dX1_copySplitting_66 ?_
          refine va_put (D := D) (ci := 1) (v := .int (T 7 0)) (ty := tyX1 7) (C := RX1) (T := TX1) (N := 10) hx hb hts (fun _ h9 => (List.mem_cons_of_mem _ (List.mem_append_right _ h9))) tyX1 tyX1_ok nmX1 hown hK hP hD hS 0 rfl rfl 7 (by decide) (hts _ (List.mem_of_getElem? (i := 4) rfl)) (fun _ h9 => h9) rfl (tyX1_ok 7 (by decide)) rfl rfl (Nat.le_of_ble_eq_true rfl) dX1_copySplitting_69 (fun H locs hP hD hS => ?_)
          have hP : va_P D vwCl ([(a 0, .inr (1, [.ref (a 1), .ref (a 2), .ref (a 3), .ref (a 4), .ref (a 5), .ref (a 6), .ref (a 7), .int (T 7 0), .int (S 7 1), .int (S 7 2)])), (a 1, .inl (k 0, 9, .inl (S 0))), (a 2, .inl (k 0, 9, .inl (S 1))), (a 3, .inl (k 0, 9, .inl (S 2))), (a 4, .inl (k 0, 9, .inl (S 3))), (a 5, .inl (k 0, 9, .inl (T 4))), (a 6, .inl (k 0, 12, .inl (T 5))), (a 7, .inl (k 0, 12, .inl (T 6)))] ++ (wSt k b T)) H := hP
          have hD : va_D A ([(a 0, .inr (1, [.ref (a 1), .ref (a 2), .ref (a 3), .ref (a 4), .ref (a 5), .ref (a 6), .ref (a 7), .int (T 7 0), .int (S 7 1), .int (S 7 2)])), (a 1, .inl (k 0, 9, .inl (S 0))), (a 2, .inl (k 0, 9, .inl (S 1))), (a 3, .inl (k 0, 9, .inl (S 2))), (a 4, .inl (k 0, 9, .inl (S 3))), (a 5, .inl (k 0, 9, .inl (T 4))), (a 6, .inl (k 0, 12, .inl (T 5))), (a 7, .inl (k 0, 12, .inl (T 6)))] ++ (wSt k b T)) := hD
          refine lv_aload_n hx hb dX1_copySplitting_72 rfl (lv_at hl 1 rfl) ?_
          refine lv_aload_n hx hb dX1_copySplitting_73 rfl (lv_at hl 2 rfl) ?_
          refine va_get (D := D) (ci := 1) (v := .int (T 7 1)) (C := RX1) (T := TX1) (N := 10) hx hb hts (fun _ h9 => (List.mem_cons_of_mem _ (List.mem_append_right _ h9))) hown hK hP 8 rfl rfl 8 (by decide) (hts _ (List.mem_of_getElem? (i := 5) rfl)) (fun _ h9 => h9) rfl dX1_copySplitting_74 ?_
          refine va_put (D := D) (ci := 1) (v := .int (T 7 1)) (ty := tyX1 8) (C := RX1) (T := TX1) (N := 10) hx hb hts (fun _ h9 => (List.mem_cons_of_mem _ (List.mem_append_right _ h9))) tyX1 tyX1_ok nmX1 hown hK hP hD hS 0 rfl rfl 8 (by decide) (hts _ (List.mem_of_getElem? (i := 5) rfl)) (fun _ h9 => h9) rfl (tyX1_ok 8 (by decide)) rfl rfl (Nat.le_of_ble_eq_true rfl) dX1_copySplitting_77 (fun H locs hP hD hS => ?_)
          have hP : va_P D vwCl ([(a 0, .inr (1, [.ref (a 1), .ref (a 2), .ref (a 3), .ref (a 4), .ref (a 5), .ref (a 6), .ref (a 7), .int (T 7 0), .int (T 7 1), .int (S 7 2)])), (a 1, .inl (k 0, 9, .inl (S 0))), (a 2, .inl (k 0, 9, .inl (S 1))), (a 3, .inl (k 0, 9, .inl (S 2))), (a 4, .inl (k 0, 9, .inl (S 3))), (a 5, .inl (k 0, 9, .inl (T 4))), (a 6, .inl (k 0, 12, .inl (T 5))), (a 7, .inl (k 0, 12, .inl (T 6)))] ++ (wSt k b T)) H := hP
          have hD : va_D A ([(a 0, .inr (1, [.ref (a 1), .ref (a 2), .ref (a 3), .ref (a 4), .ref (a 5), .ref (a 6), .ref (a 7), .int (T 7 0), .int (T 7 1), .int (S 7 2)])), (a 1, .inl (k 0, 9, .inl (S 0))), (a 2, .inl (k 0, 9, .inl (S 1))), (a 3, .inl (k 0, 9, .inl (S 2))), (a 4, .inl (k 0, 9, .inl (S 3))), (a 5, .inl (k 0, 9, .inl (T 4))), (a 6, .inl (k 0, 12, .inl (T 5))), (a 7, .inl (k 0, 12, .inl (T 6)))] ++ (wSt k b T)) := hD
          refine lv_aload_n hx hb dX1_copySplitting_80 rfl (lv_at hl 1 rfl) ?_
          refine lv_aload_n hx hb dX1_copySplitting_81 rfl (lv_at hl 2 rfl) ?_
          refine va_get (D := D) (ci := 1) (v := .int (T 7 2)) (C := RX1) (T := TX1) (N := 10) hx hb hts (fun _ h9 => (List.mem_cons_of_mem _ (List.mem_append_right _ h9))) hown hK hP 8 rfl rfl 9 (by decide) (hts _ (List.mem_of_getElem? (i := 6) rfl)) (fun _ h9 => h9) rfl dX1_copySplitting_82 ?_
          refine va_put (D := D) (ci := 1) (v := .int (T 7 2)) (ty := tyX1 9) (C := RX1) (T := TX1) (N := 10) hx hb hts (fun _ h9 => (List.mem_cons_of_mem _ (List.mem_append_right _ h9))) tyX1 tyX1_ok nmX1 hown hK hP hD hS 0 rfl rfl 9 (by decide) (hts _ (List.mem_of_getElem? (i := 6) rfl)) (fun _ h9 => h9) rfl (tyX1_ok 9 (by decide)) rfl rfl (Nat.le_of_ble_eq_true rfl) dX1_copySplitting_85 (fun H locs hP hD hS => ?_)
          have hP : va_P D vwCl ([(a 0, .inr (1, [.ref (a 1), .ref (a 2), .ref (a 3), .ref (a 4), .ref (a 5), .ref (a 6), .ref (a 7), .int (T 7 0), .int (T 7 1), .int (T 7 2)])), (a 1, .inl (k 0, 9, .inl (S 0))), (a 2, .inl (k 0, 9, .inl (S 1))), (a 3, .inl (k 0, 9, .inl (S 2))), (a 4, .inl (k 0, 9, .inl (S 3))), (a 5, .inl (k 0, 9, .inl (T 4))), (a 6, .inl (k 0, 12, .inl (T 5))), (a 7, .inl (k 0, 12, .inl (T 6)))] ++ (wSt k b T)) H := hP
          have hD : va_D A ([(a 0, .inr (1, [.ref (a 1), .ref (a 2), .ref (a 3), .ref (a 4), .ref (a 5), .ref (a 6), .ref (a 7), .int (T 7 0), .int (T 7 1), .int (T 7 2)])), (a 1, .inl (k 0, 9, .inl (S 0))), (a 2, .inl (k 0, 9, .inl (S 1))), (a 3, .inl (k 0, 9, .inl (S 2))), (a 4, .inl (k 0, 9, .inl (S 3))), (a 5, .inl (k 0, 9, .inl (T 4))), (a 6, .inl (k 0, 12, .inl (T 5))), (a 7, .inl (k 0, 12, .inl (T 6)))] ++ (wSt k b T)) := hD
          subst hQ
          exact rt_v hx hb hr hlocks hS dX1_copySplitting_88 (hP)
        · have c_2 : ¬ (12 ≤ i2) := fun h9 => c_2 ((nI_leI (a := 12) (b := i2) (by omega) (by omega)).mpr h9)
          refine lv_aload_n hx hb dX1_copySplitting_34 rfl (lv_at hl 1 rfl) ?_
          refine va_get (D := D) (ci := 1) (v := .ref (a 6)) (C := RX1) (T := TX1) (N := 10) hx hb hts (fun _ h9 => (List.mem_cons_of_mem _ (List.mem_append_right _ h9))) hown hK hP 0 rfl rfl 5 (by decide) (hts _ (List.mem_of_getElem? (i := 2) rfl)) (fun _ h9 => h9) rfl dX1_copySplitting_35 ?_
          refine lv_iload_n hx hb dX1_copySplitting_38 rfl (lv_at hl 0 rfl) ?_
          refine lv_aload_n hx hb dX1_copySplitting_39 rfl (lv_at hl 2 rfl) ?_
          refine va_get (D := D) (ci := 1) (v := .ref (b 6)) (C := RX1) (T := TX1) (N := 10) hx hb hts (fun _ h9 => (List.mem_cons_of_mem _ (List.mem_append_right _ h9))) hown hK hP 8 rfl rfl 5 (by decide) (hts _ (List.mem_of_getElem? (i := 2) rfl)) (fun _ h9 => h9) rfl dX1_copySplitting_40 ?_
          refine lv_iload_n hx hb dX1_copySplitting_43 rfl (lv_at hl 0 rfl) ?_
          refine ar_ld hx hb hK hP 14 rfl i2 (nI_clamp (by omega)) (vp_in_nI (by omega) (by omega)) dX1_copySplitting_44 ?_
          refine ar_st hx hb hK hP hD hS 6 rfl i2 (nI_clamp (by omega)) (vp_in_nI (by omega) (by omega)) dX1_copySplitting_45 (wn := ([(a 0, .inr (1, [.ref (a 1), .ref (a 2), .ref (a 3), .ref (a 4), .ref (a 5), .ref (a 6), .ref (a 7), .int (S 7 0), .int (S 7 1), .int (S 7 2)])), (a 1, .inl (k 0, 9, .inl (S 0))), (a 2, .inl (k 0, 9, .inl (S 1))), (a 3, .inl (k 0, 9, .inl (S 2))), (a 4, .inl (k 0, 9, .inl (S 3))), (a 5, .inl (k 0, 9, .inl (T 4))), (a 6, .inl (k 0, 12, .inl (upd g5 i2 ((T 5) i2)))), (a 7, .inl (k 0, 12, .inl g6))] ++ (wSt k b T))) rfl (fun H locs hP hD hS => ?_)
          refine lv_aload_n hx hb dX1_copySplitting_46 rfl (lv_at hl 1 rfl) ?_
          refine va_get (D := D) (ci := 1) (v := .ref (a 7)) (C := RX1) (T := TX1) (N := 10) hx hb hts (fun _ h9 => (List.mem_cons_of_mem _ (List.mem_append_right _ h9))) hown hK hP 0 rfl rfl 6 (by decide) (hts _ (List.mem_of_getElem? (i := 3) rfl)) (fun _ h9 => h9) rfl dX1_copySplitting_47 ?_
          refine lv_iload_n hx hb dX1_copySplitting_50 rfl (lv_at hl 0 rfl) ?_
          refine lv_aload_n hx hb dX1_copySplitting_51 rfl (lv_at hl 2 rfl) ?_
          refine va_get (D := D) (ci := 1) (v := .ref (b 7)) (C := RX1) (T := TX1) (N := 10) hx hb hts (fun _ h9 => (List.mem_cons_of_mem _ (List.mem_append_right _ h9))) hown hK hP 8 rfl rfl 6 (by decide) (hts _ (List.mem_of_getElem? (i := 3) rfl)) (fun _ h9 => h9) rfl dX1_copySplitting_52 ?_
          refine lv_iload_n hx hb dX1_copySplitting_55 rfl (lv_at hl 0 rfl) ?_
          refine ar_ld hx hb hK hP 15 rfl i2 (nI_clamp (by omega)) (vp_in_nI (by omega) (by omega)) dX1_copySplitting_56 ?_
          refine ar_st hx hb hK hP hD hS 7 rfl i2 (nI_clamp (by omega)) (vp_in_nI (by omega) (by omega)) dX1_copySplitting_57 (wn := ([(a 0, .inr (1, [.ref (a 1), .ref (a 2), .ref (a 3), .ref (a 4), .ref (a 5), .ref (a 6), .ref (a 7), .int (S 7 0), .int (S 7 1), .int (S 7 2)])), (a 1, .inl (k 0, 9, .inl (S 0))), (a 2, .inl (k 0, 9, .inl (S 1))), (a 3, .inl (k 0, 9, .inl (S 2))), (a 4, .inl (k 0, 9, .inl (S 3))), (a 5, .inl (k 0, 9, .inl (T 4))), (a 6, .inl (k 0, 12, .inl (upd g5 i2 ((T 5) i2)))), (a 7, .inl (k 0, 12, .inl (upd g6 i2 ((T 6) i2))))] ++ (wSt k b T))) rfl (fun H locs hP hD hS => ?_)
          refine lv_iinc (v := (nI (i2 + 1))) (lv' := [(2, .int (nI (i2 + 1))), (0, .ref (a 0)), (1, .ref (b 0))]) hx hb dX1_copySplitting_58 hl (k := 0) rfl (nI_1 i2) (by decide) rfl (fun ls hl => ?_)
          refine lv_goto (tgt := 28) hx hb dX1_copySplitting_61 (by decide) ?_
          exact ih_i2 (i2 + 1) (upd g5 i2 ((T 5) i2)) (upd g6 i2 ((T 6) i2)) (by omega) (by omega) (by rw [e_g5]; exact fil_s (T 5) (S 5) i2) (by rw [e_g6]; exact fil_s (T 6) (S 6) i2)  _ _ _ hP hD hS (lv_sub hl [0, 1, 2] rfl)
    · have c_1 : ¬ (9 ≤ i) := fun h9 => c_1 ((nI_leI (a := 9) (b := i) (by omega) (by omega)).mpr h9)
      refine lv_aload_n hx hb dX1_copySplitting_8 rfl (lv_at hl 1 rfl) ?_
      refine va_get (D := D) (ci := 1) (v := .ref (a 5)) (C := RX1) (T := TX1) (N := 10) hx hb hts (fun _ h9 => (List.mem_cons_of_mem _ (List.mem_append_right _ h9))) hown hK hP 0 rfl rfl 4 (by decide) (hts _ (List.mem_of_getElem? (i := 1) rfl)) (fun _ h9 => h9) rfl dX1_copySplitting_9 ?_
      refine lv_iload_n hx hb dX1_copySplitting_12 rfl (lv_at hl 0 rfl) ?_
      refine lv_aload_n hx hb dX1_copySplitting_13 rfl (lv_at hl 2 rfl) ?_
      refine va_get (D := D) (ci := 1) (v := .ref (b 5)) (C := RX1) (T := TX1) (N := 10) hx hb hts (fun _ h9 => (List.mem_cons_of_mem _ (List.mem_append_right _ h9))) hown hK hP 8 rfl rfl 4 (by decide) (hts _ (List.mem_of_getElem? (i := 1) rfl)) (fun _ h9 => h9) rfl dX1_copySplitting_14 ?_
      refine lv_iload_n hx hb dX1_copySplitting_17 rfl (lv_at hl 0 rfl) ?_
      refine ar_ld hx hb hK hP 13 rfl i (nI_clamp (by omega)) (vp_in_nI (by omega) (by omega)) dX1_copySplitting_18 ?_
      refine ar_st hx hb hK hP hD hS 5 rfl i (nI_clamp (by omega)) (vp_in_nI (by omega) (by omega)) dX1_copySplitting_19 (wn := ([(a 0, .inr (1, [.ref (a 1), .ref (a 2), .ref (a 3), .ref (a 4), .ref (a 5), .ref (a 6), .ref (a 7), .int (S 7 0), .int (S 7 1), .int (S 7 2)])), (a 1, .inl (k 0, 9, .inl (S 0))), (a 2, .inl (k 0, 9, .inl (S 1))), (a 3, .inl (k 0, 9, .inl (S 2))), (a 4, .inl (k 0, 9, .inl (S 3))), (a 5, .inl (k 0, 9, .inl (upd g4 i ((T 4) i)))), (a 6, .inl (k 0, 12, .inl (S 5))), (a 7, .inl (k 0, 12, .inl (S 6)))] ++ (wSt k b T))) rfl (fun H locs hP hD hS => ?_)
      refine lv_iinc (v := (nI (i + 1))) (lv' := [(2, .int (nI (i + 1))), (0, .ref (a 0)), (1, .ref (b 0))]) hx hb dX1_copySplitting_20 hl (k := 0) rfl (nI_1 i) (by decide) rfl (fun ls hl => ?_)
      refine lv_goto (tgt := 2) hx hb dX1_copySplitting_23 (by decide) ?_
      exact ih_i (i + 1) (upd g4 i ((T 4) i)) (by omega) (by omega) (by rw [e_g4]; exact fil_s (T 4) (S 4) i)  _ _ _ hP hD hS (lv_sub hl [0, 1, 2] rfl)

set_option maxHeartbeats 1000000 in
set_option maxRecDepth 100000 in
theorem c_X1_beginAnew (l : Launch) (D : va_G) (k : Nat → ClassId) (a : Nat → Nat) (S : Nat → Nat → Int32)  : MV l yX1_beginAnew wsX1_beginAnew ({ frames := 0, cells := 0, slots := 0, locals := 0 }) D k [.ref (a 0)] (wSt k a S) (wSt k a (mkS (S 0) (S 1) (S 2) (S 3) (S 0) (S 5) (S 6) (cnt 0 (S 7 1) (S 7 2)))) := by
  intro sz
  refine Met.ofW (cc := cX1_beginAnew) (maxL := 2) (ret := none) (by decide) rfl ?_
  intro p e s m args below meth c s₁ B hml hv
  obtain ⟨rfl, hN, hsz, hP, hK, hD0⟩ := hv
  have hx := B.exec
  have hb := B.bytes
  have hr := B.returns
  have hts := atoms_spec (ws := wsX1_beginAnew) B.pre
  have hown : s.vm.findClass RX1 = some m.cls := findClass_of_methodNamed B.named
  have hlocks := B.notSynchronized
  subst hsz
  have hD := hD0.self (sz := s.heap.size)
  generalize hAe : va_A (wSt k a S) s.heap.size = A at hD ⊢
  have hA : ∀ q : Nat, s.heap.size ≤ q → A q := fun q h => by rw [← hAe]; exact Or.inr h
  have hS : va_S A s.heap s.heap [] := va_S.rf
  have hl := lv_entry ([.ref (a 0)]) (n := 2) (Nat.le_of_ble_eq_true rfl)
  rw [lg_entry_eq]
  generalize (lg_sl ([.ref (a 0)]) ++ List.replicate (2 - (lg_sl ([.ref (a 0)])).length) Slot.unset).toArray = ls at hl ⊢
  have hl : lv_has ls 2 [(0, .ref (a 0))] := hl
  obtain ⟨H, hHe⟩ : ∃ H, H = s.heap := ⟨_, rfl⟩
  have hP : va_P D vwCl (wSt k a S) H := by rw [hHe]; exact hP
  have hS : va_S A s.heap H [] := by rw [hHe]; exact hS
  rw [← hHe]
  refine absQ (fun Q hQ => ?_)
  refine lv_aload_n hx hb dX1_beginAnew_0 rfl (lv_at hl 0 rfl) ?_
  refine lv_iconst (v := 0) hx hb dX1_beginAnew_1 (by decide) ?_
  refine va_put (D := D) (ci := 1) (v := .int 0) (ty := tyX1 7) (C := RX1) (T := TX1) (N := 10) hx hb hts (fun _ h9 => (List.mem_cons_of_mem _ (List.mem_append_right _ h9))) tyX1 tyX1_ok nmX1 hown hK hP hD hS 0 rfl rfl 7 (by decide) (hts _ (List.mem_of_getElem? (i := 1) rfl)) (fun _ h9 => h9) rfl (tyX1_ok 7 (by decide)) rfl rfl (Nat.le_of_ble_eq_true rfl) dX1_beginAnew_2 (fun H locs hP hD hS => ?_)
  have hP : va_P D vwCl ([(a 0, .inr (1, [.ref (a 1), .ref (a 2), .ref (a 3), .ref (a 4), .ref (a 5), .ref (a 6), .ref (a 7), .int 0, .int (S 7 1), .int (S 7 2)])), (a 1, .inl (k 0, 9, .inl (S 0))), (a 2, .inl (k 0, 9, .inl (S 1))), (a 3, .inl (k 0, 9, .inl (S 2))), (a 4, .inl (k 0, 9, .inl (S 3))), (a 5, .inl (k 0, 9, .inl (S 4))), (a 6, .inl (k 0, 12, .inl (S 5))), (a 7, .inl (k 0, 12, .inl (S 6)))]) H := hP
  have hD : va_D A ([(a 0, .inr (1, [.ref (a 1), .ref (a 2), .ref (a 3), .ref (a 4), .ref (a 5), .ref (a 6), .ref (a 7), .int 0, .int (S 7 1), .int (S 7 2)])), (a 1, .inl (k 0, 9, .inl (S 0))), (a 2, .inl (k 0, 9, .inl (S 1))), (a 3, .inl (k 0, 9, .inl (S 2))), (a 4, .inl (k 0, 9, .inl (S 3))), (a 5, .inl (k 0, 9, .inl (S 4))), (a 6, .inl (k 0, 12, .inl (S 5))), (a 7, .inl (k 0, 12, .inl (S 6)))]) := hD
  refine lv_iconst (v := 0) hx hb dX1_beginAnew_5 (by decide) ?_
  refine lv_istore_n (lv' := [(1, .int 0), (0, .ref (a 0))]) hx hb dX1_beginAnew_6 rfl hl (by decide) rfl (fun ls hl => ?_)
  suffices LOOP_i : ∀ (fu_i i : Nat) (g4 : Nat → Int32), 9 - i < fu_i → i ≤ 9 → g4 = fil (S 0) (S 4) i → ∀ (H : Heap) (locs : List Loc) (ls : Array Slot), va_P D vwCl ([(a 0, .inr (1, [.ref (a 1), .ref (a 2), .ref (a 3), .ref (a 4), .ref (a 5), .ref (a 6), .ref (a 7), .int 0, .int (S 7 1), .int (S 7 2)])), (a 1, .inl (k 0, 9, .inl (S 0))), (a 2, .inl (k 0, 9, .inl (S 1))), (a 3, .inl (k 0, 9, .inl (S 2))), (a 4, .inl (k 0, 9, .inl (S 3))), (a 5, .inl (k 0, 9, .inl g4)), (a 6, .inl (k 0, 12, .inl (S 5))), (a 7, .inl (k 0, 12, .inl (S 6)))]) H → va_D A ([(a 0, .inr (1, [.ref (a 1), .ref (a 2), .ref (a 3), .ref (a 4), .ref (a 5), .ref (a 6), .ref (a 7), .int 0, .int (S 7 1), .int (S 7 2)])), (a 1, .inl (k 0, 9, .inl (S 0))), (a 2, .inl (k 0, 9, .inl (S 1))), (a 3, .inl (k 0, 9, .inl (S 2))), (a 4, .inl (k 0, 9, .inl (S 3))), (a 5, .inl (k 0, 9, .inl g4)), (a 6, .inl (k 0, 12, .inl (S 5))), (a 7, .inl (k 0, 12, .inl (S 6)))]) → va_S A s.heap H locs → lv_has ls 2 [(1, .int (nI i)), (0, .ref (a 0))] → W p l e ({ frames := 0, cells := 0, slots := 0, locals := 0 } : Room) s m ([.ref (a 0)] : List Value).toArray below meth c H locs 0 0 Q (F0 m 7 ls []) from LOOP_i (9 + 1) 0 (S 4) (by omega) (by omega) ((fil_0 _ _).symm)  _ _ _ hP hD hS (lv_sub hl [0, 1] rfl)
  clear hP hD hS hl hHe
  intro fu_i
  induction fu_i with
  | zero => intro i g4 hn_i; omega
  | succ fu_i ih_i =>
    intro i g4 hn_i hle_i e_g4  H locs ls hP hD hS hl
    refine lv_iload_n hx hb dX1_beginAnew_7 rfl (lv_at hl 0 rfl) ?_
    refine lv_bipush (v := 9) hx hb dX1_beginAnew_8 (by decide) ?_
    refine lv_icmp_ge (tgt := 31) hx hb dX1_beginAnew_10 (by decide) (fun c_1 => ?_) (fun c_1 => ?_)
    · have c_1 : 9 ≤ i := (nI_leI (a := 9) (b := i) (by omega) (by omega)).mp c_1
      obtain rfl : i = 9 := by omega
      subst e_g4
      have hP : va_P D vwCl ([(a 0, .inr (1, [.ref (a 1), .ref (a 2), .ref (a 3), .ref (a 4), .ref (a 5), .ref (a 6), .ref (a 7), .int 0, .int (S 7 1), .int (S 7 2)])), (a 1, .inl (k 0, 9, .inl (S 0))), (a 2, .inl (k 0, 9, .inl (S 1))), (a 3, .inl (k 0, 9, .inl (S 2))), (a 4, .inl (k 0, 9, .inl (S 3))), (a 5, .inl (k 0, 9, .inl (S 0))), (a 6, .inl (k 0, 12, .inl (S 5))), (a 7, .inl (k 0, 12, .inl (S 6)))]) H := va_P.ext hP hD 5 rfl (S 0) (fil_in _ _ _)
      have hD : va_D A ([(a 0, .inr (1, [.ref (a 1), .ref (a 2), .ref (a 3), .ref (a 4), .ref (a 5), .ref (a 6), .ref (a 7), .int 0, .int (S 7 1), .int (S 7 2)])), (a 1, .inl (k 0, 9, .inl (S 0))), (a 2, .inl (k 0, 9, .inl (S 1))), (a 3, .inl (k 0, 9, .inl (S 2))), (a 4, .inl (k 0, 9, .inl (S 3))), (a 5, .inl (k 0, 9, .inl (S 0))), (a 6, .inl (k 0, 12, .inl (S 5))), (a 7, .inl (k 0, 12, .inl (S 6)))]) := hD.addr rfl
      subst hQ
      exact rt_v hx hb hr hlocks hS dX1_beginAnew_31 (hP)
    · have c_1 : ¬ (9 ≤ i) := fun h9 => c_1 ((nI_leI (a := 9) (b := i) (by omega) (by omega)).mpr h9)
      refine lv_aload_n hx hb dX1_beginAnew_13 rfl (lv_at hl 1 rfl) ?_
      refine va_get (D := D) (ci := 1) (v := .ref (a 5)) (C := RX1) (T := TX1) (N := 10) hx hb hts (fun _ h9 => (List.mem_cons_of_mem _ (List.mem_append_right _ h9))) hown hK hP 0 rfl rfl 4 (by decide) (hts _ (List.mem_of_getElem? (i := 2) rfl)) (fun _ h9 => h9) rfl dX1_beginAnew_14 ?_
      refine lv_iload_n hx hb dX1_beginAnew_17 rfl (lv_at hl 0 rfl) ?_
      refine lv_aload_n hx hb dX1_beginAnew_18 rfl (lv_at hl 1 rfl) ?_
      refine va_get (D := D) (ci := 1) (v := .ref (a 1)) (C := RX1) (T := TX1) (N := 10) hx hb hts (fun _ h9 => (List.mem_cons_of_mem _ (List.mem_append_right _ h9))) hown hK hP 0 rfl rfl 0 (by decide) (hts _ (List.mem_of_getElem? (i := 3) rfl)) (fun _ h9 => h9) rfl dX1_beginAnew_19 ?_
      refine lv_iload_n hx hb dX1_beginAnew_22 rfl (lv_at hl 0 rfl) ?_
      refine ar_ld hx hb hK hP 1 rfl i (nI_clamp (by omega)) (vp_in_nI (by omega) (by omega)) dX1_beginAnew_23 ?_
      refine ar_st hx hb hK hP hD hS 5 rfl i (nI_clamp (by omega)) (vp_in_nI (by omega) (by omega)) dX1_beginAnew_24 (wn := [(a 0, .inr (1, [.ref (a 1), .ref (a 2), .ref (a 3), .ref (a 4), .ref (a 5), .ref (a 6), .ref (a 7), .int 0, .int (S 7 1), .int (S 7 2)])), (a 1, .inl (k 0, 9, .inl (S 0))), (a 2, .inl (k 0, 9, .inl (S 1))), (a 3, .inl (k 0, 9, .inl (S 2))), (a 4, .inl (k 0, 9, .inl (S 3))), (a 5, .inl (k 0, 9, .inl (upd g4 i ((S 0) i)))), (a 6, .inl (k 0, 12, .inl (S 5))), (a 7, .inl (k 0, 12, .inl (S 6)))]) rfl (fun H locs hP hD hS => ?_)
      refine lv_iinc (v := (nI (i + 1))) (lv' := [(1, .int (nI (i + 1))), (0, .ref (a 0))]) hx hb dX1_beginAnew_25 hl (k := 0) rfl (nI_1 i) (by decide) rfl (fun ls hl => ?_)
      refine lv_goto (tgt := 7) hx hb dX1_beginAnew_28 (by decide) ?_
      exact ih_i (i + 1) (upd g4 i ((S 0) i)) (by omega) (by omega) (by rw [e_g4]; exact fil_s (S 0) (S 4) i)  _ _ _ hP hD hS (lv_sub hl [0, 1] rfl)

set_option maxHeartbeats 1000000 in
set_option maxRecDepth 100000 in
theorem c_X1_countJoinsTo (l : Launch) (D : va_G) (k : Nat → ClassId) (a : Nat → Nat) (S : Nat → Nat → Int32) (pos : Int32)  : MI l yX1_countJoinsTo wsX1_countJoinsTo ({ frames := 1, cells := 0, slots := 0, locals := 21 }) D k [.ref (a 0), .int pos] (wSt k a S) (cjtF (S 2) pos 9) (wSt k a S) := by
  intro sz
  refine Met.ofW (cc := cX1_countJoinsTo) (maxL := 4) (ret := (some .int)) (by decide) rfl ?_
  intro p e s m args below meth c s₁ B hml hv
  obtain ⟨rfl, hN, hsz, hP, hK, hD0⟩ := hv
  have hx := B.exec
  have hb := B.bytes
  have hr := B.returns
  have hts := atoms_spec (ws := wsX1_countJoinsTo) B.pre
  have hown : s.vm.findClass RX1 = some m.cls := findClass_of_methodNamed B.named
  have hlocks := B.notSynchronized
  subst hsz
  have hD := hD0.self (sz := s.heap.size)
  generalize hAe : va_A (wSt k a S) s.heap.size = A at hD ⊢
  have hA : ∀ q : Nat, s.heap.size ≤ q → A q := fun q h => by rw [← hAe]; exact Or.inr h
  have hS : va_S A s.heap s.heap [] := va_S.rf
  have hl := lv_entry ([.ref (a 0), .int pos]) (n := 4) (Nat.le_of_ble_eq_true rfl)
  rw [lg_entry_eq]
  generalize (lg_sl ([.ref (a 0), .int pos]) ++ List.replicate (4 - (lg_sl ([.ref (a 0), .int pos])).length) Slot.unset).toArray = ls at hl ⊢
  have hl : lv_has ls 4 [(0, .ref (a 0)), (1, .int pos)] := hl
  obtain ⟨H, hHe⟩ : ∃ H, H = s.heap := ⟨_, rfl⟩
  have hP : va_P D vwCl (wSt k a S) H := by rw [hHe]; exact hP
  have hS : va_S A s.heap H [] := by rw [hHe]; exact hS
  rw [← hHe]
  refine absQ (fun Q hQ => ?_)
  refine lv_iconst (v := 0) hx hb dX1_countJoinsTo_0 (by decide) ?_
  refine lv_istore_n (lv' := [(2, .int 0), (0, .ref (a 0)), (1, .int pos)]) hx hb dX1_countJoinsTo_1 rfl hl (by decide) rfl (fun ls hl => ?_)
  refine lv_iconst (v := 0) hx hb dX1_countJoinsTo_2 (by decide) ?_
  refine lv_istore_n (lv' := [(3, .int 0), (2, .int 0), (0, .ref (a 0)), (1, .int pos)]) hx hb dX1_countJoinsTo_3 rfl hl (by decide) rfl (fun ls hl => ?_)
  suffices LOOP_i : ∀ (fu_i i : Nat) (x : Int32), 9 - i < fu_i → i ≤ 9 → x = cjtF (S 2) pos i → ∀ (H : Heap) (locs : List Loc) (ls : Array Slot), va_P D vwCl (wSt k a S) H → va_D A (wSt k a S) → va_S A s.heap H locs → lv_has ls 4 [(3, .int (nI i)), (2, .int x), (0, .ref (a 0)), (1, .int pos)] → W p l e ({ frames := 1, cells := 0, slots := 0, locals := 21 } : Room) s m ([.ref (a 0), .int pos] : List Value).toArray below meth c H locs 0 0 Q (F0 m 4 ls []) from LOOP_i (9 + 1) 0 0 (by omega) (by omega) (rfl)  _ _ _ hP hD hS (lv_sub hl [0, 1, 2, 3] rfl)
  clear hP hD hS hl hHe
  intro fu_i
  induction fu_i with
  | zero => intro i x hn_i; omega
  | succ fu_i ih_i =>
    intro i x hn_i hle_i e_x  H locs ls hP hD hS hl
    refine lv_iload_n hx hb dX1_countJoinsTo_4 rfl (lv_at hl 0 rfl) ?_
    refine lv_bipush (v := 9) hx hb dX1_countJoinsTo_5 (by decide) ?_
    refine lv_icmp_ge (tgt := 29) hx hb dX1_countJoinsTo_7 (by decide) (fun c_1 => ?_) (fun c_1 => ?_)
    · have c_1 : 9 ≤ i := (nI_leI (a := 9) (b := i) (by omega) (by omega)).mp c_1
      obtain rfl : i = 9 := by omega
      subst e_x
      refine lv_iload_n hx hb dX1_countJoinsTo_29 rfl (lv_at hl 1 rfl) ?_
      subst hQ
      exact rt_i hx hb hr hlocks hS dX1_countJoinsTo_30 (hP) (rfl)
    · have c_1 : ¬ (9 ≤ i) := fun h9 => c_1 ((nI_leI (a := 9) (b := i) (by omega) (by omega)).mpr h9)
      refine lv_iload_n hx hb dX1_countJoinsTo_10 rfl (lv_at hl 1 rfl) ?_
      refine lv_aload_n hx hb dX1_countJoinsTo_11 rfl (lv_at hl 2 rfl) ?_
      refine va_get (D := D) (ci := 1) (v := .ref (a 3)) (C := RX1) (T := TX1) (N := 10) hx hb hts (fun _ h9 => (List.mem_cons_of_mem _ (List.mem_append_right _ h9))) hown hK hP 0 rfl rfl 2 (by decide) (hts _ (List.mem_of_getElem? (i := 1) rfl)) (fun _ h9 => h9) rfl dX1_countJoinsTo_12 ?_
      refine lv_iload_n hx hb dX1_countJoinsTo_15 rfl (lv_at hl 0 rfl) ?_
      refine ar_ld hx hb hK hP 3 rfl i (nI_clamp (by omega)) (vp_in_nI (by omega) (by omega)) dX1_countJoinsTo_16 ?_
      refine lv_iload_n hx hb dX1_countJoinsTo_17 rfl (lv_at hl 3 rfl) ?_
      have hPc : va_P D vwCl ([]) H := hP.sub [] rfl
      have hDc : va_D A ([]) := hD.sub [] (by decide +kernel) rfl
      refine cl_i0 (va_runSN (As := [.int ((S 2) i), .int pos]) (rest := [.int x]) ⟨hx, hb, hml, hown, hts⟩ (c_X4_bit l D k ((S 2) i) pos H.size) ⟨va_cnB 2 hts gX1_countJoinsTo_X4_bit_n49 rfl rfl rfl hN.2.2.2.2.2.2.2.2.1 (hts (.initialized RX4) (List.mem_of_getElem? (i := 3) rfl)) (by decide +kernel) ⟨Nat.le_of_ble_eq_true rfl, Nat.le_of_ble_eq_true rfl⟩, hts (.static yX4_bit) (List.mem_of_getElem? (i := 2) rfl), trivial⟩ ⟨pr_blind, pr_at hN hPc hK hDc⟩ rfl rfl hl.1 rfl (lv_room (Nat.le_of_ble_eq_true rfl)) dX1_countJoinsTo_18 ⟨Nat.le_of_ble_eq_true rfl, Nat.le_of_ble_eq_true rfl⟩) hP hD hS hA [] rfl (fun H locs hP hD hS => ?_)
      clear hPc hDc
      refine lv_iadd hx hb dX1_countJoinsTo_21 ?_
      refine lv_istore_n (lv' := [(2, .int (x + (bitv ((S 2) i) pos))), (3, .int (nI i)), (0, .ref (a 0)), (1, .int pos)]) hx hb dX1_countJoinsTo_22 rfl hl (by decide) rfl (fun ls hl => ?_)
      refine lv_iinc (v := (nI (i + 1))) (lv' := [(3, .int (nI (i + 1))), (2, .int (x + (bitv ((S 2) i) pos))), (0, .ref (a 0)), (1, .int pos)]) hx hb dX1_countJoinsTo_23 hl (k := 1) rfl (nI_1 i) (by decide) rfl (fun ls hl => ?_)
      refine lv_goto (tgt := 4) hx hb dX1_countJoinsTo_26 (by decide) ?_
      exact ih_i (i + 1) (x + (bitv ((S 2) i) pos)) (by omega) (by omega) (by rw [cjtF, ← e_x])  _ _ _ hP hD hS (lv_sub hl [0, 1, 2, 3] rfl)

set_option maxHeartbeats 1000000 in
set_option maxRecDepth 100000 in
theorem c_X1_isOpen (l : Launch) (D : va_G) (k : Nat → ClassId) (a : Nat → Nat) (S : Nat → Nat → Int32) (mask : Int32)  : MI l yX1_isOpen wsX1_isOpen ({ frames := 1, cells := 0, slots := 0, locals := 21 }) D k [.ref (a 0), .int mask] (wSt k a S) (bI (opR (S 3) mask 9 0)) (wSt k a S) := by
  intro sz
  refine Met.ofW (cc := cX1_isOpen) (maxL := 3) (ret := (some .boolean)) (by decide) rfl ?_
  intro p e s m args below meth c s₁ B hml hv
  obtain ⟨rfl, hN, hsz, hP, hK, hD0⟩ := hv
  have hx := B.exec
  have hb := B.bytes
  have hr := B.returns
  have hts := atoms_spec (ws := wsX1_isOpen) B.pre
  have hown : s.vm.findClass RX1 = some m.cls := findClass_of_methodNamed B.named
  have hlocks := B.notSynchronized
  subst hsz
  have hD := hD0.self (sz := s.heap.size)
  generalize hAe : va_A (wSt k a S) s.heap.size = A at hD ⊢
  have hA : ∀ q : Nat, s.heap.size ≤ q → A q := fun q h => by rw [← hAe]; exact Or.inr h
  have hS : va_S A s.heap s.heap [] := va_S.rf
  have hl := lv_entry ([.ref (a 0), .int mask]) (n := 3) (Nat.le_of_ble_eq_true rfl)
  rw [lg_entry_eq]
  generalize (lg_sl ([.ref (a 0), .int mask]) ++ List.replicate (3 - (lg_sl ([.ref (a 0), .int mask])).length) Slot.unset).toArray = ls at hl ⊢
  have hl : lv_has ls 3 [(0, .ref (a 0)), (1, .int mask)] := hl
  obtain ⟨H, hHe⟩ : ∃ H, H = s.heap := ⟨_, rfl⟩
  have hP : va_P D vwCl (wSt k a S) H := by rw [hHe]; exact hP
  have hS : va_S A s.heap H [] := by rw [hHe]; exact hS
  rw [← hHe]
  refine absQ (fun Q hQ => ?_)
  refine lv_iconst (v := 0) hx hb dX1_isOpen_0 (by decide) ?_
  refine lv_istore_n (lv' := [(2, .int 0), (0, .ref (a 0)), (1, .int mask)]) hx hb dX1_isOpen_1 rfl hl (by decide) rfl (fun ls hl => ?_)
  suffices LOOP_i : ∀ (fu_i i : Nat) , 9 - i < fu_i → i ≤ 9 → opR (S 3) mask (9 - i) i = opR (S 3) mask 9 0 → ∀ (H : Heap) (locs : List Loc) (ls : Array Slot), va_P D vwCl (wSt k a S) H → va_D A (wSt k a S) → va_S A s.heap H locs → lv_has ls 3 [(2, .int (nI i)), (0, .ref (a 0)), (1, .int mask)] → W p l e ({ frames := 1, cells := 0, slots := 0, locals := 21 } : Room) s m ([.ref (a 0), .int mask] : List Value).toArray below meth c H locs 0 0 Q (F0 m 2 ls []) from LOOP_i (9 + 1) 0  (by omega) (by omega)  (rfl) _ _ _ hP hD hS (lv_sub hl [0, 1, 2] rfl)
  clear hP hD hS hl hHe
  intro fu_i
  induction fu_i with
  | zero => intro i  hn_i; omega
  | succ fu_i ih_i =>
    intro i  hn_i hle_i  hv H locs ls hP hD hS hl
    refine lv_iload_n hx hb dX1_isOpen_2 rfl (lv_at hl 0 rfl) ?_
    refine lv_bipush (v := 9) hx hb dX1_isOpen_3 (by decide) ?_
    refine lv_icmp_ge (tgt := 36) hx hb dX1_isOpen_5 (by decide) (fun c_1 => ?_) (fun c_1 => ?_)
    · have c_1 : 9 ≤ i := (nI_leI (a := 9) (b := i) (by omega) (by omega)).mp c_1
      obtain rfl : i = 9 := by omega
      refine lv_iconst (v := 1) hx hb dX1_isOpen_36 (by decide) ?_
      subst hQ
      exact rt_z hx hb hr hlocks hS dX1_isOpen_37 (hP) (rfl) (by rw [← hv]; rfl)
    · have c_1 : ¬ (9 ≤ i) := fun h9 => c_1 ((nI_leI (a := 9) (b := i) (by omega) (by omega)).mpr h9)
      refine lv_iload_n hx hb dX1_isOpen_8 rfl (lv_at hl 2 rfl) ?_
      refine lv_iload_n hx hb dX1_isOpen_9 rfl (lv_at hl 0 rfl) ?_
      have hPc : va_P D vwCl ([]) H := hP.sub [] rfl
      have hDc : va_D A ([]) := hD.sub [] (by decide +kernel) rfl
      refine cl_i0 (va_runSN (As := [.int mask, .int (nI i)]) (rest := []) ⟨hx, hb, hml, hown, hts⟩ (c_X4_bit l D k mask (nI i) H.size) ⟨va_cnB 2 hts gX1_isOpen_X4_bit_n49 rfl rfl rfl hN.2.2.2.2.2.2.2.2.1 (hts (.initialized RX4) (List.mem_of_getElem? (i := 3) rfl)) (by decide +kernel) ⟨Nat.le_of_ble_eq_true rfl, Nat.le_of_ble_eq_true rfl⟩, hts (.static yX4_bit) (List.mem_of_getElem? (i := 2) rfl), trivial⟩ ⟨pr_blind, pr_at hN hPc hK hDc⟩ rfl rfl hl.1 rfl (lv_room (Nat.le_of_ble_eq_true rfl)) dX1_isOpen_10 ⟨Nat.le_of_ble_eq_true rfl, Nat.le_of_ble_eq_true rfl⟩) hP hD hS hA [] rfl (fun H locs hP hD hS => ?_)
      clear hPc hDc
      refine lv_iconst (v := 1) hx hb dX1_isOpen_13 (by decide) ?_
      refine lv_icmp_ne (tgt := 30) hx hb dX1_isOpen_14 (by decide) (fun c_2 => ?_) (fun c_2 => ?_)
      · refine lv_iinc (v := (nI (i + 1))) (lv' := [(2, .int (nI (i + 1))), (0, .ref (a 0)), (1, .int mask)]) hx hb dX1_isOpen_30 hl (k := 0) rfl (nI_1 i) (by decide) rfl (fun ls hl => ?_)
        refine lv_goto (tgt := 2) hx hb dX1_isOpen_33 (by decide) ?_
        exact ih_i (i + 1)  (by omega) (by omega)  (by rw [← hv, opR_s _ _ c_1]; simp [c_1, c_2]) _ _ _ hP hD hS (lv_sub hl [0, 1, 2] rfl)
      · refine lv_aload_n hx hb dX1_isOpen_17 rfl (lv_at hl 1 rfl) ?_
        refine va_get (D := D) (ci := 1) (v := .ref (a 4)) (C := RX1) (T := TX1) (N := 10) hx hb hts (fun _ h9 => (List.mem_cons_of_mem _ (List.mem_append_right _ h9))) hown hK hP 0 rfl rfl 3 (by decide) (hts _ (List.mem_of_getElem? (i := 1) rfl)) (fun _ h9 => h9) rfl dX1_isOpen_18 ?_
        refine lv_iload_n hx hb dX1_isOpen_21 rfl (lv_at hl 0 rfl) ?_
        refine ar_ld hx hb hK hP 4 rfl i (nI_clamp (by omega)) (vp_in_nI (by omega) (by omega)) dX1_isOpen_22 ?_
        refine lv_iload_n hx hb dX1_isOpen_23 rfl (lv_at hl 2 rfl) ?_
        refine lv_iand hx hb dX1_isOpen_24 ?_
        refine lv_if_eq (tgt := 30) hx hb dX1_isOpen_25 (by decide) (fun c_3 => ?_) (fun c_3 => ?_)
        · refine lv_iinc (v := (nI (i + 1))) (lv' := [(2, .int (nI (i + 1))), (0, .ref (a 0)), (1, .int mask)]) hx hb dX1_isOpen_30 hl (k := 0) rfl (nI_1 i) (by decide) rfl (fun ls hl => ?_)
          refine lv_goto (tgt := 2) hx hb dX1_isOpen_33 (by decide) ?_
          exact ih_i (i + 1)  (by omega) (by omega)  (by rw [← hv, opR_s _ _ c_1]; simp [c_1, c_2, c_3]) _ _ _ hP hD hS (lv_sub hl [0, 1, 2] rfl)
        · refine lv_iconst (v := 0) hx hb dX1_isOpen_28 (by decide) ?_
          subst hQ
          exact rt_z hx hb hr hlocks hS dX1_isOpen_29 (hP) (rfl) (by rw [← hv, opR_s _ _ c_1]; simp [bI, c_1, c_2, c_3])

set_option maxHeartbeats 1000000 in
set_option maxRecDepth 100000 in
theorem c_X1_takeWay (l : Launch) (D : va_G) (k : Nat → ClassId) (a : Nat → Nat) (S : Nat → Nat → Int32) (mask w : Int32) (nw : Nat) (hnw : S 7 0 = nI nw) (hnw2 : nw < 12) : MV l yX1_takeWay wsX1_takeWay ({ frames := 1, cells := 0, slots := 0, locals := 21 }) D k [.ref (a 0), .int mask, .int w] (wSt k a S) (wSt k a (mkS (S 0) (S 1) (S 2) (S 3) (twF (S 4) mask w 9) (upd (S 5) nw w) (upd (S 6) nw mask) (cnt (S 7 0 + 1) (S 7 1 + 1) (S 7 2)))) := by
  intro sz
  refine Met.ofW (cc := cX1_takeWay) (maxL := 4) (ret := none) (by decide) rfl ?_
  intro p e s m args below meth c s₁ B hml hv
  obtain ⟨rfl, hN, hsz, hP, hK, hD0⟩ := hv
  have hx := B.exec
  have hb := B.bytes
  have hr := B.returns
  have hts := atoms_spec (ws := wsX1_takeWay) B.pre
  have hown : s.vm.findClass RX1 = some m.cls := findClass_of_methodNamed B.named
  have hlocks := B.notSynchronized
  subst hsz
  have hD := hD0.self (sz := s.heap.size)
  generalize hAe : va_A (wSt k a S) s.heap.size = A at hD ⊢
  have hA : ∀ q : Nat, s.heap.size ≤ q → A q := fun q h => by rw [← hAe]; exact Or.inr h
  have hS : va_S A s.heap s.heap [] := va_S.rf
  have hl := lv_entry ([.ref (a 0), .int mask, .int w]) (n := 4) (Nat.le_of_ble_eq_true rfl)
  rw [lg_entry_eq]
  generalize (lg_sl ([.ref (a 0), .int mask, .int w]) ++ List.replicate (4 - (lg_sl ([.ref (a 0), .int mask, .int w])).length) Slot.unset).toArray = ls at hl ⊢
  have hl : lv_has ls 4 [(0, .ref (a 0)), (1, .int mask), (2, .int w)] := hl
  obtain ⟨H, hHe⟩ : ∃ H, H = s.heap := ⟨_, rfl⟩
  have hP : va_P D vwCl (wSt k a S) H := by rw [hHe]; exact hP
  have hS : va_S A s.heap H [] := by rw [hHe]; exact hS
  rw [← hHe]
  refine absQ (fun Q hQ => ?_)
  refine lv_aload_n hx hb dX1_takeWay_0 rfl (lv_at hl 0 rfl) ?_
  refine va_get (D := D) (ci := 1) (v := .int (S 7 0)) (C := RX1) (T := TX1) (N := 10) hx hb hts (fun _ h9 => (List.mem_cons_of_mem _ (List.mem_append_right _ h9))) hown hK hP 0 rfl rfl 7 (by decide) (hts _ (List.mem_of_getElem? (i := 1) rfl)) (fun _ h9 => h9) rfl dX1_takeWay_1 ?_
  refine tp_e (y := (nI nw)) hnw ?_
  refine lv_if_lt (tgt := 16) hx hb dX1_takeWay_4 (by decide) (fun c_1 => ?_) (fun c_1 => ?_)
  · have c_1 : nw < 0 := (nI_ltI (a := nw) (b := 0) (by omega) (by omega)).mp c_1
    exact absurd c_1 (by omega)
  · have c_1 : ¬ (nw < 0) := fun h9 => c_1 ((nI_ltI (a := nw) (b := 0) (by omega) (by omega)).mpr h9)
    refine lv_aload_n hx hb dX1_takeWay_7 rfl (lv_at hl 0 rfl) ?_
    refine va_get (D := D) (ci := 1) (v := .int (S 7 0)) (C := RX1) (T := TX1) (N := 10) hx hb hts (fun _ h9 => (List.mem_cons_of_mem _ (List.mem_append_right _ h9))) hown hK hP 0 rfl rfl 7 (by decide) (hts _ (List.mem_of_getElem? (i := 1) rfl)) (fun _ h9 => h9) rfl dX1_takeWay_8 ?_
    refine tp_e (y := (nI nw)) hnw ?_
    refine lv_bipush (v := 12) hx hb dX1_takeWay_11 (by decide) ?_
    refine lv_icmp_lt (tgt := 17) hx hb dX1_takeWay_13 (by decide) (fun c_2 => ?_) (fun c_2 => ?_)
    · have c_2 : nw < 12 := (nI_ltI (a := nw) (b := 12) (by omega) (by omega)).mp c_2
      refine lv_aload_n hx hb dX1_takeWay_17 rfl (lv_at hl 0 rfl) ?_
      refine va_get (D := D) (ci := 1) (v := .ref (a 6)) (C := RX1) (T := TX1) (N := 10) hx hb hts (fun _ h9 => (List.mem_cons_of_mem _ (List.mem_append_right _ h9))) hown hK hP 0 rfl rfl 5 (by decide) (hts _ (List.mem_of_getElem? (i := 2) rfl)) (fun _ h9 => h9) rfl dX1_takeWay_18 ?_
      refine lv_aload_n hx hb dX1_takeWay_21 rfl (lv_at hl 0 rfl) ?_
      refine va_get (D := D) (ci := 1) (v := .int (S 7 0)) (C := RX1) (T := TX1) (N := 10) hx hb hts (fun _ h9 => (List.mem_cons_of_mem _ (List.mem_append_right _ h9))) hown hK hP 0 rfl rfl 7 (by decide) (hts _ (List.mem_of_getElem? (i := 1) rfl)) (fun _ h9 => h9) rfl dX1_takeWay_22 ?_
      refine tp_e (y := (nI nw)) hnw ?_
      refine lv_iload_n hx hb dX1_takeWay_25 rfl (lv_at hl 2 rfl) ?_
      refine ar_st hx hb hK hP hD hS 6 rfl nw (nI_clamp (by omega)) (vp_in_nI (by omega) (by omega)) dX1_takeWay_26 (wn := [(a 0, .inr (1, [.ref (a 1), .ref (a 2), .ref (a 3), .ref (a 4), .ref (a 5), .ref (a 6), .ref (a 7), .int (S 7 0), .int (S 7 1), .int (S 7 2)])), (a 1, .inl (k 0, 9, .inl (S 0))), (a 2, .inl (k 0, 9, .inl (S 1))), (a 3, .inl (k 0, 9, .inl (S 2))), (a 4, .inl (k 0, 9, .inl (S 3))), (a 5, .inl (k 0, 9, .inl (S 4))), (a 6, .inl (k 0, 12, .inl (upd (S 5) nw w))), (a 7, .inl (k 0, 12, .inl (S 6)))]) rfl (fun H locs hP hD hS => ?_)
      refine lv_aload_n hx hb dX1_takeWay_27 rfl (lv_at hl 0 rfl) ?_
      refine va_get (D := D) (ci := 1) (v := .ref (a 7)) (C := RX1) (T := TX1) (N := 10) hx hb hts (fun _ h9 => (List.mem_cons_of_mem _ (List.mem_append_right _ h9))) hown hK hP 0 rfl rfl 6 (by decide) (hts _ (List.mem_of_getElem? (i := 3) rfl)) (fun _ h9 => h9) rfl dX1_takeWay_28 ?_
      refine lv_aload_n hx hb dX1_takeWay_31 rfl (lv_at hl 0 rfl) ?_
      refine va_get (D := D) (ci := 1) (v := .int (S 7 0)) (C := RX1) (T := TX1) (N := 10) hx hb hts (fun _ h9 => (List.mem_cons_of_mem _ (List.mem_append_right _ h9))) hown hK hP 0 rfl rfl 7 (by decide) (hts _ (List.mem_of_getElem? (i := 1) rfl)) (fun _ h9 => h9) rfl dX1_takeWay_32 ?_
      refine tp_e (y := (nI nw)) hnw ?_
      refine lv_iload_n hx hb dX1_takeWay_35 rfl (lv_at hl 1 rfl) ?_
      refine ar_st hx hb hK hP hD hS 7 rfl nw (nI_clamp (by omega)) (vp_in_nI (by omega) (by omega)) dX1_takeWay_36 (wn := [(a 0, .inr (1, [.ref (a 1), .ref (a 2), .ref (a 3), .ref (a 4), .ref (a 5), .ref (a 6), .ref (a 7), .int (S 7 0), .int (S 7 1), .int (S 7 2)])), (a 1, .inl (k 0, 9, .inl (S 0))), (a 2, .inl (k 0, 9, .inl (S 1))), (a 3, .inl (k 0, 9, .inl (S 2))), (a 4, .inl (k 0, 9, .inl (S 3))), (a 5, .inl (k 0, 9, .inl (S 4))), (a 6, .inl (k 0, 12, .inl (upd (S 5) nw w))), (a 7, .inl (k 0, 12, .inl (upd (S 6) nw mask)))]) rfl (fun H locs hP hD hS => ?_)
      refine lv_aload_n hx hb dX1_takeWay_37 rfl (lv_at hl 0 rfl) ?_
      refine lv_dup hx hb dX1_takeWay_38 rfl ?_
      refine va_get (D := D) (ci := 1) (v := .int (S 7 0)) (C := RX1) (T := TX1) (N := 10) hx hb hts (fun _ h9 => (List.mem_cons_of_mem _ (List.mem_append_right _ h9))) hown hK hP 0 rfl rfl 7 (by decide) (hts _ (List.mem_of_getElem? (i := 1) rfl)) (fun _ h9 => h9) rfl dX1_takeWay_39 ?_
      refine lv_iconst (v := 1) hx hb dX1_takeWay_42 (by decide) ?_
      refine lv_iadd hx hb dX1_takeWay_43 ?_
      refine va_put (D := D) (ci := 1) (v := .int ((S 7 0) + 1)) (ty := tyX1 7) (C := RX1) (T := TX1) (N := 10) hx hb hts (fun _ h9 => (List.mem_cons_of_mem _ (List.mem_append_right _ h9))) tyX1 tyX1_ok nmX1 hown hK hP hD hS 0 rfl rfl 7 (by decide) (hts _ (List.mem_of_getElem? (i := 1) rfl)) (fun _ h9 => h9) rfl (tyX1_ok 7 (by decide)) rfl rfl (Nat.le_of_ble_eq_true rfl) dX1_takeWay_44 (fun H locs hP hD hS => ?_)
      have hP : va_P D vwCl ([(a 0, .inr (1, [.ref (a 1), .ref (a 2), .ref (a 3), .ref (a 4), .ref (a 5), .ref (a 6), .ref (a 7), .int ((S 7 0) + 1), .int (S 7 1), .int (S 7 2)])), (a 1, .inl (k 0, 9, .inl (S 0))), (a 2, .inl (k 0, 9, .inl (S 1))), (a 3, .inl (k 0, 9, .inl (S 2))), (a 4, .inl (k 0, 9, .inl (S 3))), (a 5, .inl (k 0, 9, .inl (S 4))), (a 6, .inl (k 0, 12, .inl (upd (S 5) nw w))), (a 7, .inl (k 0, 12, .inl (upd (S 6) nw mask)))]) H := hP
      have hD : va_D A ([(a 0, .inr (1, [.ref (a 1), .ref (a 2), .ref (a 3), .ref (a 4), .ref (a 5), .ref (a 6), .ref (a 7), .int ((S 7 0) + 1), .int (S 7 1), .int (S 7 2)])), (a 1, .inl (k 0, 9, .inl (S 0))), (a 2, .inl (k 0, 9, .inl (S 1))), (a 3, .inl (k 0, 9, .inl (S 2))), (a 4, .inl (k 0, 9, .inl (S 3))), (a 5, .inl (k 0, 9, .inl (S 4))), (a 6, .inl (k 0, 12, .inl (upd (S 5) nw w))), (a 7, .inl (k 0, 12, .inl (upd (S 6) nw mask)))]) := hD
      refine lv_aload_n hx hb dX1_takeWay_47 rfl (lv_at hl 0 rfl) ?_
      refine lv_dup hx hb dX1_takeWay_48 rfl ?_
      refine va_get (D := D) (ci := 1) (v := .int (S 7 1)) (C := RX1) (T := TX1) (N := 10) hx hb hts (fun _ h9 => (List.mem_cons_of_mem _ (List.mem_append_right _ h9))) hown hK hP 0 rfl rfl 8 (by decide) (hts _ (List.mem_of_getElem? (i := 4) rfl)) (fun _ h9 => h9) rfl dX1_takeWay_49 ?_
      refine lv_iconst (v := 1) hx hb dX1_takeWay_52 (by decide) ?_
      refine lv_iadd hx hb dX1_takeWay_53 ?_
      refine va_put (D := D) (ci := 1) (v := .int ((S 7 1) + 1)) (ty := tyX1 8) (C := RX1) (T := TX1) (N := 10) hx hb hts (fun _ h9 => (List.mem_cons_of_mem _ (List.mem_append_right _ h9))) tyX1 tyX1_ok nmX1 hown hK hP hD hS 0 rfl rfl 8 (by decide) (hts _ (List.mem_of_getElem? (i := 4) rfl)) (fun _ h9 => h9) rfl (tyX1_ok 8 (by decide)) rfl rfl (Nat.le_of_ble_eq_true rfl) dX1_takeWay_54 (fun H locs hP hD hS => ?_)
      have hP : va_P D vwCl ([(a 0, .inr (1, [.ref (a 1), .ref (a 2), .ref (a 3), .ref (a 4), .ref (a 5), .ref (a 6), .ref (a 7), .int ((S 7 0) + 1), .int ((S 7 1) + 1), .int (S 7 2)])), (a 1, .inl (k 0, 9, .inl (S 0))), (a 2, .inl (k 0, 9, .inl (S 1))), (a 3, .inl (k 0, 9, .inl (S 2))), (a 4, .inl (k 0, 9, .inl (S 3))), (a 5, .inl (k 0, 9, .inl (S 4))), (a 6, .inl (k 0, 12, .inl (upd (S 5) nw w))), (a 7, .inl (k 0, 12, .inl (upd (S 6) nw mask)))]) H := hP
      have hD : va_D A ([(a 0, .inr (1, [.ref (a 1), .ref (a 2), .ref (a 3), .ref (a 4), .ref (a 5), .ref (a 6), .ref (a 7), .int ((S 7 0) + 1), .int ((S 7 1) + 1), .int (S 7 2)])), (a 1, .inl (k 0, 9, .inl (S 0))), (a 2, .inl (k 0, 9, .inl (S 1))), (a 3, .inl (k 0, 9, .inl (S 2))), (a 4, .inl (k 0, 9, .inl (S 3))), (a 5, .inl (k 0, 9, .inl (S 4))), (a 6, .inl (k 0, 12, .inl (upd (S 5) nw w))), (a 7, .inl (k 0, 12, .inl (upd (S 6) nw mask)))]) := hD
      refine lv_iconst (v := 0) hx hb dX1_takeWay_57 (by decide) ?_
      refine lv_istore_n (lv' := [(3, .int 0), (0, .ref (a 0)), (1, .int mask), (2, .int w)]) hx hb dX1_takeWay_58 rfl hl (by decide) rfl (fun ls hl => ?_)
      suffices LOOP_i : ∀ (fu_i i : Nat) (g4 : Nat → Int32), 9 - i < fu_i → i ≤ 9 → g4 = twF (S 4) mask w i → ∀ (H : Heap) (locs : List Loc) (ls : Array Slot), va_P D vwCl ([(a 0, .inr (1, [.ref (a 1), .ref (a 2), .ref (a 3), .ref (a 4), .ref (a 5), .ref (a 6), .ref (a 7), .int ((S 7 0) + 1), .int ((S 7 1) + 1), .int (S 7 2)])), (a 1, .inl (k 0, 9, .inl (S 0))), (a 2, .inl (k 0, 9, .inl (S 1))), (a 3, .inl (k 0, 9, .inl (S 2))), (a 4, .inl (k 0, 9, .inl (S 3))), (a 5, .inl (k 0, 9, .inl g4)), (a 6, .inl (k 0, 12, .inl (upd (S 5) nw w))), (a 7, .inl (k 0, 12, .inl (upd (S 6) nw mask)))]) H → va_D A ([(a 0, .inr (1, [.ref (a 1), .ref (a 2), .ref (a 3), .ref (a 4), .ref (a 5), .ref (a 6), .ref (a 7), .int ((S 7 0) + 1), .int ((S 7 1) + 1), .int (S 7 2)])), (a 1, .inl (k 0, 9, .inl (S 0))), (a 2, .inl (k 0, 9, .inl (S 1))), (a 3, .inl (k 0, 9, .inl (S 2))), (a 4, .inl (k 0, 9, .inl (S 3))), (a 5, .inl (k 0, 9, .inl g4)), (a 6, .inl (k 0, 12, .inl (upd (S 5) nw w))), (a 7, .inl (k 0, 12, .inl (upd (S 6) nw mask)))]) → va_S A s.heap H locs → lv_has ls 4 [(3, .int (nI i)), (0, .ref (a 0)), (1, .int mask), (2, .int w)] → W p l e ({ frames := 1, cells := 0, slots := 0, locals := 21 } : Room) s m ([.ref (a 0), .int mask, .int w] : List Value).toArray below meth c H locs 0 0 Q (F0 m 59 ls []) from LOOP_i (9 + 1) 0 (S 4) (by omega) (by omega) ((twF_0 _ _ _).symm)  _ _ _ hP hD hS (lv_sub hl [0, 1, 2, 3] rfl)
      clear hP hD hS hl hHe
      intro fu_i
      induction fu_i with
      | zero => intro i g4 hn_i; omega
      | succ fu_i ih_i =>
        intro i g4 hn_i hle_i e_g4  H locs ls hP hD hS hl
        refine lv_iload_n hx hb dX1_takeWay_59 rfl (lv_at hl 0 rfl) ?_
        refine lv_bipush (v := 9) hx hb dX1_takeWay_60 (by decide) ?_
        refine lv_icmp_ge (tgt := 90) hx hb dX1_takeWay_62 (by decide) (fun c_3 => ?_) (fun c_3 => ?_)
        · have c_3 : 9 ≤ i := (nI_leI (a := 9) (b := i) (by omega) (by omega)).mp c_3
          obtain rfl : i = 9 := by omega
          subst e_g4
          subst hQ
          exact rt_v hx hb hr hlocks hS dX1_takeWay_90 (hP)
        · have c_3 : ¬ (9 ≤ i) := fun h9 => c_3 ((nI_leI (a := 9) (b := i) (by omega) (by omega)).mpr h9)
          refine lv_iload_n hx hb dX1_takeWay_65 rfl (lv_at hl 2 rfl) ?_
          refine lv_iload_n hx hb dX1_takeWay_66 rfl (lv_at hl 0 rfl) ?_
          have hPc : va_P D vwCl ([]) H := hP.sub [] rfl
          have hDc : va_D A ([]) := hD.sub [] (by decide +kernel) rfl
          refine cl_i0 (va_runSN (As := [.int mask, .int (nI i)]) (rest := []) ⟨hx, hb, hml, hown, hts⟩ (c_X4_bit l D k mask (nI i) H.size) ⟨va_cnB 2 hts gX1_takeWay_X4_bit_n49 rfl rfl rfl hN.2.2.2.2.2.2.2.2.1 (hts (.initialized RX4) (List.mem_of_getElem? (i := 7) rfl)) (by decide +kernel) ⟨Nat.le_of_ble_eq_true rfl, Nat.le_of_ble_eq_true rfl⟩, hts (.static yX4_bit) (List.mem_of_getElem? (i := 6) rfl), trivial⟩ ⟨pr_blind, pr_at hN hPc hK hDc⟩ rfl rfl hl.1 rfl (lv_room (Nat.le_of_ble_eq_true rfl)) dX1_takeWay_67 ⟨Nat.le_of_ble_eq_true rfl, Nat.le_of_ble_eq_true rfl⟩) hP hD hS hA [] rfl (fun H locs hP hD hS => ?_)
          clear hPc hDc
          refine lv_iconst (v := 1) hx hb dX1_takeWay_70 (by decide) ?_
          refine lv_icmp_ne (tgt := 84) hx hb dX1_takeWay_71 (by decide) (fun c_4 => ?_) (fun c_4 => ?_)
          · refine lv_iinc (v := (nI (i + 1))) (lv' := [(3, .int (nI (i + 1))), (0, .ref (a 0)), (1, .int mask), (2, .int w)]) hx hb dX1_takeWay_84 hl (k := 0) rfl (nI_1 i) (by decide) rfl (fun ls hl => ?_)
            refine lv_goto (tgt := 59) hx hb dX1_takeWay_87 (by decide) ?_
            exact ih_i (i + 1) g4 (by omega) (by omega) (by rw [e_g4]; exact twF_f (S 4) mask w i c_4)  _ _ _ hP hD hS (lv_sub hl [0, 1, 2, 3] rfl)
          · refine lv_aload_n hx hb dX1_takeWay_74 rfl (lv_at hl 1 rfl) ?_
            refine va_get (D := D) (ci := 1) (v := .ref (a 5)) (C := RX1) (T := TX1) (N := 10) hx hb hts (fun _ h9 => (List.mem_cons_of_mem _ (List.mem_append_right _ h9))) hown hK hP 0 rfl rfl 4 (by decide) (hts _ (List.mem_of_getElem? (i := 5) rfl)) (fun _ h9 => h9) rfl dX1_takeWay_75 ?_
            refine lv_iload_n hx hb dX1_takeWay_78 rfl (lv_at hl 0 rfl) ?_
            refine lv_dup2_11 hx hb dX1_takeWay_79 rfl rfl ?_
            refine ar_ld hx hb hK hP 5 rfl i (nI_clamp (by omega)) (vp_in_nI (by omega) (by omega)) dX1_takeWay_80 ?_
            refine lv_iload_n hx hb dX1_takeWay_81 rfl (lv_at hl 3 rfl) ?_
            refine lv_isub hx hb dX1_takeWay_82 ?_
            refine ar_st hx hb hK hP hD hS 5 rfl i (nI_clamp (by omega)) (vp_in_nI (by omega) (by omega)) dX1_takeWay_83 (wn := [(a 0, .inr (1, [.ref (a 1), .ref (a 2), .ref (a 3), .ref (a 4), .ref (a 5), .ref (a 6), .ref (a 7), .int ((S 7 0) + 1), .int ((S 7 1) + 1), .int (S 7 2)])), (a 1, .inl (k 0, 9, .inl (S 0))), (a 2, .inl (k 0, 9, .inl (S 1))), (a 3, .inl (k 0, 9, .inl (S 2))), (a 4, .inl (k 0, 9, .inl (S 3))), (a 5, .inl (k 0, 9, .inl (upd g4 i ((g4 i) - w)))), (a 6, .inl (k 0, 12, .inl (upd (S 5) nw w))), (a 7, .inl (k 0, 12, .inl (upd (S 6) nw mask)))]) rfl (fun H locs hP hD hS => ?_)
            refine lv_iinc (v := (nI (i + 1))) (lv' := [(3, .int (nI (i + 1))), (0, .ref (a 0)), (1, .int mask), (2, .int w)]) hx hb dX1_takeWay_84 hl (k := 0) rfl (nI_1 i) (by decide) rfl (fun ls hl => ?_)
            refine lv_goto (tgt := 59) hx hb dX1_takeWay_87 (by decide) ?_
            exact ih_i (i + 1) (upd g4 i ((g4 i) - w)) (by omega) (by omega) (by rw [e_g4]; exact twF_t (S 4) mask w i c_4)  _ _ _ hP hD hS (lv_sub hl [0, 1, 2, 3] rfl)
    · have c_2 : ¬ (nw < 12) := fun h9 => c_2 ((nI_ltI (a := nw) (b := 12) (by omega) (by omega)).mpr h9)
      exact absurd hnw2 c_2
