abbrev wXo (d : Nat → Nat → Nat) (ns : Int32) : va_W := [(d 0 0, .inr (4, [.ref (d 1 0), .ref (d 2 0), .ref (d 3 0), .int ns, .ref (d 4 0), .ref (d 5 0), .ref (d 6 0), .ref (d 8 0), .ref (d 10 0)]))]
def smF (f : Nat → Int32) : Nat → Int32
  | 0 => 0
  | i + 1 => smF f i + f i
def slB (x : Int32) : Bool := decide (¬ x < 0 ∧ ¬ (2 : Int32) ≤ x)
def mixF (h v : Int64) : Int64 := 31 * h + v
/-- the splitting begun anew -/
def anS (S : Nat → Nat → Int32) : Nat → Nat → Int32 := mkS (S 0) (S 1) (S 2) (S 3) (S 0) (S 5) (S 6) (cnt 0 (S 7 1) (S 7 2))
/-- the greatest weight and the heaviest way, of the first ones -/
def hvA (r : Nat → Int32) (f : Nat → Int32) : Nat → Int32 × Int32
  | 0 => (-1, -1)
  | i + 1 => if wtF r (f i) 9 ≤ (hvA r f i).1 then hvA r f i else (wtF r (f i) 9, f i)
def rfS (T : Nat → Nat → Int32) : Nat → Nat → Int32 := mkS (T 0) (T 1) (T 2) (T 3) (T 4) (T 5) (T 6) (cnt (T 7 0) (T 7 1) (T 7 2 + 1))
def tkS (T : Nat → Nat → Int32) (mask w : Int32) (nw : Nat) : Nat → Nat → Int32 := mkS (T 0) (T 1) (T 2) (T 3) (twF (T 4) mask w 9) (upd (T 5) nw w) (upd (T 6) nw mask) (cnt (T 7 0 + 1) (T 7 1 + 1) (T 7 2))
def hwW (T : Nat → Nat → Int32) (m : Int32) : Int32 := if m = -1 then 0 else wtF (T 4) m 9
/-- a step: its answer, and the State behind it -/
def thF (T : Nat → Nat → Int32) (m : Int32) (nw : Nat) : Int32 × (Nat → Nat → Int32) := if hwW T m ≤ 0 then (0, rfS T) else if nw < 12 then (hwW T m, tkS T m (hwW T m) nw) else (0, rfS T)

set_option maxHeartbeats 1000000 in
set_option maxRecDepth 100000 in
theorem c_X4_isSlot (l : Launch) (D : va_G) (k : Nat → ClassId) (x : Int32)  : MI l yX4_isSlot wsX4_isSlot ({ frames := 0, cells := 0, slots := 0, locals := 0 }) D k [.int x] ([]) (bI (slB x)) ([]) := by
  intro sz
  refine Met.ofW (cc := cX4_isSlot) (maxL := 1) (ret := (some .boolean)) (by decide) rfl ?_
  intro p e s m args below meth c s₁ B hml hv
  obtain ⟨rfl, hN, hsz, hP, hK, hD0⟩ := hv
  have hx := B.exec
  have hb := B.bytes
  have hr := B.returns
  have hts := atoms_spec (ws := wsX4_isSlot) B.pre
  have hown : s.vm.findClass RX4 = some m.cls := findClass_of_methodNamed B.named
  have hlocks := B.notSynchronized
  subst hsz
  have hD := hD0.self (sz := s.heap.size)
  generalize hAe : va_A ([]) s.heap.size = A at hD ⊢
  have hA : ∀ q : Nat, s.heap.size ≤ q → A q := fun q h => by rw [← hAe]; exact Or.inr h
  have hS : va_S A s.heap s.heap [] := va_S.rf
  have hl := lv_entry ([.int x]) (n := 1) (Nat.le_of_ble_eq_true rfl)
  rw [lg_entry_eq]
  generalize (lg_sl ([.int x]) ++ List.replicate (1 - (lg_sl ([.int x])).length) Slot.unset).toArray = ls at hl ⊢
  have hl : lv_has ls 1 [(0, .int x)] := hl
  obtain ⟨H, hHe⟩ : ∃ H, H = s.heap := ⟨_, rfl⟩
  have hP : va_P D vwCl ([]) H := by rw [hHe]; exact hP
  have hS : va_S A s.heap H [] := by rw [hHe]; exact hS
  rw [← hHe]
  refine absQ (fun Q hQ => ?_)
  refine lv_iload_n hx hb dX4_isSlot_0 rfl (lv_at hl 0 rfl) ?_
  refine lv_if_lt (tgt := 13) hx hb dX4_isSlot_1 (by decide) (fun c_1 => ?_) (fun c_1 => ?_)
  · refine lv_iconst (v := 0) hx hb dX4_isSlot_13 (by decide) ?_
    subst hQ
    exact rt_z hx hb hr hlocks hS dX4_isSlot_14 (hP) (rfl) (by simp [slB, bI, c_1])
  · refine lv_iload_n hx hb dX4_isSlot_4 rfl (lv_at hl 0 rfl) ?_
    refine lv_iconst (v := 2) hx hb dX4_isSlot_5 (by decide) ?_
    refine lv_icmp_ge (tgt := 13) hx hb dX4_isSlot_6 (by decide) (fun c_2 => ?_) (fun c_2 => ?_)
    · refine lv_iconst (v := 0) hx hb dX4_isSlot_13 (by decide) ?_
      subst hQ
      exact rt_z hx hb hr hlocks hS dX4_isSlot_14 (hP) (rfl) (by simp [slB, bI, c_1, c_2])
    · refine lv_iconst (v := 1) hx hb dX4_isSlot_9 (by decide) ?_
      refine lv_goto (tgt := 14) hx hb dX4_isSlot_10 (by decide) ?_
      subst hQ
      exact rt_z hx hb hr hlocks hS dX4_isSlot_14 (hP) (rfl) (by simp [slB, bI, c_1, c_2])

set_option maxHeartbeats 1000000 in
set_option maxRecDepth 100000 in
theorem c_X4_sum (l : Launch) (D : va_G) (k : Nat → ClassId) (x : Nat) (f : Nat → Int32)  : MI l yX4_sum wsX4_sum ({ frames := 0, cells := 0, slots := 0, locals := 0 }) D k [.ref x] ([(x, .inl (k 0, 9, .inl f))]) (smF f 9) ([(x, .inl (k 0, 9, .inl f))]) := by
  intro sz
  refine Met.ofW (cc := cX4_sum) (maxL := 6) (ret := (some .int)) (by decide) rfl ?_
  intro p e s m args below meth c s₁ B hml hv
  obtain ⟨rfl, hN, hsz, hP, hK, hD0⟩ := hv
  have hx := B.exec
  have hb := B.bytes
  have hr := B.returns
  have hts := atoms_spec (ws := wsX4_sum) B.pre
  have hown : s.vm.findClass RX4 = some m.cls := findClass_of_methodNamed B.named
  have hlocks := B.notSynchronized
  subst hsz
  have hD := hD0.self (sz := s.heap.size)
  generalize hAe : va_A ([(x, .inl (k 0, 9, .inl f))]) s.heap.size = A at hD ⊢
  have hA : ∀ q : Nat, s.heap.size ≤ q → A q := fun q h => by rw [← hAe]; exact Or.inr h
  have hS : va_S A s.heap s.heap [] := va_S.rf
  have hl := lv_entry ([.ref x]) (n := 6) (Nat.le_of_ble_eq_true rfl)
  rw [lg_entry_eq]
  generalize (lg_sl ([.ref x]) ++ List.replicate (6 - (lg_sl ([.ref x])).length) Slot.unset).toArray = ls at hl ⊢
  have hl : lv_has ls 6 [(0, .ref x)] := hl
  obtain ⟨H, hHe⟩ : ∃ H, H = s.heap := ⟨_, rfl⟩
  have hP : va_P D vwCl ([(x, .inl (k 0, 9, .inl f))]) H := by rw [hHe]; exact hP
  have hS : va_S A s.heap H [] := by rw [hHe]; exact hS
  rw [← hHe]
  refine absQ (fun Q hQ => ?_)
  refine lv_iconst (v := 0) hx hb dX4_sum_0 (by decide) ?_
  refine lv_istore_n (lv' := [(1, .int 0), (0, .ref x)]) hx hb dX4_sum_1 rfl hl (by decide) rfl (fun ls hl => ?_)
  refine lv_aload_n hx hb dX4_sum_2 rfl (lv_at hl 1 rfl) ?_
  refine lv_astore_n (lv' := [(2, .ref x), (1, .int 0), (0, .ref x)]) hx hb dX4_sum_3 rfl hl (by decide) rfl (fun ls hl => ?_)
  refine lv_aload_n hx hb dX4_sum_4 rfl (lv_at hl 0 rfl) ?_
  refine va_alen (v := 9) hx hb hK hP 0 0 rfl rfl rfl dX4_sum_5 ?_
  refine lv_istore_n (lv' := [(3, .int 9), (2, .ref x), (1, .int 0), (0, .ref x)]) hx hb dX4_sum_6 rfl hl (by decide) rfl (fun ls hl => ?_)
  refine lv_iconst (v := 0) hx hb dX4_sum_7 (by decide) ?_
  refine lv_istore (lv' := [(4, .int 0), (3, .int 9), (2, .ref x), (1, .int 0), (0, .ref x)]) hx hb dX4_sum_8 hl (by decide) rfl (fun ls hl => ?_)
  suffices LOOP_i : ∀ (fu_i i : Nat) (y : Int32), 9 - i < fu_i → i ≤ 9 → y = smF f i → ∀ (H : Heap) (locs : List Loc) (ls : Array Slot), va_P D vwCl ([(x, .inl (k 0, 9, .inl f))]) H → va_D A ([(x, .inl (k 0, 9, .inl f))]) → va_S A s.heap H locs → lv_has ls 6 [(4, .int (nI i)), (3, .int 9), (2, .ref x), (1, .int y), (0, .ref x)] → W p l e ({ frames := 0, cells := 0, slots := 0, locals := 0 } : Room) s m ([.ref x] : List Value).toArray below meth c H locs 0 0 Q (F0 m 10 ls []) from LOOP_i (9 + 1) 0 0 (by omega) (by omega) (rfl)  _ _ _ hP hD hS (lv_sub hl [0, 1, 2, 3, 4] rfl)
  clear hP hD hS hl hHe
  intro fu_i
  induction fu_i with
  | zero => intro i y hn_i; omega
  | succ fu_i ih_i =>
    intro i y hn_i hle_i e_y  H locs ls hP hD hS hl
    refine lv_iload hx hb dX4_sum_10 (lv_at hl 0 rfl) ?_
    refine lv_iload_n hx hb dX4_sum_12 rfl (lv_at hl 1 rfl) ?_
    refine lv_icmp_ge (tgt := 33) hx hb dX4_sum_13 (by decide) (fun c_1 => ?_) (fun c_1 => ?_)
    · have c_1 : 9 ≤ i := (nI_leI (a := 9) (b := i) (by omega) (by omega)).mp c_1
      have hz_i : 9 = i := by omega
      subst hz_i
      subst e_y
      refine lv_iload_n hx hb dX4_sum_33 rfl (lv_at hl 3 rfl) ?_
      subst hQ
      exact rt_i hx hb hr hlocks hS dX4_sum_34 (hP) (rfl)
    · have c_1 : ¬ (9 ≤ i) := fun h9 => c_1 ((nI_leI (a := 9) (b := i) (by omega) (by omega)).mpr h9)
      refine lv_aload_n hx hb dX4_sum_16 rfl (lv_at hl 2 rfl) ?_
      refine lv_iload hx hb dX4_sum_17 (lv_at hl 0 rfl) ?_
      refine ar_ld hx hb hK hP 0 rfl i (nI_clamp (by omega)) (vp_in_nI (by omega) (by omega)) dX4_sum_19 ?_
      refine lv_istore (lv' := [(5, .int (f i)), (4, .int (nI i)), (3, .int 9), (2, .ref x), (1, .int y), (0, .ref x)]) hx hb dX4_sum_20 hl (by decide) rfl (fun ls hl => ?_)
      refine lv_iload_n hx hb dX4_sum_22 rfl (lv_at hl 4 rfl) ?_
      refine lv_iload hx hb dX4_sum_23 (lv_at hl 0 rfl) ?_
      refine lv_iadd hx hb dX4_sum_25 ?_
      refine lv_istore_n (lv' := [(1, .int (y + (f i))), (5, .int (f i)), (4, .int (nI i)), (3, .int 9), (2, .ref x), (0, .ref x)]) hx hb dX4_sum_26 rfl hl (by decide) rfl (fun ls hl => ?_)
      refine lv_iinc (v := (nI (i + 1))) (lv' := [(4, .int (nI (i + 1))), (1, .int (y + (f i))), (5, .int (f i)), (3, .int 9), (2, .ref x), (0, .ref x)]) hx hb dX4_sum_27 hl (k := 2) rfl (nI_1 i) (by decide) rfl (fun ls hl => ?_)
      refine lv_goto (tgt := 10) hx hb dX4_sum_30 (by decide) ?_
      exact ih_i (i + 1) (y + (f i)) (by omega) (by omega) (by rw [smF, ← e_y])  _ _ _ hP hD hS (lv_sub hl [0, 3, 4, 1, 5] rfl)

set_option maxHeartbeats 1000000 in
set_option maxRecDepth 100000 in
theorem c_X4_countWith (l : Launch) (D : va_G) (k : Nat → ClassId) (x : Nat) (f : Nat → Int32) (n : Nat) (pos : Int32) (hn : n ≤ 511) : MI l yX4_countWith wsX4_countWith ({ frames := 1, cells := 0, slots := 0, locals := 21 }) D k [.ref x, .int (nI n), .int pos] ([(x, .inl (k 0, 512, .inl f))]) (cjtF f pos n) ([(x, .inl (k 0, 512, .inl f))]) := by
  intro sz
  refine Met.ofW (cc := cX4_countWith) (maxL := 5) (ret := (some .int)) (by decide) rfl ?_
  intro p e s m args below meth c s₁ B hml hv
  obtain ⟨rfl, hN, hsz, hP, hK, hD0⟩ := hv
  have hx := B.exec
  have hb := B.bytes
  have hr := B.returns
  have hts := atoms_spec (ws := wsX4_countWith) B.pre
  have hown : s.vm.findClass RX4 = some m.cls := findClass_of_methodNamed B.named
  have hlocks := B.notSynchronized
  subst hsz
  have hD := hD0.self (sz := s.heap.size)
  generalize hAe : va_A ([(x, .inl (k 0, 512, .inl f))]) s.heap.size = A at hD ⊢
  have hA : ∀ q : Nat, s.heap.size ≤ q → A q := fun q h => by rw [← hAe]; exact Or.inr h
  have hS : va_S A s.heap s.heap [] := va_S.rf
  have hl := lv_entry ([.ref x, .int (nI n), .int pos]) (n := 5) (Nat.le_of_ble_eq_true rfl)
  rw [lg_entry_eq]
  generalize (lg_sl ([.ref x, .int (nI n), .int pos]) ++ List.replicate (5 - (lg_sl ([.ref x, .int (nI n), .int pos])).length) Slot.unset).toArray = ls at hl ⊢
  have hl : lv_has ls 5 [(0, .ref x), (1, .int (nI n)), (2, .int pos)] := hl
  obtain ⟨H, hHe⟩ : ∃ H, H = s.heap := ⟨_, rfl⟩
  have hP : va_P D vwCl ([(x, .inl (k 0, 512, .inl f))]) H := by rw [hHe]; exact hP
  have hS : va_S A s.heap H [] := by rw [hHe]; exact hS
  rw [← hHe]
  refine absQ (fun Q hQ => ?_)
  refine lv_iconst (v := 0) hx hb dX4_countWith_0 (by decide) ?_
  refine lv_istore_n (lv' := [(3, .int 0), (0, .ref x), (1, .int (nI n)), (2, .int pos)]) hx hb dX4_countWith_1 rfl hl (by decide) rfl (fun ls hl => ?_)
  refine lv_iconst (v := 0) hx hb dX4_countWith_2 (by decide) ?_
  refine lv_istore (lv' := [(4, .int 0), (3, .int 0), (0, .ref x), (1, .int (nI n)), (2, .int pos)]) hx hb dX4_countWith_3 hl (by decide) rfl (fun ls hl => ?_)
  suffices LOOP_i : ∀ (fu_i i : Nat) (y : Int32), n - i < fu_i → i ≤ n → y = cjtF f pos i → ∀ (H : Heap) (locs : List Loc) (ls : Array Slot), va_P D vwCl ([(x, .inl (k 0, 512, .inl f))]) H → va_D A ([(x, .inl (k 0, 512, .inl f))]) → va_S A s.heap H locs → lv_has ls 5 [(4, .int (nI i)), (3, .int y), (0, .ref x), (1, .int (nI n)), (2, .int pos)] → W p l e ({ frames := 1, cells := 0, slots := 0, locals := 21 } : Room) s m ([.ref x, .int (nI n), .int pos] : List Value).toArray below meth c H locs 0 0 Q (F0 m 5 ls []) from LOOP_i (n + 1) 0 0 (by omega) (by omega) (rfl)  _ _ _ hP hD hS (lv_sub hl [0, 1, 2, 3, 4] rfl)
  clear hP hD hS hl hHe
  intro fu_i
  induction fu_i with
  | zero => intro i y hn_i; omega
  | succ fu_i ih_i =>
    intro i y hn_i hle_i e_y  H locs ls hP hD hS hl
    refine lv_iload hx hb dX4_countWith_5 (lv_at hl 0 rfl) ?_
    refine lv_iload_n hx hb dX4_countWith_7 rfl (lv_at hl 3 rfl) ?_
    refine lv_icmp_ge (tgt := 35) hx hb dX4_countWith_8 (by decide) (fun c_1 => ?_) (fun c_1 => ?_)
    · have c_1 : n ≤ i := (nI_leI (a := n) (b := i) (by omega) (by omega)).mp c_1
      have hz_i : n = i := by omega
      subst hz_i
      subst e_y
      refine lv_iload_n hx hb dX4_countWith_35 rfl (lv_at hl 1 rfl) ?_
      subst hQ
      exact rt_i hx hb hr hlocks hS dX4_countWith_36 (hP) (rfl)
    · have c_1 : ¬ (n ≤ i) := fun h9 => c_1 ((nI_leI (a := n) (b := i) (by omega) (by omega)).mpr h9)
      refine lv_iload hx hb dX4_countWith_11 (lv_at hl 0 rfl) ?_
      refine lv_aload_n hx hb dX4_countWith_13 rfl (lv_at hl 2 rfl) ?_
      refine va_alen (v := 512) hx hb hK hP 0 0 rfl rfl rfl dX4_countWith_14 ?_
      refine lv_icmp_ge (tgt := 35) hx hb dX4_countWith_15 (by decide) (fun c_2 => ?_) (fun c_2 => ?_)
      · have c_2 : 512 ≤ i := (nI_leI (a := 512) (b := i) (by omega) (by omega)).mp c_2
        exact absurd c_2 (by omega)
      · have c_2 : ¬ (512 ≤ i) := fun h9 => c_2 ((nI_leI (a := 512) (b := i) (by omega) (by omega)).mpr h9)
        refine lv_iload_n hx hb dX4_countWith_18 rfl (lv_at hl 1 rfl) ?_
        refine lv_aload_n hx hb dX4_countWith_19 rfl (lv_at hl 2 rfl) ?_
        refine lv_iload hx hb dX4_countWith_20 (lv_at hl 0 rfl) ?_
        refine ar_ld hx hb hK hP 0 rfl i (nI_clamp (by omega)) (vp_in_nI (by omega) (by omega)) dX4_countWith_22 ?_
        refine lv_iload_n hx hb dX4_countWith_23 rfl (lv_at hl 4 rfl) ?_
        have hPc : va_P D vwCl ([]) H := hP.sub [] rfl
        have hDc : va_D A ([]) := hD.sub [] (by decide +kernel) rfl
        refine cl_i0 (va_runS (As := [.int (f i), .int pos]) (rest := [.int y]) ⟨hx, hb, hml, hown, hts⟩ (c_X4_bit l D k (f i) pos H.size) (va_cwS 2 hts gX4_countWith_X4_bit rfl rfl rfl (by decide +kernel) ⟨Nat.le_of_ble_eq_true rfl, Nat.le_of_ble_eq_true rfl⟩) ⟨pr_blind, pr_at hN hPc hK hDc⟩ rfl rfl hl.1 rfl (lv_room (Nat.le_of_ble_eq_true rfl)) dX4_countWith_24 ⟨Nat.le_of_ble_eq_true rfl, Nat.le_of_ble_eq_true rfl⟩) hP hD hS hA [] rfl (fun H locs hP hD hS => ?_)
        clear hPc hDc
        refine lv_iadd hx hb dX4_countWith_27 ?_
        refine lv_istore_n (lv' := [(3, .int (y + (bitv (f i) pos))), (4, .int (nI i)), (0, .ref x), (1, .int (nI n)), (2, .int pos)]) hx hb dX4_countWith_28 rfl hl (by decide) rfl (fun ls hl => ?_)
        refine lv_iinc (v := (nI (i + 1))) (lv' := [(4, .int (nI (i + 1))), (3, .int (y + (bitv (f i) pos))), (0, .ref x), (1, .int (nI n)), (2, .int pos)]) hx hb dX4_countWith_29 hl (k := 1) rfl (nI_1 i) (by decide) rfl (fun ls hl => ?_)
        refine lv_goto (tgt := 5) hx hb dX4_countWith_32 (by decide) ?_
        exact ih_i (i + 1) (y + (bitv (f i) pos)) (by omega) (by omega) (by rw [cjtF, ← e_y])  _ _ _ hP hD hS (lv_sub hl [0, 1, 2, 3, 4] rfl)

set_option maxHeartbeats 1000000 in
set_option maxRecDepth 100000 in
theorem c_X4_copyState (l : Launch) (D : va_G) (k : Nat → ClassId) (a b : Nat → Nat) (S T : Nat → Nat → Int32)  : MV l yX4_copyState wsX4_copyState ({ frames := 1, cells := 0, slots := 0, locals := 22 }) D k [.ref (b 0), .ref (a 0)] (wSt k a S ++ (wSt k b T)) (wSt k a T ++ wSt k b T) := by
  intro sz
  refine Met.ofW (cc := cX4_copyState) (maxL := 2) (ret := none) (by decide) rfl ?_
  intro p e s m args below meth c s₁ B hml hv
  obtain ⟨rfl, hN, hsz, hP, hK, hD0⟩ := hv
  have hx := B.exec
  have hb := B.bytes
  have hr := B.returns
  have hts := atoms_spec (ws := wsX4_copyState) B.pre
  have hown : s.vm.findClass RX4 = some m.cls := findClass_of_methodNamed B.named
  have hlocks := B.notSynchronized
  subst hsz
  have hD := hD0.self (sz := s.heap.size)
  generalize hAe : va_A (wSt k a S ++ (wSt k b T)) s.heap.size = A at hD ⊢
  have hA : ∀ q : Nat, s.heap.size ≤ q → A q := fun q h => by rw [← hAe]; exact Or.inr h
  have hS : va_S A s.heap s.heap [] := va_S.rf
  have hl := lv_entry ([.ref (b 0), .ref (a 0)]) (n := 2) (Nat.le_of_ble_eq_true rfl)
  rw [lg_entry_eq]
  generalize (lg_sl ([.ref (b 0), .ref (a 0)]) ++ List.replicate (2 - (lg_sl ([.ref (b 0), .ref (a 0)])).length) Slot.unset).toArray = ls at hl ⊢
  have hl : lv_has ls 2 [(0, .ref (b 0)), (1, .ref (a 0))] := hl
  obtain ⟨H, hHe⟩ : ∃ H, H = s.heap := ⟨_, rfl⟩
  have hP : va_P D vwCl (wSt k a S ++ (wSt k b T)) H := by rw [hHe]; exact hP
  have hS : va_S A s.heap H [] := by rw [hHe]; exact hS
  rw [← hHe]
  refine absQ (fun Q hQ => ?_)
  refine lv_aload_n hx hb dX4_copyState_0 rfl (lv_at hl 0 rfl) ?_
  refine lv_ifnull hx hb dX4_copyState_1 ?_
  refine lv_aload_n hx hb dX4_copyState_4 rfl (lv_at hl 1 rfl) ?_
  refine lv_ifnonnull (tgt := 9) hx hb dX4_copyState_5 (by decide) ?_
  refine lv_aload_n hx hb dX4_copyState_9 rfl (lv_at hl 1 rfl) ?_
  refine lv_aload_n hx hb dX4_copyState_10 rfl (lv_at hl 0 rfl) ?_
  have hPc : va_P D vwCl (wSt k a S ++ wSt k b T) H := hP.sub [0, 1, 2, 3, 4, 5, 6, 7, 8, 9, 10, 11, 12, 13, 14, 15] rfl
  have hDc : va_D A (wSt k a S ++ wSt k b T) := hD.sub [0, 1, 2, 3, 4, 5, 6, 7, 8, 9, 10, 11, 12, 13, 14, 15] (by decide +kernel) rfl
  refine cl_v (va_runV (As := [.ref (b 0)]) (rest := []) ⟨hx, hb, hml, hown, hts⟩ (c_X1_copyGraph l D k a b S T H.size) (cwV 1 hts gX4_copyState_X1_copyGraph rfl rfl rfl (by decide +kernel) ⟨Nat.le_of_ble_eq_true rfl, Nat.le_of_ble_eq_true rfl⟩) ⟨pr_blind, va_recv hK hP (ci := 1) (q0 := 0) rfl rfl, pr_at hN hPc hK hDc⟩ rfl rfl hl.1 rfl (lv_room (Nat.le_of_ble_eq_true rfl)) dX4_copyState_11 ⟨Nat.le_of_ble_eq_true rfl, Nat.le_of_ble_eq_true rfl⟩) hP hD hS hA [0, 1, 2, 3, 4, 5, 6, 7, 8, 9, 10, 11, 12, 13, 14, 15] [] ([]) [a 0, a 1, a 2, a 3, a 4, a 5, a 6, a 7, b 0, b 1, b 2, b 3, b 4, b 5, b 6, b 7] 16 rfl (wn := (wSt k a (mkS (T 0) (T 1) (T 2) (T 3) (S 4) (S 5) (S 6) (S 7)) ++ (wSt k b T))) rfl rfl rfl rfl (by decide +kernel) rfl rfl (fun H locs hP hD hS => ?_)
  clear hPc hDc
  refine lv_aload_n hx hb dX4_copyState_14 rfl (lv_at hl 1 rfl) ?_
  refine lv_aload_n hx hb dX4_copyState_15 rfl (lv_at hl 0 rfl) ?_
  have hPc : va_P D vwCl (wSt k a (mkS (T 0) (T 1) (T 2) (T 3) (S 4) (S 5) (S 6) (S 7)) ++ wSt k b T) H := hP.sub [0, 1, 2, 3, 4, 5, 6, 7, 8, 9, 10, 11, 12, 13, 14, 15] rfl
  have hDc : va_D A (wSt k a (mkS (T 0) (T 1) (T 2) (T 3) (S 4) (S 5) (S 6) (S 7)) ++ wSt k b T) := hD.sub [0, 1, 2, 3, 4, 5, 6, 7, 8, 9, 10, 11, 12, 13, 14, 15] (by decide +kernel) rfl
  refine cl_v (va_runV (As := [.ref (b 0)]) (rest := []) ⟨hx, hb, hml, hown, hts⟩ (c_X1_copySplitting l D k a b (mkS (T 0) (T 1) (T 2) (T 3) (S 4) (S 5) (S 6) (S 7)) T H.size) (cwV 1 hts gX4_copyState_X1_copySplitting rfl rfl rfl (by decide +kernel) ⟨Nat.le_of_ble_eq_true rfl, Nat.le_of_ble_eq_true rfl⟩) ⟨pr_blind, va_recv hK hP (ci := 1) (q0 := 0) rfl rfl, pr_at hN hPc hK hDc⟩ rfl rfl hl.1 rfl (lv_room (Nat.le_of_ble_eq_true rfl)) dX4_copyState_16 ⟨Nat.le_of_ble_eq_true rfl, Nat.le_of_ble_eq_true rfl⟩) hP hD hS hA [0, 1, 2, 3, 4, 5, 6, 7, 8, 9, 10, 11, 12, 13, 14, 15] [] ([]) [a 0, a 1, a 2, a 3, a 4, a 5, a 6, a 7, b 0, b 1, b 2, b 3, b 4, b 5, b 6, b 7] 16 rfl (wn := (wSt k a T ++ (wSt k b T))) rfl rfl rfl rfl (by decide +kernel) rfl rfl (fun H locs hP hD hS => ?_)
  clear hPc hDc
  subst hQ
  exact rt_v hx hb hr hlocks hS dX4_copyState_19 (hP)
