/-! P27 7: the law's own small methods -/

/-- what low answers -/
def lowN (v : Int32) (n : Nat) : Nat := v.toBitVec.toNat % 2147483648 % n
theorem low_and (v : Int32) : v &&& 2147483647 = nI (v.toBitVec.toNat % 2147483648) := by
  apply Int32.toBitVec_inj.1
  apply BitVec.eq_of_toNat_eq
  show (v.toBitVec &&& 2147483647#32).toNat = (BitVec.ofNat 32 (v.toBitVec.toNat % 2147483648)).toNat
  rw [BitVec.toNat_and, BitVec.toNat_ofNat, BitVec.toNat_ofNat, show (2147483647 % 2 ^ 32 : Nat) = 2 ^ 31 - 1 from rfl, Nat.and_two_pow_sub_one_eq_mod, Nat.mod_eq_of_lt (show v.toBitVec.toNat % 2147483648 < 2 ^ 32 by omega)]
theorem nI_div {a n : Nat} (ha : a < 2147483648) (hn : n < 1000) : nI a / nI n = nI (a / n) := by
  have h1 : a / n ≤ a := Nat.div_le_self a n
  have e : (nI a / nI n).toInt = ((a / n : Nat) : Int) := by
    rw [Int32.toInt_div, nI_toInt (by omega), nI_toInt (by omega), ← Int.ofNat_tdiv]
    generalize a / n = d at h1 ⊢
    exact Int.bmod_eq_of_le (by omega) (by omega)
  apply Int32.toInt.inj
  rw [e, nI_toInt (Nat.lt_of_le_of_lt h1 (by omega))]
theorem low_e (v : Int32) (n : Nat) (hn : n < 1000) : (v &&& 2147483647) - (v &&& 2147483647) / nI n * nI n = nI (lowN v n) := by
  have h : v.toBitVec.toNat % 2147483648 < 2147483648 := Nat.mod_lt _ (by decide)
  rw [low_and, nI_div h hn, pk_mul, nI_subn (Nat.div_mul_le_self _ _)]
  unfold lowN
  have e := Nat.mod_add_div (v.toBitVec.toNat % 2147483648) n
  rw [Nat.mul_comm] at e
  exact congrArg nI (by omega)
theorem low_lt (v : Int32) {n : Nat} (hn : 0 < n) : lowN v n < n := Nat.mod_lt _ hn

set_option maxHeartbeats 1000000 in
set_option maxRecDepth 100000 in
theorem c_L_low_9 (l : Launch) (D : va_G) (k : Nat → ClassId) (v : Int32)  : MI l yL_low wsL_low ({ frames := 0, cells := 0, slots := 0, locals := 0 }) D k [.int v, .int 9] ([]) (nI (lowN v 9)) ([]) := by
  intro sz
  refine Met.ofW (cc := cL_low) (maxL := 2) (ret := (some .int)) (by decide) rfl ?_
  intro p e s m args below meth c s₁ B hml hv
  obtain ⟨rfl, hN, hsz, hP, hK, hD0⟩ := hv
  have hx := B.exec
  have hb := B.bytes
  have hr := B.returns
  have hts := atoms_spec (ws := wsL_low) B.pre
  have hown : s.vm.findClass RL = some m.cls := findClass_of_methodNamed B.named
  have hlocks := B.notSynchronized
  subst hsz
  have hD := hD0.self (sz := s.heap.size)
  generalize hAe : va_A ([]) s.heap.size = A at hD ⊢
  have hA : ∀ q : Nat, s.heap.size ≤ q → A q := fun q h => by rw [← hAe]; exact Or.inr h
  have hS : va_S A s.heap s.heap [] := va_S.rf
  have hl := lv_entry ([.int v, .int 9]) (n := 2) (Nat.le_of_ble_eq_true rfl)
  rw [lg_entry_eq]
  generalize (lg_sl ([.int v, .int 9]) ++ List.replicate (2 - (lg_sl ([.int v, .int 9])).length) Slot.unset).toArray = ls at hl ⊢
  have hl : lv_has ls 2 [(0, .int v), (1, .int 9)] := hl
  obtain ⟨H, hHe⟩ : ∃ H, H = s.heap := ⟨_, rfl⟩
  have hP : va_P D vwCl ([]) H := by rw [hHe]; exact hP
  have hS : va_S A s.heap H [] := by rw [hHe]; exact hS
  rw [← hHe]
  refine absQ (fun Q hQ => ?_)
  refine lv_iload_n hx hb dL_low_0 rfl (lv_at hl 0 rfl) ?_
  refine lv_ldc hx hb hown (hts (.constant RL 8 2147483647) (List.mem_of_getElem? (i := 1) rfl)) dL_low_1 ?_
  refine lv_iand hx hb dL_low_3 ?_
  refine lv_iload_n hx hb dL_low_4 rfl (lv_at hl 1 rfl) ?_
  refine lv_irem hx hb dL_low_5 (by decide) ?_
  subst hQ
  exact rt_i hx hb hr hlocks hS dL_low_6 (hP) (low_e v 9 (by decide))

set_option maxHeartbeats 1000000 in
set_option maxRecDepth 100000 in
theorem c_L_low_16 (l : Launch) (D : va_G) (k : Nat → ClassId) (v : Int32)  : MI l yL_low wsL_low ({ frames := 0, cells := 0, slots := 0, locals := 0 }) D k [.int v, .int 16] ([]) (nI (lowN v 16)) ([]) := by
  intro sz
  refine Met.ofW (cc := cL_low) (maxL := 2) (ret := (some .int)) (by decide) rfl ?_
  intro p e s m args below meth c s₁ B hml hv
  obtain ⟨rfl, hN, hsz, hP, hK, hD0⟩ := hv
  have hx := B.exec
  have hb := B.bytes
  have hr := B.returns
  have hts := atoms_spec (ws := wsL_low) B.pre
  have hown : s.vm.findClass RL = some m.cls := findClass_of_methodNamed B.named
  have hlocks := B.notSynchronized
  subst hsz
  have hD := hD0.self (sz := s.heap.size)
  generalize hAe : va_A ([]) s.heap.size = A at hD ⊢
  have hA : ∀ q : Nat, s.heap.size ≤ q → A q := fun q h => by rw [← hAe]; exact Or.inr h
  have hS : va_S A s.heap s.heap [] := va_S.rf
  have hl := lv_entry ([.int v, .int 16]) (n := 2) (Nat.le_of_ble_eq_true rfl)
  rw [lg_entry_eq]
  generalize (lg_sl ([.int v, .int 16]) ++ List.replicate (2 - (lg_sl ([.int v, .int 16])).length) Slot.unset).toArray = ls at hl ⊢
  have hl : lv_has ls 2 [(0, .int v), (1, .int 16)] := hl
  obtain ⟨H, hHe⟩ : ∃ H, H = s.heap := ⟨_, rfl⟩
  have hP : va_P D vwCl ([]) H := by rw [hHe]; exact hP
  have hS : va_S A s.heap H [] := by rw [hHe]; exact hS
  rw [← hHe]
  refine absQ (fun Q hQ => ?_)
  refine lv_iload_n hx hb dL_low_0 rfl (lv_at hl 0 rfl) ?_
  refine lv_ldc hx hb hown (hts (.constant RL 8 2147483647) (List.mem_of_getElem? (i := 1) rfl)) dL_low_1 ?_
  refine lv_iand hx hb dL_low_3 ?_
  refine lv_iload_n hx hb dL_low_4 rfl (lv_at hl 1 rfl) ?_
  refine lv_irem hx hb dL_low_5 (by decide) ?_
  subst hQ
  exact rt_i hx hb hr hlocks hS dL_low_6 (hP) (low_e v 16 (by decide))

set_option maxHeartbeats 1000000 in
set_option maxRecDepth 100000 in
theorem c_L_low_200 (l : Launch) (D : va_G) (k : Nat → ClassId) (v : Int32)  : MI l yL_low wsL_low ({ frames := 0, cells := 0, slots := 0, locals := 0 }) D k [.int v, .int 200] ([]) (nI (lowN v 200)) ([]) := by
  intro sz
  refine Met.ofW (cc := cL_low) (maxL := 2) (ret := (some .int)) (by decide) rfl ?_
  intro p e s m args below meth c s₁ B hml hv
  obtain ⟨rfl, hN, hsz, hP, hK, hD0⟩ := hv
  have hx := B.exec
  have hb := B.bytes
  have hr := B.returns
  have hts := atoms_spec (ws := wsL_low) B.pre
  have hown : s.vm.findClass RL = some m.cls := findClass_of_methodNamed B.named
  have hlocks := B.notSynchronized
  subst hsz
  have hD := hD0.self (sz := s.heap.size)
  generalize hAe : va_A ([]) s.heap.size = A at hD ⊢
  have hA : ∀ q : Nat, s.heap.size ≤ q → A q := fun q h => by rw [← hAe]; exact Or.inr h
  have hS : va_S A s.heap s.heap [] := va_S.rf
  have hl := lv_entry ([.int v, .int 200]) (n := 2) (Nat.le_of_ble_eq_true rfl)
  rw [lg_entry_eq]
  generalize (lg_sl ([.int v, .int 200]) ++ List.replicate (2 - (lg_sl ([.int v, .int 200])).length) Slot.unset).toArray = ls at hl ⊢
  have hl : lv_has ls 2 [(0, .int v), (1, .int 200)] := hl
  obtain ⟨H, hHe⟩ : ∃ H, H = s.heap := ⟨_, rfl⟩
  have hP : va_P D vwCl ([]) H := by rw [hHe]; exact hP
  have hS : va_S A s.heap H [] := by rw [hHe]; exact hS
  rw [← hHe]
  refine absQ (fun Q hQ => ?_)
  refine lv_iload_n hx hb dL_low_0 rfl (lv_at hl 0 rfl) ?_
  refine lv_ldc hx hb hown (hts (.constant RL 8 2147483647) (List.mem_of_getElem? (i := 1) rfl)) dL_low_1 ?_
  refine lv_iand hx hb dL_low_3 ?_
  refine lv_iload_n hx hb dL_low_4 rfl (lv_at hl 1 rfl) ?_
  refine lv_irem hx hb dL_low_5 (by decide) ?_
  subst hQ
  exact rt_i hx hb hr hlocks hS dL_low_6 (hP) (low_e v 200 (by decide))

set_option maxHeartbeats 1000000 in
set_option maxRecDepth 100000 in
theorem c_L_bits (l : Launch) (D : va_G) (k : Nat → ClassId) (x : Int32)  : MI l yL_bits wsL_bits ({ frames := 0, cells := 0, slots := 0, locals := 0 }) D k [.int x] ([]) (mnF x 9) ([]) := by
  intro sz
  refine Met.ofW (cc := cL_bits) (maxL := 3) (ret := (some .int)) (by decide) rfl ?_
  intro p e s m args below meth c s₁ B hml hv
  obtain ⟨rfl, hN, hsz, hP, hK, hD0⟩ := hv
  have hx := B.exec
  have hb := B.bytes
  have hr := B.returns
  have hts := atoms_spec (ws := wsL_bits) B.pre
  have hown : s.vm.findClass RL = some m.cls := findClass_of_methodNamed B.named
  have hlocks := B.notSynchronized
  subst hsz
  have hD := hD0.self (sz := s.heap.size)
  generalize hAe : va_A ([]) s.heap.size = A at hD ⊢
  have hA : ∀ q : Nat, s.heap.size ≤ q → A q := fun q h => by rw [← hAe]; exact Or.inr h
  have hS : va_S A s.heap s.heap [] := va_S.rf
  have hl := lv_entry ([.int x]) (n := 3) (Nat.le_of_ble_eq_true rfl)
  rw [lg_entry_eq]
  generalize (lg_sl ([.int x]) ++ List.replicate (3 - (lg_sl ([.int x])).length) Slot.unset).toArray = ls at hl ⊢
  have hl : lv_has ls 3 [(0, .int x)] := hl
  obtain ⟨H, hHe⟩ : ∃ H, H = s.heap := ⟨_, rfl⟩
  have hP : va_P D vwCl ([]) H := by rw [hHe]; exact hP
  have hS : va_S A s.heap H [] := by rw [hHe]; exact hS
  rw [← hHe]
  refine absQ (fun Q hQ => ?_)
  refine lv_iconst (v := 0) hx hb dL_bits_0 (by decide) ?_
  refine lv_istore_n (lv' := [(1, .int 0), (0, .int x)]) hx hb dL_bits_1 rfl hl (by decide) rfl (fun ls hl => ?_)
  refine lv_iconst (v := 0) hx hb dL_bits_2 (by decide) ?_
  refine lv_istore_n (lv' := [(2, .int 0), (1, .int 0), (0, .int x)]) hx hb dL_bits_3 rfl hl (by decide) rfl (fun ls hl => ?_)
  suffices LOOP_i : ∀ (fu_i i : Nat) (y : Int32), 9 - i < fu_i → i ≤ 9 → y = mnF x i → ∀ (H : Heap) (locs : List Loc) (ls : Array Slot), va_P D vwCl ([]) H → va_D A ([]) → va_S A s.heap H locs → lv_has ls 3 [(2, .int (nI i)), (1, .int y), (0, .int x)] → W p l e ({ frames := 0, cells := 0, slots := 0, locals := 0 } : Room) s m ([.int x] : List Value).toArray below meth c H locs 0 0 Q (F0 m 4 ls []) from LOOP_i (9 + 1) 0 0 (by omega) (by omega) (rfl)  _ _ _ hP hD hS (lv_sub hl [0, 1, 2] rfl)
  clear hP hD hS hl hHe
  intro fu_i
  induction fu_i with
  | zero => intro i y hn_i; omega
  | succ fu_i ih_i =>
    intro i y hn_i hle_i e_y  H locs ls hP hD hS hl
    refine lv_iload_n hx hb dL_bits_4 rfl (lv_at hl 0 rfl) ?_
    refine lv_bipush (v := 9) hx hb dL_bits_5 (by decide) ?_
    refine lv_icmp_ge (tgt := 24) hx hb dL_bits_7 (by decide) (fun c_1 => ?_) (fun c_1 => ?_)
    · have c_1 : 9 ≤ i := (nI_leI (a := 9) (b := i) (by omega) (by omega)).mp c_1
      have hz_i : 9 = i := by omega
      subst hz_i
      subst e_y
      refine lv_iload_n hx hb dL_bits_24 rfl (lv_at hl 1 rfl) ?_
      subst hQ
      exact rt_i hx hb hr hlocks hS dL_bits_25 (hP) (rfl)
    · have c_1 : ¬ (9 ≤ i) := fun h9 => c_1 ((nI_leI (a := 9) (b := i) (by omega) (by omega)).mpr h9)
      refine lv_iload_n hx hb dL_bits_10 rfl (lv_at hl 1 rfl) ?_
      refine lv_iload_n hx hb dL_bits_11 rfl (lv_at hl 2 rfl) ?_
      refine lv_iload_n hx hb dL_bits_12 rfl (lv_at hl 0 rfl) ?_
      refine lv_ishr hx hb dL_bits_13 ?_
      refine lv_iconst (v := 1) hx hb dL_bits_14 (by decide) ?_
      refine lv_iand hx hb dL_bits_15 ?_
      refine lv_iadd hx hb dL_bits_16 ?_
      refine lv_istore_n (lv' := [(1, .int (y + ((x >>> ((nI i) &&& 31)) &&& 1))), (2, .int (nI i)), (0, .int x)]) hx hb dL_bits_17 rfl hl (by decide) rfl (fun ls hl => ?_)
      refine lv_iinc (v := (nI (i + 1))) (lv' := [(2, .int (nI (i + 1))), (1, .int (y + ((x >>> ((nI i) &&& 31)) &&& 1))), (0, .int x)]) hx hb dL_bits_18 hl (k := 1) rfl (nI_1 i) (by decide) rfl (fun ls hl => ?_)
      refine lv_goto (tgt := 4) hx hb dL_bits_21 (by decide) ?_
      exact ih_i (i + 1) (y + ((x >>> ((nI i) &&& 31)) &&& 1)) (by omega) (by omega) (by rw [mnF, ← e_y]; rfl)  _ _ _ hP hD hS (lv_sub hl [0, 1, 2] rfl)

theorem xb_iff {a b i : Nat} (ha : a < 512) (hb : b < 512) (hi : i < 9) : ((nI a ^^^ nI b) >>> (nI i &&& 31)) &&& 1 = 0 ↔ a.testBit i = b.testBit i := by
  rw [nI_xor]
  show bitv (nI (a ^^^ b)) (nI i) = 0 ↔ _
  rw [bv_f (xor_lt9 ha hb) hi, Nat.testBit_xor]
  cases a.testBit i <;> cases b.testBit i <;> decide
theorem sr_nat : ∀ b, b < 512 → ∀ i, i < 9 → (nI b >>> (nI i &&& 31) = 0 ↔ b >>> i = 0) := by decide +kernel
theorem ahR_s {a b i : Nat} (h : i < 9) : ahR a b (9 - i) i = if a.testBit i = b.testBit i then ahR a b (9 - (i + 1)) (i + 1) else if a.testBit i = true then decide (¬ b >>> i = 0) else decide (a >>> i = 0) := by
  rw [show 9 - i = (9 - (i + 1)) + 1 by omega, ahR]

set_option maxHeartbeats 1000000 in
set_option maxRecDepth 100000 in
theorem c_L_isAhead (l : Launch) (D : va_G) (k : Nat → ClassId) (a b : Nat) (ga : a < 512) (gb : b < 512) (hne : ¬ a = b) : MI l yL_isAhead wsL_isAhead ({ frames := 0, cells := 0, slots := 0, locals := 0 }) D k [.int (nI a), .int (nI b)] ([]) (bI (ahB a b)) ([]) := by
  intro sz
  refine Met.ofW (cc := cL_isAhead) (maxL := 4) (ret := (some .boolean)) (by decide) rfl ?_
  intro p e s m args below meth c s₁ B hml hv
  obtain ⟨rfl, hN, hsz, hP, hK, hD0⟩ := hv
  have hx := B.exec
  have hb := B.bytes
  have hr := B.returns
  have hts := atoms_spec (ws := wsL_isAhead) B.pre
  have hown : s.vm.findClass RL = some m.cls := findClass_of_methodNamed B.named
  have hlocks := B.notSynchronized
  subst hsz
  have hD := hD0.self (sz := s.heap.size)
  generalize hAe : va_A ([]) s.heap.size = A at hD ⊢
  have hA : ∀ q : Nat, s.heap.size ≤ q → A q := fun q h => by rw [← hAe]; exact Or.inr h
  have hS : va_S A s.heap s.heap [] := va_S.rf
  have hl := lv_entry ([.int (nI a), .int (nI b)]) (n := 4) (Nat.le_of_ble_eq_true rfl)
  rw [lg_entry_eq]
  generalize (lg_sl ([.int (nI a), .int (nI b)]) ++ List.replicate (4 - (lg_sl ([.int (nI a), .int (nI b)])).length) Slot.unset).toArray = ls at hl ⊢
  have hl : lv_has ls 4 [(0, .int (nI a)), (1, .int (nI b))] := hl
  obtain ⟨H, hHe⟩ : ∃ H, H = s.heap := ⟨_, rfl⟩
  have hP : va_P D vwCl ([]) H := by rw [hHe]; exact hP
  have hS : va_S A s.heap H [] := by rw [hHe]; exact hS
  rw [← hHe]
  refine absQ (fun Q hQ => ?_)
  refine lv_iload_n hx hb dL_isAhead_0 rfl (lv_at hl 0 rfl) ?_
  refine lv_iload_n hx hb dL_isAhead_1 rfl (lv_at hl 1 rfl) ?_
  refine lv_ixor hx hb dL_isAhead_2 ?_
  refine lv_istore_n (lv' := [(2, .int ((nI a) ^^^ (nI b))), (0, .int (nI a)), (1, .int (nI b))]) hx hb dL_isAhead_3 rfl hl (by decide) rfl (fun ls hl => ?_)
  refine lv_iconst (v := 0) hx hb dL_isAhead_4 (by decide) ?_
  refine lv_istore_n (lv' := [(3, .int 0), (2, .int ((nI a) ^^^ (nI b))), (0, .int (nI a)), (1, .int (nI b))]) hx hb dL_isAhead_5 rfl hl (by decide) rfl (fun ls hl => ?_)
  suffices LOOP_i : ∀ (fu_i i : Nat) , 9 - i < fu_i → i ≤ 9 → (ahR a b (9 - i) i = ahB a b) → (∀ j, j < i → a.testBit j = b.testBit j) → ∀ (H : Heap) (locs : List Loc) (ls : Array Slot), va_P D vwCl ([]) H → va_D A ([]) → va_S A s.heap H locs → lv_has ls 4 [(3, .int (nI i)), (2, .int ((nI a) ^^^ (nI b))), (0, .int (nI a)), (1, .int (nI b))] → W p l e ({ frames := 0, cells := 0, slots := 0, locals := 0 } : Room) s m ([.int (nI a), .int (nI b)] : List Value).toArray below meth c H locs 0 0 Q (F0 m 6 ls []) from LOOP_i (9 + 1) 0  (by omega) (by omega)  (rfl) (fun j h9 => absurd h9 (Nat.not_lt_zero j)) _ _ _ hP hD hS (lv_sub hl [0, 1, 2, 3] rfl)
  clear hP hD hS hl hHe
  intro fu_i
  induction fu_i with
  | zero => intro i  hn_i; omega
  | succ fu_i ih_i =>
    intro i  hn_i hle_i  hv hnb H locs ls hP hD hS hl
    have hi9 : i < 9 := Decidable.byContradiction (fun h9 => hne (m_ext ga gb (fun j hj => hnb j (by omega))))
    refine lv_iload_n hx hb dL_isAhead_6 rfl (lv_at hl 1 rfl) ?_
    refine lv_iload_n hx hb dL_isAhead_7 rfl (lv_at hl 0 rfl) ?_
    refine lv_ishr hx hb dL_isAhead_8 ?_
    refine lv_iconst (v := 1) hx hb dL_isAhead_9 (by decide) ?_
    refine lv_iand hx hb dL_isAhead_10 ?_
    refine lv_if_ne (tgt := 20) hx hb dL_isAhead_11 (by decide) (fun c_1 => ?_) (fun c_1 => ?_)
    · have hbt : ¬ a.testBit i = b.testBit i := fun h9 => c_1 ((xb_iff ga gb hi9).mpr h9)
      rw [ahR_s hi9, if_neg hbt] at hv
      refine lv_iload_n hx hb dL_isAhead_20 rfl (lv_at hl 2 rfl) ?_
      refine lv_iload_n hx hb dL_isAhead_21 rfl (lv_at hl 0 rfl) ?_
      refine lv_ishr hx hb dL_isAhead_22 ?_
      refine lv_iconst (v := 1) hx hb dL_isAhead_23 (by decide) ?_
      refine lv_iand hx hb dL_isAhead_24 ?_
      refine lv_iconst (v := 1) hx hb dL_isAhead_25 (by decide) ?_
      refine lv_icmp_ne (tgt := 43) hx hb dL_isAhead_26 (by decide) (fun c_2 => ?_) (fun c_2 => ?_)
      · have hb2 : ¬ a.testBit i = true := fun h9 => c_2 ((bv_t ga hi9).mpr h9)
        rw [if_neg hb2] at hv
        refine lv_iload_n hx hb dL_isAhead_43 rfl (lv_at hl 2 rfl) ?_
        refine lv_iload_n hx hb dL_isAhead_44 rfl (lv_at hl 0 rfl) ?_
        refine lv_ishr hx hb dL_isAhead_45 ?_
        refine lv_if_ne (tgt := 53) hx hb dL_isAhead_46 (by decide) (fun c_3 => ?_) (fun c_3 => ?_)
        · refine lv_iconst (v := 0) hx hb dL_isAhead_53 (by decide) ?_
          subst hQ
          exact rt_z hx hb hr hlocks hS dL_isAhead_54 (hP) (rfl) (by rw [← hv, decide_eq_false (p := a >>> i = 0) (fun h9 => c_3 ((sr_nat a ga i hi9).mpr h9))]; rfl)
        · refine lv_iconst (v := 1) hx hb dL_isAhead_49 (by decide) ?_
          refine lv_goto (tgt := 54) hx hb dL_isAhead_50 (by decide) ?_
          subst hQ
          exact rt_z hx hb hr hlocks hS dL_isAhead_54 (hP) (rfl) (by rw [← hv, decide_eq_true (p := a >>> i = 0) ((sr_nat a ga i hi9).mp c_3)]; rfl)
      · have hb2 : a.testBit i = true := (bv_t ga hi9).mp c_2
        rw [if_pos hb2] at hv
        refine lv_iload_n hx hb dL_isAhead_29 rfl (lv_at hl 3 rfl) ?_
        refine lv_iload_n hx hb dL_isAhead_30 rfl (lv_at hl 0 rfl) ?_
        refine lv_ishr hx hb dL_isAhead_31 ?_
        refine lv_if_eq (tgt := 39) hx hb dL_isAhead_32 (by decide) (fun c_4 => ?_) (fun c_4 => ?_)
        · refine lv_iconst (v := 0) hx hb dL_isAhead_39 (by decide) ?_
          refine lv_goto (tgt := 54) hx hb dL_isAhead_40 (by decide) ?_
          subst hQ
          exact rt_z hx hb hr hlocks hS dL_isAhead_54 (hP) (rfl) (by rw [← hv, decide_eq_false (p := ¬ b >>> i = 0) (fun h9 => h9 ((sr_nat b gb i hi9).mp c_4))]; rfl)
        · refine lv_iconst (v := 1) hx hb dL_isAhead_35 (by decide) ?_
          refine lv_goto (tgt := 54) hx hb dL_isAhead_36 (by decide) ?_
          subst hQ
          exact rt_z hx hb hr hlocks hS dL_isAhead_54 (hP) (rfl) (by rw [← hv, decide_eq_true (show ¬ b >>> i = 0 from fun h9 => c_4 ((sr_nat b gb i hi9).mpr h9))]; rfl)
    · have hbt : a.testBit i = b.testBit i := (xb_iff ga gb hi9).mp c_1
      rw [ahR_s hi9, if_pos hbt] at hv
      refine lv_iinc (v := (nI (i + 1))) (lv' := [(3, .int (nI (i + 1))), (2, .int ((nI a) ^^^ (nI b))), (0, .int (nI a)), (1, .int (nI b))]) hx hb dL_isAhead_14 hl (k := 0) rfl (nI_1 i) (by decide) rfl (fun ls hl => ?_)
      refine lv_goto (tgt := 6) hx hb dL_isAhead_17 (by decide) ?_
      exact ih_i (i + 1)  (by omega) (by omega)  (hv) (fun j h9 => (Nat.lt_succ_iff_lt_or_eq.mp h9).elim (fun h8 => hnb j h8) (fun h8 => h8 ▸ hbt)) _ _ _ hP hD hS (lv_sub hl [0, 1, 2, 3] rfl)

theorem iw_s (f : Nat → Int32) (x : Int32) {i : Nat} {y : Int32} (h : iwS f x i = (true, y)) : iwS f x (i + 1) = if bitv x (nI i) = 1 then (if y = -1 then decide (f (18 + i) &&& 1 = 1) else decide (bitv (f (27 + y).toNatClampNeg) (nI i) = 1), nI i) else (true, y) := by
  rw [iwS, h]
  rfl
theorem mk_2 : ∀ k, k < 4 → ((nI k - nI k / 2 * 2 = 0) ↔ ¬ nI k &&& 1 = 1) := by decide +kernel
theorem mk_le : ∀ k, k < 4 → ((2 : Int32) ≤ nI k ↔ ¬ nI k ≤ 1) := by decide +kernel
theorem iw_no {S : Nat → Nat → Int32} {f : Nat → Int32} (hG : GrOK S f) {m i : Nat} (hm : m < 512) (hi : i < 9) (h : (iwS f (nI m) (i + 1)).1 = false) : wyV f (nI m) = 0 := by
  have h2 := iwS_stop f (nI m) h (8 - i)
  rw [show i + 1 + (8 - i) = 9 by omega] at h2
  have h3 : iwB f (nI m) = false := by unfold iwB; rw [h2]; rfl
  rcases wyV_c hG hm with e | e | e
  · exact e.1
  · rw [h3] at e; cases e.2.2
  · rw [h3] at e; cases e.2.2
theorem iw_n27 {j : Nat} (h : j < 9) (b : Nat) (hb : b < 100) : (nI b + nI j).toNatClampNeg = b + j := n27 h b hb
theorem iw_mark {S : Nat → Nat → Int32} {f : Nat → Int32} (hG : GrOK S f) {m i : Nat} {y : Int32} (hi : i < 9) (h : iwS f (nI m) i = (true, y)) (hbt : bitv (nI m) (nI i) = 1) (hy : y = -1) (c : Bool) (hc : (c = false) ↔ S 1 i - S 1 i / 2 * 2 = 0) : iwS f (nI m) (i + 1) = (c, nI i) := by
  obtain ⟨⟨g1, -, -⟩, ⟨k, hk, ek⟩, -, -⟩ := hG i hi
  rw [iw_s f _ h, if_pos hbt, if_pos hy]
  rw [g1, ek, mk_2 k hk] at hc
  rw [ek]
  refine Prod.ext ?_ rfl
  show decide (nI k &&& 1 = 1) = c
  cases c
  · exact decide_eq_false (hc.mp rfl)
  · exact decide_eq_true (Decidable.byContradiction fun h9 => by cases hc.mpr h9)
theorem iw_join {S : Nat → Nat → Int32} {f : Nat → Int32} (hG : GrOK S f) {m i j : Nat} (hi : i < 9) (hj : j < 9) (h : iwS f (nI m) i = (true, nI j)) (hbt : bitv (nI m) (nI i) = 1) (c : Bool) (hc : (c = false) ↔ bitv (S 2 j) (nI i) = 0) : iwS f (nI m) (i + 1) = (c, nI i) := by
  obtain ⟨e1, e2, e3, -⟩ := jnN_ok hG hj
  rw [iw_s f _ h, if_pos hbt, if_neg (nI_m1 (by omega)), show (27 : Int32) = nI 27 from rfl, n27 hj 27 (by decide), e2]
  rw [e1] at hc
  refine Prod.ext ?_ rfl
  show decide (bitv (nI (jnN f j)) (nI i) = 1) = c
  rcases bv_01 e3 i hi with h0 | h1
  · rw [h0, hc.mpr h0]; rfl
  · rw [h1]
    cases c
    · rw [hc.mp rfl] at h1; cases h1
    · rfl
theorem bf_neg {y : Int32} {P : Prop} (h : (y = -1 ∧ P) ∨ ∃ j, j < 9 ∧ y = nI j) (c : y < 0) : y = -1 := by
  rcases h with h | ⟨j, hj, rfl⟩
  · exact h.1
  · exact absurd c (by have := nI_pos (n := j) (by omega); exact this)
theorem bf_pos {y : Int32} {P : Prop} (h : (y = -1 ∧ P) ∨ ∃ j, j < 9 ∧ y = nI j) (c : ¬ y < 0) : ∃ j, j < 9 ∧ y = nI j := by
  rcases h with h | h
  · exact absurd (show y < 0 by rw [h.1]; decide) c
  · exact h
theorem wy_end {S : Nat → Nat → Int32} {f : Nat → Int32} (hG : GrOK S f) {m j : Nat} (hm : m < 512) (hj : j < 9) (h : iwS f (nI m) 9 = (true, nI j)) : wyV f (nI m) = if 2 ≤ S 1 j then (if brS (S 3) (nI m) 9 = true then 1 else 2) else 0 := by
  obtain ⟨⟨g1, -, -⟩, ⟨k, hk, ek⟩, -, -⟩ := hG j hj
  have e : iwB f (nI m) = decide (2 ≤ S 1 j) := by
    unfold iwB
    rw [h]
    show (true && decide (¬ f (18 + nI j).toNatClampNeg ≤ 1)) = _
    rw [Bool.true_and, show (18 : Int32) = nI 18 from rfl, n27 hj 18 (by decide), g1, ek, decide_eq_decide]
    exact (mk_le k hk).symm
  have e2 := io_br hG hm
  rw [e] at e2
  unfold wyV
  rw [e2, e]
  by_cases c : 2 ≤ S 1 j
  · rw [decide_eq_true c, if_pos c]
    cases brS (S 3) (nI m) 9 <;> rfl
  · rw [decide_eq_false c, if_neg c]; rfl

set_option maxHeartbeats 1000000 in
set_option maxRecDepth 100000 in
theorem c_L_way (l : Launch) (D : va_G) (k : Nat → ClassId) (j0 m0 b0 : Nat) (S : Nat → Nat → Int32) (f : Nat → Int32) (z : Nat) (hG : GrOK S f) (h1 : 1 ≤ z) (h2 : z < 512) : MI l yL_way wsL_way ({ frames := 0, cells := 0, slots := 0, locals := 0 }) D k [.ref j0, .ref m0, .ref b0, .int (nI z)] ([(j0, .inl (k 0, 9, .inl (S 2))), (m0, .inl (k 0, 9, .inl (S 1))), (b0, .inl (k 0, 9, .inl (S 3)))]) (wyV f (nI z)) ([(j0, .inl (k 0, 9, .inl (S 2))), (m0, .inl (k 0, 9, .inl (S 1))), (b0, .inl (k 0, 9, .inl (S 3)))]) := by
  intro sz
  refine Met.ofW (cc := cL_way) (maxL := 7) (ret := (some .int)) (by decide) rfl ?_
  intro p e s m args below meth c s₁ B hml hv
  obtain ⟨rfl, hN, hsz, hP, hK, hD0⟩ := hv
  have hx := B.exec
  have hb := B.bytes
  have hr := B.returns
  have hts := atoms_spec (ws := wsL_way) B.pre
  have hown : s.vm.findClass RL = some m.cls := findClass_of_methodNamed B.named
  have hlocks := B.notSynchronized
  subst hsz
  have hD := hD0.self (sz := s.heap.size)
  generalize hAe : va_A ([(j0, .inl (k 0, 9, .inl (S 2))), (m0, .inl (k 0, 9, .inl (S 1))), (b0, .inl (k 0, 9, .inl (S 3)))]) s.heap.size = A at hD ⊢
  have hA : ∀ q : Nat, s.heap.size ≤ q → A q := fun q h => by rw [← hAe]; exact Or.inr h
  have hS : va_S A s.heap s.heap [] := va_S.rf
  have hl := lv_entry ([.ref j0, .ref m0, .ref b0, .int (nI z)]) (n := 7) (Nat.le_of_ble_eq_true rfl)
  rw [lg_entry_eq]
  generalize (lg_sl ([.ref j0, .ref m0, .ref b0, .int (nI z)]) ++ List.replicate (7 - (lg_sl ([.ref j0, .ref m0, .ref b0, .int (nI z)])).length) Slot.unset).toArray = ls at hl ⊢
  have hl : lv_has ls 7 [(0, .ref j0), (1, .ref m0), (2, .ref b0), (3, .int (nI z))] := hl
  obtain ⟨H, hHe⟩ : ∃ H, H = s.heap := ⟨_, rfl⟩
  have hP : va_P D vwCl ([(j0, .inl (k 0, 9, .inl (S 2))), (m0, .inl (k 0, 9, .inl (S 1))), (b0, .inl (k 0, 9, .inl (S 3)))]) H := by rw [hHe]; exact hP
  have hS : va_S A s.heap H [] := by rw [hHe]; exact hS
  rw [← hHe]
  refine absQ (fun Q hQ => ?_)
  refine lv_iconst (v := (-1)) hx hb dL_way_0 (by decide) ?_
  refine lv_istore (lv' := [(4, .int (-1)), (0, .ref j0), (1, .ref m0), (2, .ref b0), (3, .int (nI z))]) hx hb dL_way_1 hl (by decide) rfl (fun ls hl => ?_)
  refine lv_iconst (v := 0) hx hb dL_way_3 (by decide) ?_
  refine lv_istore (lv' := [(5, .int 0), (4, .int (-1)), (0, .ref j0), (1, .ref m0), (2, .ref b0), (3, .int (nI z))]) hx hb dL_way_4 hl (by decide) rfl (fun ls hl => ?_)
  refine lv_iconst (v := 0) hx hb dL_way_6 (by decide) ?_
  refine lv_istore (lv' := [(6, .int 0), (5, .int 0), (4, .int (-1)), (0, .ref j0), (1, .ref m0), (2, .ref b0), (3, .int (nI z))]) hx hb dL_way_7 hl (by decide) rfl (fun ls hl => ?_)
  suffices LOOP_i : ∀ (fu_i i : Nat) (y : Int32) (ib : Int32), 9 - i < fu_i → i ≤ 9 → ib = bI (brS (S 3) (nI z) i) → (iwS f (nI z) i = (true, y)) → ((y = -1 ∧ ∀ q, q < i → z.testBit q = false) ∨ ∃ j, j < 9 ∧ y = nI j) → ∀ (H : Heap) (locs : List Loc) (ls : Array Slot), va_P D vwCl ([(j0, .inl (k 0, 9, .inl (S 2))), (m0, .inl (k 0, 9, .inl (S 1))), (b0, .inl (k 0, 9, .inl (S 3)))]) H → va_D A ([(j0, .inl (k 0, 9, .inl (S 2))), (m0, .inl (k 0, 9, .inl (S 1))), (b0, .inl (k 0, 9, .inl (S 3)))]) → va_S A s.heap H locs → lv_has ls 7 [(6, .int (nI i)), (5, .int ib), (4, .int y), (0, .ref j0), (1, .ref m0), (2, .ref b0), (3, .int (nI z))] → W p l e ({ frames := 0, cells := 0, slots := 0, locals := 0 } : Room) s m ([.ref j0, .ref m0, .ref b0, .int (nI z)] : List Value).toArray below meth c H locs 0 0 Q (F0 m 9 ls []) from LOOP_i (9 + 1) 0 (-1) 0 (by omega) (by omega) (rfl) (rfl) (Or.inl ⟨rfl, fun q h9 => absurd h9 (Nat.not_lt_zero q)⟩) _ _ _ hP hD hS (lv_sub hl [0, 1, 2, 3, 4, 5, 6] rfl)
  clear hP hD hS hl hHe
  intro fu_i
  induction fu_i with
  | zero => intro i y ib hn_i; omega
  | succ fu_i ih_i =>
    intro i y ib hn_i hle_i e_ib hv hbf H locs ls hP hD hS hl
    refine lv_iload hx hb dL_way_9 (lv_at hl 0 rfl) ?_
    refine lv_bipush (v := 9) hx hb dL_way_11 (by decide) ?_
    refine lv_icmp_ge (tgt := 88) hx hb dL_way_13 (by decide) (fun c_1 => ?_) (fun c_1 => ?_)
    · have c_1 : 9 ≤ i := (nI_leI (a := 9) (b := i) (by omega) (by omega)).mp c_1
      have hz_i : 9 = i := by omega
      subst hz_i
      obtain ⟨j, hj, hyj⟩ : ∃ j, j < 9 ∧ y = nI j := hbf.resolve_left (fun h9 => absurd (m_ext h2 (show 0 < 512 by decide) (fun q hq => by rw [h9.2 q hq, Nat.zero_testBit])) (by omega))
      subst hyj
      have hwe := wy_end hG h2 hj hv
      refine lv_aload_n hx hb dL_way_88 rfl (lv_at hl 4 rfl) ?_
      refine lv_iload hx hb dL_way_89 (lv_at hl 2 rfl) ?_
      refine ar_ld hx hb hK hP 1 rfl j (nI_clamp (by omega)) (vp_in_nI (by omega) (by omega)) dL_way_91 ?_
      refine lv_iconst (v := 2) hx hb dL_way_92 (by decide) ?_
      refine lv_icmp_ge (tgt := 100) hx hb dL_way_93 (by decide) (fun c_2 => ?_) (fun c_2 => ?_)
      · refine lv_iload hx hb dL_way_100 (lv_at hl 1 rfl) ?_
        refine lv_if_eq (tgt := 109) hx hb dL_way_102 (by decide) (fun c_3 => ?_) (fun c_3 => ?_)
        · refine lv_iconst (v := 2) hx hb dL_way_109 (by decide) ?_
          subst hQ
          exact rt_i hx hb hr hlocks hS dL_way_110 (hP) (by rw [hwe, if_pos c_2, if_neg (fun h9 => by rw [bI_eq.mp (e_ib.symm.trans c_3)] at h9; cases h9)])
        · refine lv_iconst (v := 1) hx hb dL_way_105 (by decide) ?_
          refine lv_goto (tgt := 110) hx hb dL_way_106 (by decide) ?_
          subst hQ
          exact rt_i hx hb hr hlocks hS dL_way_110 (hP) (by rw [hwe, if_pos c_2, if_pos (bI_ne.mp (fun h6 => c_3 (e_ib.trans h6)))])
      · refine lv_iconst (v := 0) hx hb dL_way_96 (by decide) ?_
        refine lv_goto (tgt := 110) hx hb dL_way_97 (by decide) ?_
        subst hQ
        exact rt_i hx hb hr hlocks hS dL_way_110 (hP) (by rw [hwe, if_neg c_2])
    · have c_1 : ¬ (9 ≤ i) := fun h9 => c_1 ((nI_leI (a := 9) (b := i) (by omega) (by omega)).mpr h9)
      refine lv_iload_n hx hb dL_way_16 rfl (lv_at hl 6 rfl) ?_
      refine lv_iload hx hb dL_way_17 (lv_at hl 0 rfl) ?_
      refine lv_ishr hx hb dL_way_19 ?_
      refine lv_iconst (v := 1) hx hb dL_way_20 (by decide) ?_
      refine lv_iand hx hb dL_way_21 ?_
      refine lv_iconst (v := 1) hx hb dL_way_22 (by decide) ?_
      refine lv_icmp_ne (tgt := 82) hx hb dL_way_23 (by decide) (fun c_4 => ?_) (fun c_4 => ?_)
      · have hbt : ¬ bitv (nI z) (nI i) = 1 := c_4
        have hv2 : iwS f (nI z) (i + 1) = (true, y) := by rw [iw_s f _ hv, if_neg hbt]
        have hb2 : brS (S 3) (nI z) (i + 1) = brS (S 3) (nI z) i := by rw [brS, decide_eq_false hbt, Bool.false_and, Bool.or_false]
        have hbf2 : (y = -1 ∧ ∀ q, q < i + 1 → z.testBit q = false) ∨ ∃ j, j < 9 ∧ y = nI j := hbf.imp (fun h9 => ⟨h9.1, fun q hq => (Nat.lt_succ_iff_lt_or_eq.mp hq).elim (fun h8 => h9.2 q h8) (fun h8 => by rw [h8]; exact Bool.not_eq_true _ ▸ fun h7 => hbt ((bv_t h2 (by omega)).mpr h7))⟩) id
        clear hbf
        refine lv_iinc (v := (nI (i + 1))) (lv' := [(6, .int (nI (i + 1))), (5, .int ib), (4, .int y), (0, .ref j0), (1, .ref m0), (2, .ref b0), (3, .int (nI z))]) hx hb dL_way_82 hl (k := 0) rfl (nI_1 i) (by decide) rfl (fun ls hl => ?_)
        refine lv_goto (tgt := 9) hx hb dL_way_85 (by decide) ?_
        exact ih_i (i + 1) y ib (by omega) (by omega) (by rw [e_ib, hb2]) (hv2) (hbf2) _ _ _ hP hD hS (lv_sub hl [0, 1, 2, 3, 4, 5, 6] rfl)
      · have hbt : bitv (nI z) (nI i) = 1 := c_4
        refine lv_iload hx hb dL_way_26 (lv_at hl 2 rfl) ?_
        refine lv_if_ge (tgt := 43) hx hb dL_way_28 (by decide) (fun c_5 => ?_) (fun c_5 => ?_)
        · obtain ⟨j, hj, hyj⟩ := bf_pos hbf (Int32.not_lt.mpr c_5)
          subst hyj
          refine lv_aload_n hx hb dL_way_43 rfl (lv_at hl 3 rfl) ?_
          refine lv_iload hx hb dL_way_44 (lv_at hl 2 rfl) ?_
          refine ar_ld hx hb hK hP 0 rfl j (nI_clamp (by omega)) (vp_in_nI (by omega) (by omega)) dL_way_46 ?_
          refine lv_iload hx hb dL_way_47 (lv_at hl 0 rfl) ?_
          refine lv_ishr hx hb dL_way_49 ?_
          refine lv_iconst (v := 1) hx hb dL_way_50 (by decide) ?_
          refine lv_iand hx hb dL_way_51 ?_
          refine lv_if_ne (tgt := 57) hx hb dL_way_52 (by decide) (fun c_6 => ?_) (fun c_6 => ?_)
          · have hv2 := iw_join hG (by omega) hj hv hbt true ⟨fun h9 => (by cases h9), fun h9 => absurd h9 c_6⟩
            clear hv
            refine lv_iload hx hb dL_way_57 (lv_at hl 1 rfl) ?_
            refine lv_if_ne (tgt := 71) hx hb dL_way_59 (by decide) (fun c_7 => ?_) (fun c_7 => ?_)
            · have hb2 : brS (S 3) (nI z) (i + 1) = true := by rw [brS, bI_ne.mp (fun h6 => c_7 (e_ib.trans h6)), Bool.true_or]
              have hbf2 : (nI i = -1 ∧ ∀ q, q < i + 1 → z.testBit q = false) ∨ ∃ j, j < 9 ∧ nI i = nI j := Or.inr ⟨i, by omega, rfl⟩
              refine lv_iconst (v := 1) hx hb dL_way_71 (by decide) ?_
              refine lv_goto (tgt := 76) hx hb dL_way_72 (by decide) ?_
              refine lv_istore (lv' := [(5, .int 1), (6, .int (nI i)), (4, .int (nI j)), (0, .ref j0), (1, .ref m0), (2, .ref b0), (3, .int (nI z))]) hx hb dL_way_76 hl (by decide) rfl (fun ls hl => ?_)
              refine lv_iload hx hb dL_way_78 (lv_at hl 1 rfl) ?_
              refine lv_istore (lv' := [(4, .int (nI i)), (5, .int 1), (6, .int (nI i)), (0, .ref j0), (1, .ref m0), (2, .ref b0), (3, .int (nI z))]) hx hb dL_way_80 hl (by decide) rfl (fun ls hl => ?_)
              refine lv_iinc (v := (nI (i + 1))) (lv' := [(6, .int (nI (i + 1))), (4, .int (nI i)), (5, .int 1), (0, .ref j0), (1, .ref m0), (2, .ref b0), (3, .int (nI z))]) hx hb dL_way_82 hl (k := 2) rfl (nI_1 i) (by decide) rfl (fun ls hl => ?_)
              refine lv_goto (tgt := 9) hx hb dL_way_85 (by decide) ?_
              exact ih_i (i + 1) (nI i) 1 (by omega) (by omega) (by rw [hb2]; rfl) (hv2) (hbf2) _ _ _ hP hD hS (lv_sub hl [0, 2, 1, 3, 4, 5, 6] rfl)
            · refine lv_aload_n hx hb dL_way_62 rfl (lv_at hl 5 rfl) ?_
              refine lv_iload hx hb dL_way_63 (lv_at hl 0 rfl) ?_
              refine ar_ld hx hb hK hP 2 rfl i (nI_clamp (by omega)) (vp_in_nI (by omega) (by omega)) dL_way_65 ?_
              refine lv_iload_n hx hb dL_way_66 rfl (lv_at hl 6 rfl) ?_
              refine lv_iand hx hb dL_way_67 ?_
              refine lv_if_eq (tgt := 75) hx hb dL_way_68 (by decide) (fun c_8 => ?_) (fun c_8 => ?_)
              · have hb2 : brS (S 3) (nI z) (i + 1) = false := by rw [brS, bI_eq.mp (e_ib.symm.trans c_7), decide_eq_true hbt, decide_eq_false (fun h9 => h9 c_8)]; rfl
                have hbf2 : (nI i = -1 ∧ ∀ q, q < i + 1 → z.testBit q = false) ∨ ∃ j, j < 9 ∧ nI i = nI j := Or.inr ⟨i, by omega, rfl⟩
                refine lv_iconst (v := 0) hx hb dL_way_75 (by decide) ?_
                refine lv_istore (lv' := [(5, .int 0), (6, .int (nI i)), (4, .int (nI j)), (0, .ref j0), (1, .ref m0), (2, .ref b0), (3, .int (nI z))]) hx hb dL_way_76 hl (by decide) rfl (fun ls hl => ?_)
                refine lv_iload hx hb dL_way_78 (lv_at hl 1 rfl) ?_
                refine lv_istore (lv' := [(4, .int (nI i)), (5, .int 0), (6, .int (nI i)), (0, .ref j0), (1, .ref m0), (2, .ref b0), (3, .int (nI z))]) hx hb dL_way_80 hl (by decide) rfl (fun ls hl => ?_)
                refine lv_iinc (v := (nI (i + 1))) (lv' := [(6, .int (nI (i + 1))), (4, .int (nI i)), (5, .int 0), (0, .ref j0), (1, .ref m0), (2, .ref b0), (3, .int (nI z))]) hx hb dL_way_82 hl (k := 2) rfl (nI_1 i) (by decide) rfl (fun ls hl => ?_)
                refine lv_goto (tgt := 9) hx hb dL_way_85 (by decide) ?_
                exact ih_i (i + 1) (nI i) 0 (by omega) (by omega) (by rw [hb2]; rfl) (hv2) (hbf2) _ _ _ hP hD hS (lv_sub hl [0, 2, 1, 3, 4, 5, 6] rfl)
              · have hb2 : brS (S 3) (nI z) (i + 1) = true := by rw [brS, decide_eq_true hbt, decide_eq_true c_8]; exact Bool.or_true _
                have hbf2 : (nI i = -1 ∧ ∀ q, q < i + 1 → z.testBit q = false) ∨ ∃ j, j < 9 ∧ nI i = nI j := Or.inr ⟨i, by omega, rfl⟩
                refine lv_iconst (v := 1) hx hb dL_way_71 (by decide) ?_
                refine lv_goto (tgt := 76) hx hb dL_way_72 (by decide) ?_
                refine lv_istore (lv' := [(5, .int 1), (6, .int (nI i)), (4, .int (nI j)), (0, .ref j0), (1, .ref m0), (2, .ref b0), (3, .int (nI z))]) hx hb dL_way_76 hl (by decide) rfl (fun ls hl => ?_)
                refine lv_iload hx hb dL_way_78 (lv_at hl 1 rfl) ?_
                refine lv_istore (lv' := [(4, .int (nI i)), (5, .int 1), (6, .int (nI i)), (0, .ref j0), (1, .ref m0), (2, .ref b0), (3, .int (nI z))]) hx hb dL_way_80 hl (by decide) rfl (fun ls hl => ?_)
                refine lv_iinc (v := (nI (i + 1))) (lv' := [(6, .int (nI (i + 1))), (4, .int (nI i)), (5, .int 1), (0, .ref j0), (1, .ref m0), (2, .ref b0), (3, .int (nI z))]) hx hb dL_way_82 hl (k := 2) rfl (nI_1 i) (by decide) rfl (fun ls hl => ?_)
                refine lv_goto (tgt := 9) hx hb dL_way_85 (by decide) ?_
                exact ih_i (i + 1) (nI i) 1 (by omega) (by omega) (by rw [hb2]; rfl) (hv2) (hbf2) _ _ _ hP hD hS (lv_sub hl [0, 2, 1, 3, 4, 5, 6] rfl)
          · have hno := iw_no (i := i) hG h2 (by omega) (by rw [iw_join hG (by omega) hj hv hbt false ⟨fun _ => c_6, fun _ => rfl⟩])
            refine lv_iconst (v := 0) hx hb dL_way_55 (by decide) ?_
            subst hQ
            exact rt_i hx hb hr hlocks hS dL_way_56 (hP) (hno.symm)
        · have hy := bf_neg hbf (Int32.not_le.mp c_5)
          refine lv_aload_n hx hb dL_way_31 rfl (lv_at hl 4 rfl) ?_
          refine lv_iload hx hb dL_way_32 (lv_at hl 0 rfl) ?_
          refine ar_ld hx hb hK hP 1 rfl i (nI_clamp (by omega)) (vp_in_nI (by omega) (by omega)) dL_way_34 ?_
          refine lv_iconst (v := 2) hx hb dL_way_35 (by decide) ?_
          refine lv_irem hx hb dL_way_36 (by decide) ?_
          refine lv_if_ne (tgt := 57) hx hb dL_way_37 (by decide) (fun c_9 => ?_) (fun c_9 => ?_)
          · have hv2 := iw_mark hG (by omega) hv hbt hy true ⟨fun h9 => (by cases h9), fun h9 => absurd h9 c_9⟩
            clear hv
            refine lv_iload hx hb dL_way_57 (lv_at hl 1 rfl) ?_
            refine lv_if_ne (tgt := 71) hx hb dL_way_59 (by decide) (fun c_10 => ?_) (fun c_10 => ?_)
            · have hb2 : brS (S 3) (nI z) (i + 1) = true := by rw [brS, bI_ne.mp (fun h6 => c_10 (e_ib.trans h6)), Bool.true_or]
              have hbf2 : (nI i = -1 ∧ ∀ q, q < i + 1 → z.testBit q = false) ∨ ∃ j, j < 9 ∧ nI i = nI j := Or.inr ⟨i, by omega, rfl⟩
              refine lv_iconst (v := 1) hx hb dL_way_71 (by decide) ?_
              refine lv_goto (tgt := 76) hx hb dL_way_72 (by decide) ?_
              refine lv_istore (lv' := [(5, .int 1), (6, .int (nI i)), (4, .int y), (0, .ref j0), (1, .ref m0), (2, .ref b0), (3, .int (nI z))]) hx hb dL_way_76 hl (by decide) rfl (fun ls hl => ?_)
              refine lv_iload hx hb dL_way_78 (lv_at hl 1 rfl) ?_
              refine lv_istore (lv' := [(4, .int (nI i)), (5, .int 1), (6, .int (nI i)), (0, .ref j0), (1, .ref m0), (2, .ref b0), (3, .int (nI z))]) hx hb dL_way_80 hl (by decide) rfl (fun ls hl => ?_)
              refine lv_iinc (v := (nI (i + 1))) (lv' := [(6, .int (nI (i + 1))), (4, .int (nI i)), (5, .int 1), (0, .ref j0), (1, .ref m0), (2, .ref b0), (3, .int (nI z))]) hx hb dL_way_82 hl (k := 2) rfl (nI_1 i) (by decide) rfl (fun ls hl => ?_)
              refine lv_goto (tgt := 9) hx hb dL_way_85 (by decide) ?_
              exact ih_i (i + 1) (nI i) 1 (by omega) (by omega) (by rw [hb2]; rfl) (hv2) (hbf2) _ _ _ hP hD hS (lv_sub hl [0, 2, 1, 3, 4, 5, 6] rfl)
            · refine lv_aload_n hx hb dL_way_62 rfl (lv_at hl 5 rfl) ?_
              refine lv_iload hx hb dL_way_63 (lv_at hl 0 rfl) ?_
              refine ar_ld hx hb hK hP 2 rfl i (nI_clamp (by omega)) (vp_in_nI (by omega) (by omega)) dL_way_65 ?_
              refine lv_iload_n hx hb dL_way_66 rfl (lv_at hl 6 rfl) ?_
              refine lv_iand hx hb dL_way_67 ?_
              refine lv_if_eq (tgt := 75) hx hb dL_way_68 (by decide) (fun c_11 => ?_) (fun c_11 => ?_)
              · have hb2 : brS (S 3) (nI z) (i + 1) = false := by rw [brS, bI_eq.mp (e_ib.symm.trans c_10), decide_eq_true hbt, decide_eq_false (fun h9 => h9 c_11)]; rfl
                have hbf2 : (nI i = -1 ∧ ∀ q, q < i + 1 → z.testBit q = false) ∨ ∃ j, j < 9 ∧ nI i = nI j := Or.inr ⟨i, by omega, rfl⟩
                refine lv_iconst (v := 0) hx hb dL_way_75 (by decide) ?_
                refine lv_istore (lv' := [(5, .int 0), (6, .int (nI i)), (4, .int y), (0, .ref j0), (1, .ref m0), (2, .ref b0), (3, .int (nI z))]) hx hb dL_way_76 hl (by decide) rfl (fun ls hl => ?_)
                refine lv_iload hx hb dL_way_78 (lv_at hl 1 rfl) ?_
                refine lv_istore (lv' := [(4, .int (nI i)), (5, .int 0), (6, .int (nI i)), (0, .ref j0), (1, .ref m0), (2, .ref b0), (3, .int (nI z))]) hx hb dL_way_80 hl (by decide) rfl (fun ls hl => ?_)
                refine lv_iinc (v := (nI (i + 1))) (lv' := [(6, .int (nI (i + 1))), (4, .int (nI i)), (5, .int 0), (0, .ref j0), (1, .ref m0), (2, .ref b0), (3, .int (nI z))]) hx hb dL_way_82 hl (k := 2) rfl (nI_1 i) (by decide) rfl (fun ls hl => ?_)
                refine lv_goto (tgt := 9) hx hb dL_way_85 (by decide) ?_
                exact ih_i (i + 1) (nI i) 0 (by omega) (by omega) (by rw [hb2]; rfl) (hv2) (hbf2) _ _ _ hP hD hS (lv_sub hl [0, 2, 1, 3, 4, 5, 6] rfl)
              · have hb2 : brS (S 3) (nI z) (i + 1) = true := by rw [brS, decide_eq_true hbt, decide_eq_true c_11]; exact Bool.or_true _
                have hbf2 : (nI i = -1 ∧ ∀ q, q < i + 1 → z.testBit q = false) ∨ ∃ j, j < 9 ∧ nI i = nI j := Or.inr ⟨i, by omega, rfl⟩
                refine lv_iconst (v := 1) hx hb dL_way_71 (by decide) ?_
                refine lv_goto (tgt := 76) hx hb dL_way_72 (by decide) ?_
                refine lv_istore (lv' := [(5, .int 1), (6, .int (nI i)), (4, .int y), (0, .ref j0), (1, .ref m0), (2, .ref b0), (3, .int (nI z))]) hx hb dL_way_76 hl (by decide) rfl (fun ls hl => ?_)
                refine lv_iload hx hb dL_way_78 (lv_at hl 1 rfl) ?_
                refine lv_istore (lv' := [(4, .int (nI i)), (5, .int 1), (6, .int (nI i)), (0, .ref j0), (1, .ref m0), (2, .ref b0), (3, .int (nI z))]) hx hb dL_way_80 hl (by decide) rfl (fun ls hl => ?_)
                refine lv_iinc (v := (nI (i + 1))) (lv' := [(6, .int (nI (i + 1))), (4, .int (nI i)), (5, .int 1), (0, .ref j0), (1, .ref m0), (2, .ref b0), (3, .int (nI z))]) hx hb dL_way_82 hl (k := 2) rfl (nI_1 i) (by decide) rfl (fun ls hl => ?_)
                refine lv_goto (tgt := 9) hx hb dL_way_85 (by decide) ?_
                exact ih_i (i + 1) (nI i) 1 (by omega) (by omega) (by rw [hb2]; rfl) (hv2) (hbf2) _ _ _ hP hD hS (lv_sub hl [0, 2, 1, 3, 4, 5, 6] rfl)
          · have hno := iw_no (i := i) hG h2 (by omega) (by rw [iw_mark hG (by omega) hv hbt hy false ⟨fun _ => c_9, fun _ => rfl⟩])
            refine lv_goto (tgt := 55) hx hb dL_way_40 (by decide) ?_
            refine lv_iconst (v := 0) hx hb dL_way_55 (by decide) ?_
            subst hQ
            exact rt_i hx hb hr hlocks hS dL_way_56 (hP) (hno.symm)
