abbrev wMo (k : Nat → ClassId) (h : Nat → Nat) (th : Int32) (f asd sl kp sv : Nat → Int32) (sm : Int32) (tx : Nat → Int32) (ln : Int32) (dg : Int64) : va_W :=
  [(h 0, .inr (5, [.int th, .ref (h 1), .ref (h 2), .ref (h 3), .ref (h 4), .ref (h 5), .int sm, .ref (h 6), .int ln, .long dg])), (h 1, .inl (k 0, 72, .inl f)), (h 2, .inl (k 0, 72, .inl asd)), (h 3, .inl (k 0, 144, .inl sl)), (h 4, .inl (k 1, 2, .inl kp)), (h 5, .inl (k 0, 432, .inl sv)), (h 6, .inl (k 0, 60, .inl tx))]
def inB (v a b : Int32) : Bool := decide (¬ v < a ∧ ¬ b < v)
def mnF (x : Int32) : Nat → Int32
  | 0 => 0
  | i + 1 => mnF x i + bitv x (nI i)
def grF (x : Int32) : Nat → Int32
  | 0 => -1
  | i + 1 => if bitv x (nI i) = 1 then nI i else grF x i
def nxF (x : Int32) : Int32 := if bitv x 8 = 0 then x ||| (1 <<< ((grF x 9 + 1) &&& 31)) else if x &&& (-257) = 0 then 0 else ((x &&& (-257)) &&& (((1 : Int32) <<< (grF (x &&& (-257)) 9 &&& 31)) ^^^ (-1 : Int32))) ||| ((1 : Int32) <<< ((grF (x &&& (-257)) 9 + 1) &&& 31))
/-- the least rest of a set's pieces, of the first ones -/
def wmF (f : Nat → Int32) (x : Int32) : Nat → Int32
  | 0 => 1000
  | i + 1 => if bitv x (nI i) = 1 then (if wmF f x i ≤ f (9 + i) then wmF f x i else f (9 + i)) else wmF f x i
def bmF (f : Nat → Int32) (q : Nat) : Nat → Int32
  | 0 => f (27 + q)
  | t + 1 => bmF f q t ||| (if bitv (bmF f q t) (nI (q + 1 + t)) = 1 then f (27 + (q + 1 + t)) else 0)
theorem bmF_s (f : Nat → Int32) {q i : Nat} (h : q + 1 ≤ i) : bmF f q (i + 1 - (q + 1)) = bmF f q (i - (q + 1)) ||| (if bitv (bmF f q (i - (q + 1))) (nI i) = 1 then f (27 + i) else 0) := by
  rw [show i + 1 - (q + 1) = (i - (q + 1)) + 1 from by omega, bmF, show q + 1 + (i - (q + 1)) = i from by omega]
/-- a row with a block put into it, from a place on -/
def bkF (g f : Nat → Int32) (a n : Nat) : Nat → Int32 := fun j => if a ≤ j ∧ j < a + n then f (j - a) else g j
theorem bkF_0 (g f : Nat → Int32) (a : Nat) : bkF g f a 0 = g := by
  funext j
  exact if_neg (by omega)
theorem bkF_s (g f : Nat → Int32) (a i : Nat) : upd (bkF g f a i) (a + i) (f i) = bkF g f a (i + 1) := by
  funext j
  unfold upd bkF
  by_cases h : j = a + i
  · subst h; rw [if_pos rfl, if_pos (by omega), show a + i - a = i from by omega]
  · rw [if_neg h]
    by_cases h2 : a ≤ j ∧ j < a + i
    · rw [if_pos h2, if_pos (by omega)]
    · rw [if_neg h2, if_neg (by omega)]
theorem bkF_out (g f : Nat → Int32) {a n j : Nat} (h : j < a ∨ a + n ≤ j) : bkF g f a n j = g j := if_neg (by omega)
/-- the splitting begun anew, in the model's row -/
def anM (f : Nat → Int32) : Nat → Int32 := bkF (bkF f f 9 9) (fun _ => 0) 45 25
def smM (f : Nat → Int32) (a : Nat) : Nat → Int32
  | 0 => 0
  | i + 1 => smM f a i + f (a + i)
def jnM (f : Nat → Int32) : Nat → Int32
  | 0 => 0
  | i + 1 => jnM f i + mnF (f (27 + i)) 9
def jtM (f : Nat → Int32) (q : Int32) : Nat → Int32
  | 0 => 0
  | i + 1 => jtM f q i + bitv (f (27 + i)) q
/-- the saved rows behind saving, and how many -/
def svM (sv f : Nat → Int32) (n : Nat) : Nat → Int32 := if n = 6 then bkF (fil (fun j => sv (72 + j)) sv 360) f 360 72 else bkF sv f (72 * n) 72
def snM (n : Nat) : Nat := if n = 6 then 6 else n + 1

set_option maxHeartbeats 1000000 in
set_option maxRecDepth 100000 in
theorem c_X5_in (l : Launch) (D : va_G) (k : Nat → ClassId) (v lo hi : Int32)  : MI l yX5_in wsX5_in ({ frames := 0, cells := 0, slots := 0, locals := 0 }) D k [.int v, .int lo, .int hi] ([]) (bI (inB v lo hi)) ([]) := by
  intro sz
  refine Met.ofW (cc := cX5_in) (maxL := 3) (ret := (some .boolean)) (by decide) rfl ?_
  intro p e s m args below meth c s₁ B hml hv
  obtain ⟨rfl, hN, hsz, hP, hK, hD0⟩ := hv
  have hx := B.exec
  have hb := B.bytes
  have hr := B.returns
  have hts := atoms_spec (ws := wsX5_in) B.pre
  have hown : s.vm.findClass RX5 = some m.cls := findClass_of_methodNamed B.named
  have hlocks := B.notSynchronized
  subst hsz
  have hD := hD0.self (sz := s.heap.size)
  generalize hAe : va_A ([]) s.heap.size = A at hD ⊢
  have hA : ∀ q : Nat, s.heap.size ≤ q → A q := fun q h => by rw [← hAe]; exact Or.inr h
  have hS : va_S A s.heap s.heap [] := va_S.rf
  have hl := lv_entry ([.int v, .int lo, .int hi]) (n := 3) (Nat.le_of_ble_eq_true rfl)
  rw [lg_entry_eq]
  generalize (lg_sl ([.int v, .int lo, .int hi]) ++ List.replicate (3 - (lg_sl ([.int v, .int lo, .int hi])).length) Slot.unset).toArray = ls at hl ⊢
  have hl : lv_has ls 3 [(0, .int v), (1, .int lo), (2, .int hi)] := hl
  obtain ⟨H, hHe⟩ : ∃ H, H = s.heap := ⟨_, rfl⟩
  have hP : va_P D vwCl ([]) H := by rw [hHe]; exact hP
  have hS : va_S A s.heap H [] := by rw [hHe]; exact hS
  rw [← hHe]
  refine absQ (fun Q hQ => ?_)
  refine lv_iload_n hx hb dX5_in_0 rfl (lv_at hl 0 rfl) ?_
  refine lv_iload_n hx hb dX5_in_1 rfl (lv_at hl 1 rfl) ?_
  refine lv_icmp_lt (tgt := 14) hx hb dX5_in_2 (by decide) (fun c_1 => ?_) (fun c_1 => ?_)
  · refine lv_iconst (v := 0) hx hb dX5_in_14 (by decide) ?_
    subst hQ
    exact rt_z hx hb hr hlocks hS dX5_in_15 (hP) (rfl) (by simp [inB, bI, c_1])
  · refine lv_iload_n hx hb dX5_in_5 rfl (lv_at hl 0 rfl) ?_
    refine lv_iload_n hx hb dX5_in_6 rfl (lv_at hl 2 rfl) ?_
    refine lv_icmp_gt (tgt := 14) hx hb dX5_in_7 (by decide) (fun c_2 => ?_) (fun c_2 => ?_)
    · refine lv_iconst (v := 0) hx hb dX5_in_14 (by decide) ?_
      subst hQ
      exact rt_z hx hb hr hlocks hS dX5_in_15 (hP) (rfl) (by simp [inB, bI, c_1, c_2])
    · refine lv_iconst (v := 1) hx hb dX5_in_10 (by decide) ?_
      refine lv_goto (tgt := 15) hx hb dX5_in_11 (by decide) ?_
      subst hQ
      exact rt_z hx hb hr hlocks hS dX5_in_15 (hP) (rfl) (by simp [inB, bI, c_1, c_2])

set_option maxHeartbeats 1000000 in
set_option maxRecDepth 100000 in
theorem c_X5_isPiece (l : Launch) (D : va_G) (k : Nat → ClassId) (v : Int32)  : MI l yX5_isPiece wsX5_isPiece ({ frames := 1, cells := 0, slots := 0, locals := 22 }) D k [.int v] ([]) (bI (inB v 0 8)) ([]) := by
  intro sz
  refine Met.ofW (cc := cX5_isPiece) (maxL := 1) (ret := (some .boolean)) (by decide) rfl ?_
  intro p e s m args below meth c s₁ B hml hv
  obtain ⟨rfl, hN, hsz, hP, hK, hD0⟩ := hv
  have hx := B.exec
  have hb := B.bytes
  have hr := B.returns
  have hts := atoms_spec (ws := wsX5_isPiece) B.pre
  have hown : s.vm.findClass RX5 = some m.cls := findClass_of_methodNamed B.named
  have hlocks := B.notSynchronized
  subst hsz
  have hD := hD0.self (sz := s.heap.size)
  generalize hAe : va_A ([]) s.heap.size = A at hD ⊢
  have hA : ∀ q : Nat, s.heap.size ≤ q → A q := fun q h => by rw [← hAe]; exact Or.inr h
  have hS : va_S A s.heap s.heap [] := va_S.rf
  have hl := lv_entry ([.int v]) (n := 1) (Nat.le_of_ble_eq_true rfl)
  rw [lg_entry_eq]
  generalize (lg_sl ([.int v]) ++ List.replicate (1 - (lg_sl ([.int v])).length) Slot.unset).toArray = ls at hl ⊢
  have hl : lv_has ls 1 [(0, .int v)] := hl
  obtain ⟨H, hHe⟩ : ∃ H, H = s.heap := ⟨_, rfl⟩
  have hP : va_P D vwCl ([]) H := by rw [hHe]; exact hP
  have hS : va_S A s.heap H [] := by rw [hHe]; exact hS
  rw [← hHe]
  refine absQ (fun Q hQ => ?_)
  refine lv_iload_n hx hb dX5_isPiece_0 rfl (lv_at hl 0 rfl) ?_
  refine lv_iconst (v := 0) hx hb dX5_isPiece_1 (by decide) ?_
  refine lv_bipush (v := 8) hx hb dX5_isPiece_2 (by decide) ?_
  have hPc : va_P D vwCl ([]) H := hP.sub [] rfl
  have hDc : va_D A ([]) := hD.sub [] (by decide +kernel) rfl
  refine cl_i0 (va_runS (As := [.int v, .int 0, .int 8]) (rest := []) ⟨hx, hb, hml, hown, hts⟩ (c_X5_in l D k v 0 8 H.size) (va_cwS 3 hts gX5_isPiece_X5_in rfl rfl rfl (by decide +kernel) ⟨Nat.le_of_ble_eq_true rfl, Nat.le_of_ble_eq_true rfl⟩) ⟨pr_blind, pr_at hN hPc hK hDc⟩ rfl rfl hl.1 rfl (lv_room (Nat.le_of_ble_eq_true rfl)) dX5_isPiece_4 ⟨Nat.le_of_ble_eq_true rfl, Nat.le_of_ble_eq_true rfl⟩) hP hD hS hA [] rfl (fun H locs hP hD hS => ?_)
  clear hPc hDc
  subst hQ
  exact rt_z hx hb hr hlocks hS dX5_isPiece_7 (hP) (bI_nar _) (rfl)

set_option maxHeartbeats 1000000 in
set_option maxRecDepth 100000 in
theorem c_X5_many (l : Launch) (D : va_G) (k : Nat → ClassId) (x : Int32)  : MI l yX5_many wsX5_many ({ frames := 0, cells := 0, slots := 0, locals := 0 }) D k [.int x] ([]) (mnF x 9) ([]) := by
  intro sz
  refine Met.ofW (cc := cX5_many) (maxL := 3) (ret := (some .int)) (by decide) rfl ?_
  intro p e s m args below meth c s₁ B hml hv
  obtain ⟨rfl, hN, hsz, hP, hK, hD0⟩ := hv
  have hx := B.exec
  have hb := B.bytes
  have hr := B.returns
  have hts := atoms_spec (ws := wsX5_many) B.pre
  have hown : s.vm.findClass RX5 = some m.cls := findClass_of_methodNamed B.named
  have hlocks := B.notSynchronized
  subst hsz
  have hD := hD0.self (sz := s.heap.size)
  generalize hAe : va_A ([]) s.heap.size = A at hD ⊢
  have hA : ∀ q : Nat, s.heap.size ≤ q → A q := fun q h => by rw [← hAe]; exact Or.inr h
  have hS : va_S A s.heap s.heap [] := va_S.rf
  have hl := lv_entry ([.int x]) (n := 3) (Nat.le_of_ble_eq_true rfl)
  rw [lg_entry_eq]
  generalize (lg_sl ([.int x]) ++ List.replicate (3 - (lg_sl ([.int x])).length) Slot.unset).toArray = ls at hl ⊢
  have hl : lv_has ls 3 [(0, .int x)] := hl
  obtain ⟨H, hHe⟩ : ∃ H, H = s.heap := ⟨_, rfl⟩
  have hP : va_P D vwCl ([]) H := by rw [hHe]; exact hP
  have hS : va_S A s.heap H [] := by rw [hHe]; exact hS
  rw [← hHe]
  refine absQ (fun Q hQ => ?_)
  refine lv_iconst (v := 0) hx hb dX5_many_0 (by decide) ?_
  refine lv_istore_n (lv' := [(1, .int 0), (0, .int x)]) hx hb dX5_many_1 rfl hl (by decide) rfl (fun ls hl => ?_)
  refine lv_iconst (v := 0) hx hb dX5_many_2 (by decide) ?_
  refine lv_istore_n (lv' := [(2, .int 0), (1, .int 0), (0, .int x)]) hx hb dX5_many_3 rfl hl (by decide) rfl (fun ls hl => ?_)
  suffices LOOP_i : ∀ (fu_i i : Nat) (y : Int32), 9 - i < fu_i → i ≤ 9 → y = mnF x i → ∀ (H : Heap) (locs : List Loc) (ls : Array Slot), va_P D vwCl ([]) H → va_D A ([]) → va_S A s.heap H locs → lv_has ls 3 [(2, .int (nI i)), (1, .int y), (0, .int x)] → W p l e ({ frames := 0, cells := 0, slots := 0, locals := 0 } : Room) s m ([.int x] : List Value).toArray below meth c H locs 0 0 Q (F0 m 4 ls []) from LOOP_i (9 + 1) 0 0 (by omega) (by omega) (rfl)  _ _ _ hP hD hS (lv_sub hl [0, 1, 2] rfl)
  clear hP hD hS hl hHe
  intro fu_i
  induction fu_i with
  | zero => intro i y hn_i; omega
  | succ fu_i ih_i =>
    intro i y hn_i hle_i e_y  H locs ls hP hD hS hl
    refine lv_iload_n hx hb dX5_many_4 rfl (lv_at hl 0 rfl) ?_
    refine lv_bipush (v := 9) hx hb dX5_many_5 (by decide) ?_
    refine lv_icmp_ge (tgt := 24) hx hb dX5_many_7 (by decide) (fun c_1 => ?_) (fun c_1 => ?_)
    · have c_1 : 9 ≤ i := (nI_leI (a := 9) (b := i) (by omega) (by omega)).mp c_1
      have hz_i : 9 = i := by omega
      subst hz_i
      subst e_y
      refine lv_iload_n hx hb dX5_many_24 rfl (lv_at hl 1 rfl) ?_
      subst hQ
      exact rt_i hx hb hr hlocks hS dX5_many_25 (hP) (rfl)
    · have c_1 : ¬ (9 ≤ i) := fun h9 => c_1 ((nI_leI (a := 9) (b := i) (by omega) (by omega)).mpr h9)
      refine lv_iload_n hx hb dX5_many_10 rfl (lv_at hl 1 rfl) ?_
      refine lv_iload_n hx hb dX5_many_11 rfl (lv_at hl 2 rfl) ?_
      refine lv_iload_n hx hb dX5_many_12 rfl (lv_at hl 0 rfl) ?_
      refine lv_ishr hx hb dX5_many_13 ?_
      refine lv_iconst (v := 1) hx hb dX5_many_14 (by decide) ?_
      refine lv_iand hx hb dX5_many_15 ?_
      refine lv_iadd hx hb dX5_many_16 ?_
      refine lv_istore_n (lv' := [(1, .int (y + ((x >>> ((nI i) &&& 31)) &&& 1))), (2, .int (nI i)), (0, .int x)]) hx hb dX5_many_17 rfl hl (by decide) rfl (fun ls hl => ?_)
      refine lv_iinc (v := (nI (i + 1))) (lv' := [(2, .int (nI (i + 1))), (1, .int (y + ((x >>> ((nI i) &&& 31)) &&& 1))), (0, .int x)]) hx hb dX5_many_18 hl (k := 1) rfl (nI_1 i) (by decide) rfl (fun ls hl => ?_)
      refine lv_goto (tgt := 4) hx hb dX5_many_21 (by decide) ?_
      exact ih_i (i + 1) (y + ((x >>> ((nI i) &&& 31)) &&& 1)) (by omega) (by omega) (by rw [mnF, ← e_y]; rfl)  _ _ _ hP hD hS (lv_sub hl [0, 1, 2] rfl)

set_option maxHeartbeats 1000000 in
set_option maxRecDepth 100000 in
theorem c_X5_greatest (l : Launch) (D : va_G) (k : Nat → ClassId) (x : Int32)  : MI l yX5_greatest wsX5_greatest ({ frames := 0, cells := 0, slots := 0, locals := 0 }) D k [.int x] ([]) (grF x 9) ([]) := by
  intro sz
  refine Met.ofW (cc := cX5_greatest) (maxL := 3) (ret := (some .int)) (by decide) rfl ?_
  intro p e s m args below meth c s₁ B hml hv
  obtain ⟨rfl, hN, hsz, hP, hK, hD0⟩ := hv
  have hx := B.exec
  have hb := B.bytes
  have hr := B.returns
  have hts := atoms_spec (ws := wsX5_greatest) B.pre
  have hown : s.vm.findClass RX5 = some m.cls := findClass_of_methodNamed B.named
  have hlocks := B.notSynchronized
  subst hsz
  have hD := hD0.self (sz := s.heap.size)
  generalize hAe : va_A ([]) s.heap.size = A at hD ⊢
  have hA : ∀ q : Nat, s.heap.size ≤ q → A q := fun q h => by rw [← hAe]; exact Or.inr h
  have hS : va_S A s.heap s.heap [] := va_S.rf
  have hl := lv_entry ([.int x]) (n := 3) (Nat.le_of_ble_eq_true rfl)
  rw [lg_entry_eq]
  generalize (lg_sl ([.int x]) ++ List.replicate (3 - (lg_sl ([.int x])).length) Slot.unset).toArray = ls at hl ⊢
  have hl : lv_has ls 3 [(0, .int x)] := hl
  obtain ⟨H, hHe⟩ : ∃ H, H = s.heap := ⟨_, rfl⟩
  have hP : va_P D vwCl ([]) H := by rw [hHe]; exact hP
  have hS : va_S A s.heap H [] := by rw [hHe]; exact hS
  rw [← hHe]
  refine absQ (fun Q hQ => ?_)
  refine lv_iconst (v := (-1)) hx hb dX5_greatest_0 (by decide) ?_
  refine lv_istore_n (lv' := [(1, .int (-1)), (0, .int x)]) hx hb dX5_greatest_1 rfl hl (by decide) rfl (fun ls hl => ?_)
  refine lv_iconst (v := 0) hx hb dX5_greatest_2 (by decide) ?_
  refine lv_istore_n (lv' := [(2, .int 0), (1, .int (-1)), (0, .int x)]) hx hb dX5_greatest_3 rfl hl (by decide) rfl (fun ls hl => ?_)
  suffices LOOP_i : ∀ (fu_i i : Nat) (y : Int32), 9 - i < fu_i → i ≤ 9 → y = grF x i → ∀ (H : Heap) (locs : List Loc) (ls : Array Slot), va_P D vwCl ([]) H → va_D A ([]) → va_S A s.heap H locs → lv_has ls 3 [(2, .int (nI i)), (1, .int y), (0, .int x)] → W p l e ({ frames := 0, cells := 0, slots := 0, locals := 0 } : Room) s m ([.int x] : List Value).toArray below meth c H locs 0 0 Q (F0 m 4 ls []) from LOOP_i (9 + 1) 0 (-1) (by omega) (by omega) (rfl)  _ _ _ hP hD hS (lv_sub hl [0, 1, 2] rfl)
  clear hP hD hS hl hHe
  intro fu_i
  induction fu_i with
  | zero => intro i y hn_i; omega
  | succ fu_i ih_i =>
    intro i y hn_i hle_i e_y  H locs ls hP hD hS hl
    refine lv_iload_n hx hb dX5_greatest_4 rfl (lv_at hl 0 rfl) ?_
    refine lv_bipush (v := 9) hx hb dX5_greatest_5 (by decide) ?_
    refine lv_icmp_ge (tgt := 31) hx hb dX5_greatest_7 (by decide) (fun c_1 => ?_) (fun c_1 => ?_)
    · have c_1 : 9 ≤ i := (nI_leI (a := 9) (b := i) (by omega) (by omega)).mp c_1
      have hz_i : 9 = i := by omega
      subst hz_i
      refine lv_iload_n hx hb dX5_greatest_31 rfl (lv_at hl 1 rfl) ?_
      subst hQ
      exact rt_i hx hb hr hlocks hS dX5_greatest_32 (hP) (e_y)
    · have c_1 : ¬ (9 ≤ i) := fun h9 => c_1 ((nI_leI (a := 9) (b := i) (by omega) (by omega)).mpr h9)
      refine lv_iload_n hx hb dX5_greatest_10 rfl (lv_at hl 2 rfl) ?_
      refine lv_iload_n hx hb dX5_greatest_11 rfl (lv_at hl 0 rfl) ?_
      refine lv_ishr hx hb dX5_greatest_12 ?_
      refine lv_iconst (v := 1) hx hb dX5_greatest_13 (by decide) ?_
      refine lv_iand hx hb dX5_greatest_14 ?_
      refine lv_iconst (v := 1) hx hb dX5_greatest_15 (by decide) ?_
      refine lv_icmp_ne (tgt := 23) hx hb dX5_greatest_16 (by decide) (fun c_2 => ?_) (fun c_2 => ?_)
      · refine lv_iload_n hx hb dX5_greatest_23 rfl (lv_at hl 1 rfl) ?_
        refine lv_istore_n (lv' := [(1, .int y), (2, .int (nI i)), (0, .int x)]) hx hb dX5_greatest_24 rfl hl (by decide) rfl (fun ls hl => ?_)
        refine lv_iinc (v := (nI (i + 1))) (lv' := [(2, .int (nI (i + 1))), (1, .int y), (0, .int x)]) hx hb dX5_greatest_25 hl (k := 1) rfl (nI_1 i) (by decide) rfl (fun ls hl => ?_)
        refine lv_goto (tgt := 4) hx hb dX5_greatest_28 (by decide) ?_
        exact ih_i (i + 1) y (by omega) (by omega) (by rw [grF, if_neg (show ¬ bitv x (nI i) = 1 from c_2), ← e_y])  _ _ _ hP hD hS (lv_sub hl [0, 1, 2] rfl)
      · refine lv_iload_n hx hb dX5_greatest_19 rfl (lv_at hl 0 rfl) ?_
        refine lv_goto (tgt := 24) hx hb dX5_greatest_20 (by decide) ?_
        refine lv_istore_n (lv' := [(1, .int (nI i)), (2, .int (nI i)), (0, .int x)]) hx hb dX5_greatest_24 rfl hl (by decide) rfl (fun ls hl => ?_)
        refine lv_iinc (v := (nI (i + 1))) (lv' := [(2, .int (nI (i + 1))), (1, .int (nI i)), (0, .int x)]) hx hb dX5_greatest_25 hl (k := 1) rfl (nI_1 i) (by decide) rfl (fun ls hl => ?_)
        refine lv_goto (tgt := 4) hx hb dX5_greatest_28 (by decide) ?_
        exact ih_i (i + 1) (nI i) (by omega) (by omega) (by rw [grF, if_pos (show bitv x (nI i) = 1 from c_2)])  _ _ _ hP hD hS (lv_sub hl [0, 1, 2] rfl)

set_option maxHeartbeats 1000000 in
set_option maxRecDepth 100000 in
theorem c_X5_next (l : Launch) (D : va_G) (k : Nat → ClassId) (x : Int32)  : MI l yX5_next wsX5_next ({ frames := 1, cells := 0, slots := 0, locals := 22 }) D k [.int x] ([]) (nxF x) ([]) := by
  intro sz
  refine Met.ofW (cc := cX5_next) (maxL := 3) (ret := (some .int)) (by decide) rfl ?_
  intro p e s m args below meth c s₁ B hml hv
  obtain ⟨rfl, hN, hsz, hP, hK, hD0⟩ := hv
  have hx := B.exec
  have hb := B.bytes
  have hr := B.returns
  have hts := atoms_spec (ws := wsX5_next) B.pre
  have hown : s.vm.findClass RX5 = some m.cls := findClass_of_methodNamed B.named
  have hlocks := B.notSynchronized
  subst hsz
  have hD := hD0.self (sz := s.heap.size)
  generalize hAe : va_A ([]) s.heap.size = A at hD ⊢
  have hA : ∀ q : Nat, s.heap.size ≤ q → A q := fun q h => by rw [← hAe]; exact Or.inr h
  have hS : va_S A s.heap s.heap [] := va_S.rf
  have hl := lv_entry ([.int x]) (n := 3) (Nat.le_of_ble_eq_true rfl)
  rw [lg_entry_eq]
  generalize (lg_sl ([.int x]) ++ List.replicate (3 - (lg_sl ([.int x])).length) Slot.unset).toArray = ls at hl ⊢
  have hl : lv_has ls 3 [(0, .int x)] := hl
  obtain ⟨H, hHe⟩ : ∃ H, H = s.heap := ⟨_, rfl⟩
  have hP : va_P D vwCl ([]) H := by rw [hHe]; exact hP
  have hS : va_S A s.heap H [] := by rw [hHe]; exact hS
  rw [← hHe]
  refine absQ (fun Q hQ => ?_)
  refine lv_iload_n hx hb dX5_next_0 rfl (lv_at hl 0 rfl) ?_
  refine lv_bipush (v := 8) hx hb dX5_next_1 (by decide) ?_
  refine lv_ishr hx hb dX5_next_3 ?_
  refine lv_iconst (v := 1) hx hb dX5_next_4 (by decide) ?_
  refine lv_iand hx hb dX5_next_5 ?_
  refine lv_if_ne (tgt := 20) hx hb dX5_next_6 (by decide) (fun c_1 => ?_) (fun c_1 => ?_)
  · refine lv_iload_n hx hb dX5_next_20 rfl (lv_at hl 0 rfl) ?_
    refine lv_sipush (v := (-257)) hx hb dX5_next_21 (by decide) ?_
    refine lv_iand hx hb dX5_next_24 ?_
    refine lv_istore_n (lv' := [(1, .int (x &&& (-257))), (0, .int x)]) hx hb dX5_next_25 rfl hl (by decide) rfl (fun ls hl => ?_)
    refine lv_iload_n hx hb dX5_next_26 rfl (lv_at hl 0 rfl) ?_
    have hPc : va_P D vwCl ([]) H := hP.sub [] rfl
    have hDc : va_D A ([]) := hD.sub [] (by decide +kernel) rfl
    refine cl_i0 (va_runS (As := [.int (x &&& (-257))]) (rest := []) ⟨hx, hb, hml, hown, hts⟩ (c_X5_greatest l D k (x &&& (-257)) H.size) (va_cwS 1 hts gX5_next_X5_greatest rfl rfl rfl (by decide +kernel) ⟨Nat.le_of_ble_eq_true rfl, Nat.le_of_ble_eq_true rfl⟩) ⟨pr_blind, pr_at hN hPc hK hDc⟩ rfl rfl hl.1 rfl (lv_room (Nat.le_of_ble_eq_true rfl)) dX5_next_27 ⟨Nat.le_of_ble_eq_true rfl, Nat.le_of_ble_eq_true rfl⟩) hP hD hS hA [] rfl (fun H locs hP hD hS => ?_)
    clear hPc hDc
    refine lv_istore_n (lv' := [(2, .int (grF (x &&& (-257)) 9)), (1, .int (x &&& (-257))), (0, .int x)]) hx hb dX5_next_30 rfl hl (by decide) rfl (fun ls hl => ?_)
    refine lv_iload_n hx hb dX5_next_31 rfl (lv_at hl 1 rfl) ?_
    refine lv_if_ne (tgt := 39) hx hb dX5_next_32 (by decide) (fun c_2 => ?_) (fun c_2 => ?_)
    · refine lv_iload_n hx hb dX5_next_39 rfl (lv_at hl 1 rfl) ?_
      refine lv_iconst (v := 1) hx hb dX5_next_40 (by decide) ?_
      refine lv_iload_n hx hb dX5_next_41 rfl (lv_at hl 0 rfl) ?_
      refine lv_ishl hx hb dX5_next_42 ?_
      refine lv_iconst (v := (-1)) hx hb dX5_next_43 (by decide) ?_
      refine lv_ixor hx hb dX5_next_44 ?_
      refine lv_iand hx hb dX5_next_45 ?_
      refine lv_iconst (v := 1) hx hb dX5_next_46 (by decide) ?_
      refine lv_iload_n hx hb dX5_next_47 rfl (lv_at hl 0 rfl) ?_
      refine lv_iconst (v := 1) hx hb dX5_next_48 (by decide) ?_
      refine lv_iadd hx hb dX5_next_49 ?_
      refine lv_ishl hx hb dX5_next_50 ?_
      refine lv_ior hx hb dX5_next_51 ?_
      subst hQ
      exact rt_i hx hb hr hlocks hS dX5_next_52 (hP) (by rw [nxF, if_neg (show ¬ bitv x 8 = 0 from c_1), if_neg c_2])
    · refine lv_iconst (v := 0) hx hb dX5_next_35 (by decide) ?_
      refine lv_goto (tgt := 52) hx hb dX5_next_36 (by decide) ?_
      subst hQ
      exact rt_i hx hb hr hlocks hS dX5_next_52 (hP) (by rw [nxF, if_neg (show ¬ bitv x 8 = 0 from c_1), if_pos c_2])
  · refine lv_iload_n hx hb dX5_next_9 rfl (lv_at hl 0 rfl) ?_
    refine lv_iconst (v := 1) hx hb dX5_next_10 (by decide) ?_
    refine lv_iload_n hx hb dX5_next_11 rfl (lv_at hl 0 rfl) ?_
    have hPc : va_P D vwCl ([]) H := hP.sub [] rfl
    have hDc : va_D A ([]) := hD.sub [] (by decide +kernel) rfl
    refine cl_i0 (va_runS (As := [.int x]) (rest := [.int 1, .int x]) ⟨hx, hb, hml, hown, hts⟩ (c_X5_greatest l D k x H.size) (va_cwS 1 hts gX5_next_X5_greatest rfl rfl rfl (by decide +kernel) ⟨Nat.le_of_ble_eq_true rfl, Nat.le_of_ble_eq_true rfl⟩) ⟨pr_blind, pr_at hN hPc hK hDc⟩ rfl rfl hl.1 rfl (lv_room (Nat.le_of_ble_eq_true rfl)) dX5_next_12 ⟨Nat.le_of_ble_eq_true rfl, Nat.le_of_ble_eq_true rfl⟩) hP hD hS hA [] rfl (fun H locs hP hD hS => ?_)
    clear hPc hDc
    refine lv_iconst (v := 1) hx hb dX5_next_15 (by decide) ?_
    refine lv_iadd hx hb dX5_next_16 ?_
    refine lv_ishl hx hb dX5_next_17 ?_
    refine lv_ior hx hb dX5_next_18 ?_
    subst hQ
    exact rt_i hx hb hr hlocks hS dX5_next_19 (hP) (by rw [nxF, if_pos (show bitv x 8 = 0 from c_1)])
