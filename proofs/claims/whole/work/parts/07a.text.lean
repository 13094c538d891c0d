abbrev wTx (k : Nat → ClassId) (t b : Nat → Nat) (cd : Nat → Int32) (ln : Int32) (G : Nat → Nat → Int32) (pl : Int32) (kd : Int32 × Int32) (fs : Int32) : va_W :=
  [(t 0, .inr (2, [.ref (t 1), .int ln, .ref (b 0), .int pl, .int kd.1, .int fs, .int kd.2])), (t 1, .inl (k 0, 60, .inl cd)),
   (b 0, .inr (1, [.ref (b 1), .ref (b 2), .ref (b 3), .ref (b 4), .ref (b 5), .ref (b 6), .ref (b 7), .int (G 7 0), .int (G 7 1), .int (G 7 2)])),
   (b 1, .inl (k 0, 9, .inl (G 0))), (b 2, .inl (k 0, 9, .inl (G 1))), (b 3, .inl (k 0, 9, .inl (G 2))), (b 4, .inl (k 0, 9, .inl (G 3))), (b 5, .inl (k 0, 9, .inl (G 4))), (b 6, .inl (k 0, 12, .inl (G 5))), (b 7, .inl (k 0, 12, .inl (G 6)))]
theorem pcB_ex {x : Int32} (h : pcB x = true) : ∃ j, j < 9 ∧ x = nI j := by
  have h2 := of_decide_eq_true h
  obtain ⟨j, hj, e⟩ := vp_in_of (x := x) (n := 9) (fun q => by
    rcases q with q | q
    · exact h2.1 q
    · have h3 : ¬ (9 : Int32).toInt ≤ x.toInt := fun z => h2.2 (Int32.le_iff_toInt_le.mpr z)
      have h4 : ¬ x.toInt < (0 : Int32).toInt := fun z => h2.1 (Int32.lt_iff_toInt_lt.mpr z)
      have h5 : x.toNatClampNeg = x.toInt.toNat := rfl
      have h6 : (9 : Int32).toInt = 9 := by decide
      have h7 : (0 : Int32).toInt = 0 := by decide
      omega) (by omega)
  exact ⟨j, hj, e⟩
/-- the reading's state: was it right; the graph, the place, the kind, the first piece -/
abbrev PS : Type := Bool × (Nat → Nat → Int32) × Int32 × (Int32 × Int32) × Int32
def gM (G : Nat → Nat → Int32) (j : Nat) (v : Int32) : Nat → Nat → Int32 := mkS (G 0) (upd (G 1) j v) (G 2) (G 3) (G 4) (G 5) (G 6) (G 7)
def gC (G : Nat → Nat → Int32) (j : Nat) (v : Int32) : Nat → Nat → Int32 := mkS (upd (G 0) j v) (G 1) (G 2) (G 3) (G 4) (G 5) (G 6) (G 7)
def gJ (G : Nat → Nat → Int32) (j : Nat) (v : Int32) : Nat → Nat → Int32 := mkS (G 0) (G 1) (upd (G 2) j v) (G 3) (G 4) (G 5) (G 6) (G 7)
def gB (G : Nat → Nat → Int32) (j : Nat) (v : Int32) : Nat → Nat → Int32 := mkS (G 0) (G 1) (G 2) (upd (G 3) j v) (G 4) (G 5) (G 6) (G 7)
def tfF (G : Nat → Nat → Int32) (pl : Int32) (kd : Int32 × Int32) (fs x : Int32) : PS :=
  if pcB x = false then (false, G, pl, kd, fs) else
  if kd.1 = 115 then (true, gM G x.toNatClampNeg (G 1 x.toNatClampNeg ||| 1), 6, kd, x) else
  if kd.1 = 101 then (true, gM G x.toNatClampNeg (G 1 x.toNatClampNeg ||| 2), 6, kd, x) else
  if kd.1 = 99 then (true, G, 3, kd, x) else (decide (¬ (8 : Int32) ≤ x), G, 2, kd, x)
def tsF (G : Nat → Nat → Int32) (pl : Int32) (kd : Int32 × Int32) (f : Nat) (x : Int32) : PS :=
  if pcB x = false then (false, G, pl, kd, nI f) else
  if ¬ nI f < x then (false, G, pl, kd, nI f) else
  if kd.1 = 106 then (true, gJ G f (G 2 f ||| (1 <<< (x &&& 31))), 6, kd, nI f) else
  (true, gB (gB G f (G 3 f ||| (1 <<< (x &&& 31)))) x.toNatClampNeg (upd (G 3) f (G 3 f ||| (1 <<< (x &&& 31))) x.toNatClampNeg ||| (1 <<< (nI f &&& 31))), 6, kd, nI f)
def tdF (G : Nat → Nat → Int32) (pl : Int32) (kd : Int32 × Int32) (f : Nat) (x : Int32) : PS :=
  if x < 0 then (false, G, pl, kd, nI f) else if ¬ x ≤ 9 then (false, G, pl, kd, nI f) else (true, gC G f (kd.2 * 10 + x), pl, (kd.1, kd.2 * 10 + x), nI f)
def spF (G : Nat → Nat → Int32) (kd : Int32 × Int32) (fs x : Int32) : PS := (decide (x = 59), G, 0, kd, fs)
def cgB (kd : Int32 × Int32) : Bool := decide (¬ kd.2 ≤ 0 ∧ ¬ (99 : Int32) < kd.2)
def k0B (x : Int32) : Bool := decide (x = 99 ∨ x = 106 ∨ x = 115 ∨ x = 101 ∨ x = 120)
/-- one character taken at the place pl -/
def tkF (G : Nat → Nat → Int32) (pl : Nat) (kd : Int32 × Int32) (f : Nat) (x : Int32) : PS := match pl with
  | 0 => (k0B x, G, 1, (x, kd.2), nI f)
  | 1 => tfF G 1 kd (nI f) (x - 48)
  | 2 => tsF G 2 kd f (x - 48)
  | 3 => (decide (x = 61), G, 4, (kd.1, 0), nI f)
  | 4 => tdF G 5 kd f (x - 48)
  | 5 => if x = 59 then spF G kd (nI f) x else if cgB kd = true then tdF G 5 kd f (x - 48) else (false, G, 5, kd, nI f)
  | _ => spF G kd (nI f) x

set_option maxHeartbeats 1000000 in
set_option maxRecDepth 100000 in
theorem c_X2_isWhole (l : Launch) (D : va_G) (k : Nat → ClassId) (t b : Nat → Nat) (cd : Nat → Int32) (ln : Int32) (G : Nat → Nat → Int32) (pl : Int32) (kd : Int32 × Int32) (fs : Int32)  : MI l yX2_isWhole wsX2_isWhole ({ frames := 0, cells := 0, slots := 0, locals := 0 }) D k [.ref (t 0)] (wTx k t b cd ln G pl kd fs) (bI (decide (pl = 5 ∨ pl = 6))) (wTx k t b cd ln G pl kd fs) := by
  intro sz
  refine Met.ofW (cc := cX2_isWhole) (maxL := 1) (ret := (some .boolean)) (by decide) rfl ?_
  intro p e s m args below meth c s₁ B hml hv
  obtain ⟨rfl, hN, hsz, hP, hK, hD0⟩ := hv
  have hx := B.exec
  have hb := B.bytes
  have hr := B.returns
  have hts := atoms_spec (ws := wsX2_isWhole) B.pre
  have hown : s.vm.findClass RX2 = some m.cls := findClass_of_methodNamed B.named
  have hlocks := B.notSynchronized
  subst hsz
  have hD := hD0.self (sz := s.heap.size)
  generalize hAe : va_A (wTx k t b cd ln G pl kd fs) s.heap.size = A at hD ⊢
  have hA : ∀ q : Nat, s.heap.size ≤ q → A q := fun q h => by rw [← hAe]; exact Or.inr h
  have hS : va_S A s.heap s.heap [] := va_S.rf
  have hl := lv_entry ([.ref (t 0)]) (n := 1) (Nat.le_of_ble_eq_true rfl)
  rw [lg_entry_eq]
  generalize (lg_sl ([.ref (t 0)]) ++ List.replicate (1 - (lg_sl ([.ref (t 0)])).length) Slot.unset).toArray = ls at hl ⊢
  have hl : lv_has ls 1 [(0, .ref (t 0))] := hl
  obtain ⟨H, hHe⟩ : ∃ H, H = s.heap := ⟨_, rfl⟩
  have hP : va_P D vwCl (wTx k t b cd ln G pl kd fs) H := by rw [hHe]; exact hP
  have hS : va_S A s.heap H [] := by rw [hHe]; exact hS
  rw [← hHe]
  refine absQ (fun Q hQ => ?_)
  refine lv_aload_n hx hb dX2_isWhole_0 rfl (lv_at hl 0 rfl) ?_
  refine va_get (D := D) (ci := 2) (v := .int pl) (C := RX2) (T := TX2) (N := 7) hx hb hts (fun _ h9 => (List.mem_cons_of_mem _ (List.mem_append_right _ h9))) hown hK hP 0 rfl rfl 3 (by decide) (hts _ (List.mem_of_getElem? (i := 1) rfl)) (fun _ h9 => h9) rfl dX2_isWhole_1 ?_
  refine lv_iconst (v := 5) hx hb dX2_isWhole_4 (by decide) ?_
  refine lv_icmp_eq (tgt := 17) hx hb dX2_isWhole_5 (by decide) (fun c_1 => ?_) (fun c_1 => ?_)
  · refine lv_iconst (v := 1) hx hb dX2_isWhole_17 (by decide) ?_
    refine lv_goto (tgt := 22) hx hb dX2_isWhole_18 (by decide) ?_
    subst hQ
    exact rt_z hx hb hr hlocks hS dX2_isWhole_22 (hP) (rfl) (by simp [bI, c_1])
  · refine lv_aload_n hx hb dX2_isWhole_8 rfl (lv_at hl 0 rfl) ?_
    refine va_get (D := D) (ci := 2) (v := .int pl) (C := RX2) (T := TX2) (N := 7) hx hb hts (fun _ h9 => (List.mem_cons_of_mem _ (List.mem_append_right _ h9))) hown hK hP 0 rfl rfl 3 (by decide) (hts _ (List.mem_of_getElem? (i := 1) rfl)) (fun _ h9 => h9) rfl dX2_isWhole_9 ?_
    refine lv_bipush (v := 6) hx hb dX2_isWhole_12 (by decide) ?_
    refine lv_icmp_ne (tgt := 21) hx hb dX2_isWhole_14 (by decide) (fun c_2 => ?_) (fun c_2 => ?_)
    · refine lv_iconst (v := 0) hx hb dX2_isWhole_21 (by decide) ?_
      subst hQ
      exact rt_z hx hb hr hlocks hS dX2_isWhole_22 (hP) (rfl) (by simp [bI, c_1, c_2])
    · refine lv_iconst (v := 1) hx hb dX2_isWhole_17 (by decide) ?_
      refine lv_goto (tgt := 22) hx hb dX2_isWhole_18 (by decide) ?_
      subst hQ
      exact rt_z hx hb hr hlocks hS dX2_isWhole_22 (hP) (rfl) (by simp [bI, c_1, c_2])

set_option maxHeartbeats 1000000 in
set_option maxRecDepth 100000 in
theorem c_X2_takeSeparator (l : Launch) (D : va_G) (k : Nat → ClassId) (t b : Nat → Nat) (cd : Nat → Int32) (ln : Int32) (G : Nat → Nat → Int32) (pl : Int32) (kd : Int32 × Int32) (fs x : Int32)  : MI l yX2_takeSeparator wsX2_takeSeparator ({ frames := 0, cells := 0, slots := 0, locals := 0 }) D k [.ref (t 0), .int x] (wTx k t b cd ln G pl kd fs) (bI (spF G kd fs x).1) (wTx k t b cd ln (spF G kd fs x).2.1 (spF G kd fs x).2.2.1 (spF G kd fs x).2.2.2.1 (spF G kd fs x).2.2.2.2) := by
  intro sz
  refine Met.ofW (cc := cX2_takeSeparator) (maxL := 2) (ret := (some .boolean)) (by decide) rfl ?_
  intro p e s m args below meth c s₁ B hml hv
  obtain ⟨rfl, hN, hsz, hP, hK, hD0⟩ := hv
  have hx := B.exec
  have hb := B.bytes
  have hr := B.returns
  have hts := atoms_spec (ws := wsX2_takeSeparator) B.pre
  have hown : s.vm.findClass RX2 = some m.cls := findClass_of_methodNamed B.named
  have hlocks := B.notSynchronized
  subst hsz
  have hD := hD0.self (sz := s.heap.size)
  generalize hAe : va_A (wTx k t b cd ln G pl kd fs) s.heap.size = A at hD ⊢
  have hA : ∀ q : Nat, s.heap.size ≤ q → A q := fun q h => by rw [← hAe]; exact Or.inr h
  have hS : va_S A s.heap s.heap [] := va_S.rf
  have hl := lv_entry ([.ref (t 0), .int x]) (n := 2) (Nat.le_of_ble_eq_true rfl)
  rw [lg_entry_eq]
  generalize (lg_sl ([.ref (t 0), .int x]) ++ List.replicate (2 - (lg_sl ([.ref (t 0), .int x])).length) Slot.unset).toArray = ls at hl ⊢
  have hl : lv_has ls 2 [(0, .ref (t 0)), (1, .int x)] := hl
  obtain ⟨H, hHe⟩ : ∃ H, H = s.heap := ⟨_, rfl⟩
  have hP : va_P D vwCl (wTx k t b cd ln G pl kd fs) H := by rw [hHe]; exact hP
  have hS : va_S A s.heap H [] := by rw [hHe]; exact hS
  rw [← hHe]
  refine absQ (fun Q hQ => ?_)
  refine lv_aload_n hx hb dX2_takeSeparator_0 rfl (lv_at hl 0 rfl) ?_
  refine lv_iconst (v := 0) hx hb dX2_takeSeparator_1 (by decide) ?_
  refine va_put (D := D) (ci := 2) (v := .int 0) (ty := tyX2 3) (C := RX2) (T := TX2) (N := 7) hx hb hts (fun _ h9 => (List.mem_cons_of_mem _ (List.mem_append_right _ h9))) tyX2 tyX2_ok nmX2 hown hK hP hD hS 0 rfl rfl 3 (by decide) (hts _ (List.mem_of_getElem? (i := 1) rfl)) (fun _ h9 => h9) rfl (tyX2_ok 3 (by decide)) rfl rfl (Nat.le_of_ble_eq_true rfl) dX2_takeSeparator_2 (fun H locs hP hD hS => ?_)
  have hP : va_P D vwCl ([(t 0, .inr (2, [.ref (t 1), .int ln, .ref (b 0), .int 0, .int kd.1, .int fs, .int kd.2])), (t 1, .inl (k 0, 60, .inl cd)), (b 0, .inr (1, [.ref (b 1), .ref (b 2), .ref (b 3), .ref (b 4), .ref (b 5), .ref (b 6), .ref (b 7), .int (G 7 0), .int (G 7 1), .int (G 7 2)])), (b 1, .inl (k 0, 9, .inl (G 0))), (b 2, .inl (k 0, 9, .inl (G 1))), (b 3, .inl (k 0, 9, .inl (G 2))), (b 4, .inl (k 0, 9, .inl (G 3))), (b 5, .inl (k 0, 9, .inl (G 4))), (b 6, .inl (k 0, 12, .inl (G 5))), (b 7, .inl (k 0, 12, .inl (G 6)))]) H := hP
  have hD : va_D A ([(t 0, .inr (2, [.ref (t 1), .int ln, .ref (b 0), .int 0, .int kd.1, .int fs, .int kd.2])), (t 1, .inl (k 0, 60, .inl cd)), (b 0, .inr (1, [.ref (b 1), .ref (b 2), .ref (b 3), .ref (b 4), .ref (b 5), .ref (b 6), .ref (b 7), .int (G 7 0), .int (G 7 1), .int (G 7 2)])), (b 1, .inl (k 0, 9, .inl (G 0))), (b 2, .inl (k 0, 9, .inl (G 1))), (b 3, .inl (k 0, 9, .inl (G 2))), (b 4, .inl (k 0, 9, .inl (G 3))), (b 5, .inl (k 0, 9, .inl (G 4))), (b 6, .inl (k 0, 12, .inl (G 5))), (b 7, .inl (k 0, 12, .inl (G 6)))]) := hD
  refine lv_iload_n hx hb dX2_takeSeparator_5 rfl (lv_at hl 1 rfl) ?_
  refine lv_bipush (v := 59) hx hb dX2_takeSeparator_6 (by decide) ?_
  refine lv_icmp_ne (tgt := 15) hx hb dX2_takeSeparator_8 (by decide) (fun c_1 => ?_) (fun c_1 => ?_)
  · refine lv_iconst (v := 0) hx hb dX2_takeSeparator_15 (by decide) ?_
    subst hQ
    exact rt_z hx hb hr hlocks hS dX2_takeSeparator_16 (hP) (rfl) (by simp [bI, spF, c_1])
  · refine lv_iconst (v := 1) hx hb dX2_takeSeparator_11 (by decide) ?_
    refine lv_goto (tgt := 16) hx hb dX2_takeSeparator_12 (by decide) ?_
    subst hQ
    exact rt_z hx hb hr hlocks hS dX2_takeSeparator_16 (hP) (rfl) (by simp [bI, spF, c_1])

set_option maxHeartbeats 1000000 in
set_option maxRecDepth 100000 in
theorem c_X2_canGrow (l : Launch) (D : va_G) (k : Nat → ClassId) (t b : Nat → Nat) (cd : Nat → Int32) (ln : Int32) (G : Nat → Nat → Int32) (pl : Int32) (kd : Int32 × Int32) (f : Nat) (hf : f < 9) : MI l yX2_canGrow wsX2_canGrow ({ frames := 0, cells := 0, slots := 0, locals := 0 }) D k [.ref (t 0)] (wTx k t b cd ln G pl kd (nI f)) (bI (cgB kd)) (wTx k t b cd ln G pl kd (nI f)) := by
  intro sz
  refine Met.ofW (cc := cX2_canGrow) (maxL := 1) (ret := (some .boolean)) (by decide) rfl ?_
  intro p e s m args below meth c s₁ B hml hv
  obtain ⟨rfl, hN, hsz, hP, hK, hD0⟩ := hv
  have hx := B.exec
  have hb := B.bytes
  have hr := B.returns
  have hts := atoms_spec (ws := wsX2_canGrow) B.pre
  have hown : s.vm.findClass RX2 = some m.cls := findClass_of_methodNamed B.named
  have hlocks := B.notSynchronized
  subst hsz
  have hD := hD0.self (sz := s.heap.size)
  generalize hAe : va_A (wTx k t b cd ln G pl kd (nI f)) s.heap.size = A at hD ⊢
  have hA : ∀ q : Nat, s.heap.size ≤ q → A q := fun q h => by rw [← hAe]; exact Or.inr h
  have hS : va_S A s.heap s.heap [] := va_S.rf
  have hl := lv_entry ([.ref (t 0)]) (n := 1) (Nat.le_of_ble_eq_true rfl)
  rw [lg_entry_eq]
  generalize (lg_sl ([.ref (t 0)]) ++ List.replicate (1 - (lg_sl ([.ref (t 0)])).length) Slot.unset).toArray = ls at hl ⊢
  have hl : lv_has ls 1 [(0, .ref (t 0))] := hl
  obtain ⟨H, hHe⟩ : ∃ H, H = s.heap := ⟨_, rfl⟩
  have hP : va_P D vwCl (wTx k t b cd ln G pl kd (nI f)) H := by rw [hHe]; exact hP
  have hS : va_S A s.heap H [] := by rw [hHe]; exact hS
  rw [← hHe]
  refine absQ (fun Q hQ => ?_)
  refine lv_aload_n hx hb dX2_canGrow_0 rfl (lv_at hl 0 rfl) ?_
  refine va_get (D := D) (ci := 2) (v := .int kd.2) (C := RX2) (T := TX2) (N := 7) hx hb hts (fun _ h9 => (List.mem_cons_of_mem _ (List.mem_append_right _ h9))) hown hK hP 0 rfl rfl 6 (by decide) (hts _ (List.mem_of_getElem? (i := 1) rfl)) (fun _ h9 => h9) rfl dX2_canGrow_1 ?_
  refine lv_if_le (tgt := 20) hx hb dX2_canGrow_4 (by decide) (fun c_1 => ?_) (fun c_1 => ?_)
  · refine lv_iconst (v := 0) hx hb dX2_canGrow_20 (by decide) ?_
    subst hQ
    exact rt_z hx hb hr hlocks hS dX2_canGrow_21 (hP) (rfl) (by simp [bI, cgB, -Int32.not_le, -Int32.not_lt, c_1])
  · refine lv_aload_n hx hb dX2_canGrow_7 rfl (lv_at hl 0 rfl) ?_
    refine va_get (D := D) (ci := 2) (v := .int kd.2) (C := RX2) (T := TX2) (N := 7) hx hb hts (fun _ h9 => (List.mem_cons_of_mem _ (List.mem_append_right _ h9))) hown hK hP 0 rfl rfl 6 (by decide) (hts _ (List.mem_of_getElem? (i := 1) rfl)) (fun _ h9 => h9) rfl dX2_canGrow_8 ?_
    refine lv_bipush (v := 99) hx hb dX2_canGrow_11 (by decide) ?_
    refine lv_icmp_gt (tgt := 20) hx hb dX2_canGrow_13 (by decide) (fun c_2 => ?_) (fun c_2 => ?_)
    · refine lv_iconst (v := 0) hx hb dX2_canGrow_20 (by decide) ?_
      subst hQ
      exact rt_z hx hb hr hlocks hS dX2_canGrow_21 (hP) (rfl) (by simp [bI, cgB, -Int32.not_le, -Int32.not_lt, c_1, c_2])
    · refine lv_iconst (v := 1) hx hb dX2_canGrow_16 (by decide) ?_
      refine lv_goto (tgt := 21) hx hb dX2_canGrow_17 (by decide) ?_
      subst hQ
      exact rt_z hx hb hr hlocks hS dX2_canGrow_21 (hP) (rfl) (by simp [bI, cgB, -Int32.not_le, -Int32.not_lt, c_1, c_2])

set_option maxHeartbeats 1000000 in
set_option maxRecDepth 100000 in
theorem c_X2_takeDigit (l : Launch) (D : va_G) (k : Nat → ClassId) (t b : Nat → Nat) (cd : Nat → Int32) (ln : Int32) (G : Nat → Nat → Int32) (pl : Int32) (kd : Int32 × Int32) (f : Nat) (x : Int32) (hf : f < 9) : MI l yX2_takeDigit wsX2_takeDigit ({ frames := 1, cells := 0, slots := 0, locals := 20 }) D k [.ref (t 0), .int x] (wTx k t b cd ln G pl kd (nI f)) (bI (tdF G pl kd f x).1) (wTx k t b cd ln (tdF G pl kd f x).2.1 (tdF G pl kd f x).2.2.1 (tdF G pl kd f x).2.2.2.1 (tdF G pl kd f x).2.2.2.2) := by
  intro sz
  refine Met.ofW (cc := cX2_takeDigit) (maxL := 2) (ret := (some .boolean)) (by decide) rfl ?_
  intro p e s m args below meth c s₁ B hml hv
  obtain ⟨rfl, hN, hsz, hP, hK, hD0⟩ := hv
  have hx := B.exec
  have hb := B.bytes
  have hr := B.returns
  have hts := atoms_spec (ws := wsX2_takeDigit) B.pre
  have hown : s.vm.findClass RX2 = some m.cls := findClass_of_methodNamed B.named
  have hlocks := B.notSynchronized
  subst hsz
  have hD := hD0.self (sz := s.heap.size)
  generalize hAe : va_A (wTx k t b cd ln G pl kd (nI f)) s.heap.size = A at hD ⊢
  have hA : ∀ q : Nat, s.heap.size ≤ q → A q := fun q h => by rw [← hAe]; exact Or.inr h
  have hS : va_S A s.heap s.heap [] := va_S.rf
  have hl := lv_entry ([.ref (t 0), .int x]) (n := 2) (Nat.le_of_ble_eq_true rfl)
  rw [lg_entry_eq]
  generalize (lg_sl ([.ref (t 0), .int x]) ++ List.replicate (2 - (lg_sl ([.ref (t 0), .int x])).length) Slot.unset).toArray = ls at hl ⊢
  have hl : lv_has ls 2 [(0, .ref (t 0)), (1, .int x)] := hl
  obtain ⟨H, hHe⟩ : ∃ H, H = s.heap := ⟨_, rfl⟩
  have hP : va_P D vwCl (wTx k t b cd ln G pl kd (nI f)) H := by rw [hHe]; exact hP
  have hS : va_S A s.heap H [] := by rw [hHe]; exact hS
  rw [← hHe]
  refine absQ (fun Q hQ => ?_)
  refine lv_iload_n hx hb dX2_takeDigit_0 rfl (lv_at hl 1 rfl) ?_
  refine lv_if_lt (tgt := 20) hx hb dX2_takeDigit_1 (by decide) (fun c_1 => ?_) (fun c_1 => ?_)
  · refine lv_iconst (v := 0) hx hb dX2_takeDigit_20 (by decide) ?_
    subst hQ
    exact rt_z hx hb hr hlocks hS dX2_takeDigit_21 (by rw [tdF, if_pos c_1]; exact hP) (rfl) (by rw [tdF, if_pos c_1]; rfl)
  · refine lv_iload_n hx hb dX2_takeDigit_4 rfl (lv_at hl 1 rfl) ?_
    refine lv_bipush (v := 9) hx hb dX2_takeDigit_5 (by decide) ?_
    refine lv_icmp_gt (tgt := 20) hx hb dX2_takeDigit_7 (by decide) (fun c_2 => ?_) (fun c_2 => ?_)
    · refine lv_iconst (v := 0) hx hb dX2_takeDigit_20 (by decide) ?_
      subst hQ
      exact rt_z hx hb hr hlocks hS dX2_takeDigit_21 (by rw [tdF, if_neg c_1, if_pos (Int32.not_le.mpr c_2)]; exact hP) (rfl) (by rw [tdF, if_neg c_1, if_pos (Int32.not_le.mpr c_2)]; rfl)
    · refine lv_aload_n hx hb dX2_takeDigit_10 rfl (lv_at hl 0 rfl) ?_
      refine va_get (D := D) (ci := 2) (v := .int (nI f)) (C := RX2) (T := TX2) (N := 7) hx hb hts (fun _ h9 => (List.mem_cons_of_mem _ (List.mem_append_left _ (List.mem_append_right _ h9)))) hown hK hP 0 rfl rfl 5 (by decide) (hts _ (List.mem_of_getElem? (i := 1) rfl)) (fun _ h9 => h9) rfl dX2_takeDigit_11 ?_
      have hPc : va_P D vwCl ([]) H := hP.sub [] rfl
      have hDc : va_D A ([]) := hD.sub [] (by decide +kernel) rfl
      refine cl_i0 (va_runSN (As := [.int (nI f)]) (rest := []) ⟨hx, hb, hml, hown, hts⟩ (c_X4_isPiece l D k (nI f) H.size) ⟨va_cnB 1 hts gX2_takeDigit_X4_isPiece_n58 rfl rfl rfl hN.2.2.2.2.2.2.2.2.2.1 (hts (.initialized RX4) (List.mem_of_getElem? (i := 6) rfl)) (by decide +kernel) ⟨Nat.le_of_ble_eq_true rfl, Nat.le_of_ble_eq_true rfl⟩, hts (.static yX4_isPiece) (List.mem_of_getElem? (i := 5) rfl), trivial⟩ ⟨pr_blind, pr_at hN hPc hK hDc⟩ rfl rfl hl.1 rfl (lv_room (Nat.le_of_ble_eq_true rfl)) dX2_takeDigit_14 ⟨Nat.le_of_ble_eq_true rfl, Nat.le_of_ble_eq_true rfl⟩) hP hD hS hA [] rfl (fun H locs hP hD hS => ?_)
      clear hPc hDc
      refine lv_if_ne (tgt := 22) hx hb dX2_takeDigit_17 (by decide) (fun c_3 => ?_) (fun c_3 => ?_)
      · have c_3 := bI_ne.mp c_3
        refine lv_aload_n hx hb dX2_takeDigit_22 rfl (lv_at hl 0 rfl) ?_
        refine lv_aload_n hx hb dX2_takeDigit_23 rfl (lv_at hl 0 rfl) ?_
        refine va_get (D := D) (ci := 2) (v := .int kd.2) (C := RX2) (T := TX2) (N := 7) hx hb hts (fun _ h9 => (List.mem_cons_of_mem _ (List.mem_append_left _ (List.mem_append_right _ h9)))) hown hK hP 0 rfl rfl 6 (by decide) (hts _ (List.mem_of_getElem? (i := 2) rfl)) (fun _ h9 => h9) rfl dX2_takeDigit_24 ?_
        refine lv_bipush (v := 10) hx hb dX2_takeDigit_27 (by decide) ?_
        refine lv_imul hx hb dX2_takeDigit_29 ?_
        refine lv_iload_n hx hb dX2_takeDigit_30 rfl (lv_at hl 1 rfl) ?_
        refine lv_iadd hx hb dX2_takeDigit_31 ?_
        refine va_put (D := D) (ci := 2) (v := .int ((kd.2 * 10) + x)) (ty := tyX2 6) (C := RX2) (T := TX2) (N := 7) hx hb hts (fun _ h9 => (List.mem_cons_of_mem _ (List.mem_append_left _ (List.mem_append_right _ h9)))) tyX2 tyX2_ok nmX2 hown hK hP hD hS 0 rfl rfl 6 (by decide) (hts _ (List.mem_of_getElem? (i := 2) rfl)) (fun _ h9 => h9) rfl (tyX2_ok 6 (by decide)) rfl rfl (Nat.le_of_ble_eq_true rfl) dX2_takeDigit_32 (fun H locs hP hD hS => ?_)
        have hP : va_P D vwCl ([(t 0, .inr (2, [.ref (t 1), .int ln, .ref (b 0), .int pl, .int kd.1, .int (nI f), .int ((kd.2 * 10) + x)])), (t 1, .inl (k 0, 60, .inl cd)), (b 0, .inr (1, [.ref (b 1), .ref (b 2), .ref (b 3), .ref (b 4), .ref (b 5), .ref (b 6), .ref (b 7), .int (G 7 0), .int (G 7 1), .int (G 7 2)])), (b 1, .inl (k 0, 9, .inl (G 0))), (b 2, .inl (k 0, 9, .inl (G 1))), (b 3, .inl (k 0, 9, .inl (G 2))), (b 4, .inl (k 0, 9, .inl (G 3))), (b 5, .inl (k 0, 9, .inl (G 4))), (b 6, .inl (k 0, 12, .inl (G 5))), (b 7, .inl (k 0, 12, .inl (G 6)))]) H := hP
        have hD : va_D A ([(t 0, .inr (2, [.ref (t 1), .int ln, .ref (b 0), .int pl, .int kd.1, .int (nI f), .int ((kd.2 * 10) + x)])), (t 1, .inl (k 0, 60, .inl cd)), (b 0, .inr (1, [.ref (b 1), .ref (b 2), .ref (b 3), .ref (b 4), .ref (b 5), .ref (b 6), .ref (b 7), .int (G 7 0), .int (G 7 1), .int (G 7 2)])), (b 1, .inl (k 0, 9, .inl (G 0))), (b 2, .inl (k 0, 9, .inl (G 1))), (b 3, .inl (k 0, 9, .inl (G 2))), (b 4, .inl (k 0, 9, .inl (G 3))), (b 5, .inl (k 0, 9, .inl (G 4))), (b 6, .inl (k 0, 12, .inl (G 5))), (b 7, .inl (k 0, 12, .inl (G 6)))]) := hD
        refine lv_aload_n hx hb dX2_takeDigit_35 rfl (lv_at hl 0 rfl) ?_
        refine va_get (D := D) (ci := 2) (v := .ref (b 0)) (C := RX2) (T := TX2) (N := 7) hx hb hts (fun _ h9 => (List.mem_cons_of_mem _ (List.mem_append_left _ (List.mem_append_right _ h9)))) hown hK hP 0 rfl rfl 2 (by decide) (hts _ (List.mem_of_getElem? (i := 3) rfl)) (fun _ h9 => h9) rfl dX2_takeDigit_36 ?_
        refine va_get (D := D) (ci := 1) (v := .ref (b 1)) (C := RX1) (T := TX1) (N := 10) hx hb hts (fun _ h9 => (List.mem_cons_of_mem _ (List.mem_append_right _ h9))) hown hK hP 2 rfl rfl 0 (by decide) (hts _ (List.mem_of_getElem? (i := 4) rfl)) (fun _ h9 => h9) rfl dX2_takeDigit_39 ?_
        refine lv_aload_n hx hb dX2_takeDigit_42 rfl (lv_at hl 0 rfl) ?_
        refine va_get (D := D) (ci := 2) (v := .int (nI f)) (C := RX2) (T := TX2) (N := 7) hx hb hts (fun _ h9 => (List.mem_cons_of_mem _ (List.mem_append_left _ (List.mem_append_right _ h9)))) hown hK hP 0 rfl rfl 5 (by decide) (hts _ (List.mem_of_getElem? (i := 1) rfl)) (fun _ h9 => h9) rfl dX2_takeDigit_43 ?_
        refine lv_aload_n hx hb dX2_takeDigit_46 rfl (lv_at hl 0 rfl) ?_
        refine va_get (D := D) (ci := 2) (v := .int ((kd.2 * 10) + x)) (C := RX2) (T := TX2) (N := 7) hx hb hts (fun _ h9 => (List.mem_cons_of_mem _ (List.mem_append_left _ (List.mem_append_right _ h9)))) hown hK hP 0 rfl rfl 6 (by decide) (hts _ (List.mem_of_getElem? (i := 2) rfl)) (fun _ h9 => h9) rfl dX2_takeDigit_47 ?_
        refine ar_st hx hb hK hP hD hS 3 rfl f (nI_clamp (by omega)) (vp_in_nI (by omega) (by omega)) dX2_takeDigit_50 (wn := [(t 0, .inr (2, [.ref (t 1), .int ln, .ref (b 0), .int pl, .int kd.1, .int (nI f), .int ((kd.2 * 10) + x)])), (t 1, .inl (k 0, 60, .inl cd)), (b 0, .inr (1, [.ref (b 1), .ref (b 2), .ref (b 3), .ref (b 4), .ref (b 5), .ref (b 6), .ref (b 7), .int (G 7 0), .int (G 7 1), .int (G 7 2)])), (b 1, .inl (k 0, 9, .inl (upd (G 0) f ((kd.2 * 10) + x)))), (b 2, .inl (k 0, 9, .inl (G 1))), (b 3, .inl (k 0, 9, .inl (G 2))), (b 4, .inl (k 0, 9, .inl (G 3))), (b 5, .inl (k 0, 9, .inl (G 4))), (b 6, .inl (k 0, 12, .inl (G 5))), (b 7, .inl (k 0, 12, .inl (G 6)))]) rfl (fun H locs hP hD hS => ?_)
        refine lv_iconst (v := 1) hx hb dX2_takeDigit_51 (by decide) ?_
        subst hQ
        exact rt_z hx hb hr hlocks hS dX2_takeDigit_52 (by rw [tdF, if_neg c_1, if_neg (not_not_intro (Int32.not_lt.mp c_2))]; exact hP) (rfl) (by rw [tdF, if_neg c_1, if_neg (not_not_intro (Int32.not_lt.mp c_2))]; rfl)
      · have c_3 := bI_eq.mp c_3
        exact absurd c_3 (by rw [pcB_t hf]; decide)

set_option maxHeartbeats 1000000 in
set_option maxRecDepth 100000 in
theorem c_X2_takeFirst (l : Launch) (D : va_G) (k : Nat → ClassId) (t b : Nat → Nat) (cd : Nat → Int32) (ln : Int32) (G : Nat → Nat → Int32) (pl : Int32) (kd : Int32 × Int32) (fs x : Int32)  : MI l yX2_takeFirst wsX2_takeFirst ({ frames := 1, cells := 0, slots := 0, locals := 20 }) D k [.ref (t 0), .int x] (wTx k t b cd ln G pl kd fs) (bI (tfF G pl kd fs x).1) (wTx k t b cd ln (tfF G pl kd fs x).2.1 (tfF G pl kd fs x).2.2.1 (tfF G pl kd fs x).2.2.2.1 (tfF G pl kd fs x).2.2.2.2) := by
  intro sz
  refine Met.ofW (cc := cX2_takeFirst) (maxL := 2) (ret := (some .boolean)) (by decide) rfl ?_
  intro p e s m args below meth c s₁ B hml hv
  obtain ⟨rfl, hN, hsz, hP, hK, hD0⟩ := hv
  have hx := B.exec
  have hb := B.bytes
  have hr := B.returns
  have hts := atoms_spec (ws := wsX2_takeFirst) B.pre
  have hown : s.vm.findClass RX2 = some m.cls := findClass_of_methodNamed B.named
  have hlocks := B.notSynchronized
  subst hsz
  have hD := hD0.self (sz := s.heap.size)
  generalize hAe : va_A (wTx k t b cd ln G pl kd fs) s.heap.size = A at hD ⊢
  have hA : ∀ q : Nat, s.heap.size ≤ q → A q := fun q h => by rw [← hAe]; exact Or.inr h
  have hS : va_S A s.heap s.heap [] := va_S.rf
  have hl := lv_entry ([.ref (t 0), .int x]) (n := 2) (Nat.le_of_ble_eq_true rfl)
  rw [lg_entry_eq]
  generalize (lg_sl ([.ref (t 0), .int x]) ++ List.replicate (2 - (lg_sl ([.ref (t 0), .int x])).length) Slot.unset).toArray = ls at hl ⊢
  have hl : lv_has ls 2 [(0, .ref (t 0)), (1, .int x)] := hl
  obtain ⟨H, hHe⟩ : ∃ H, H = s.heap := ⟨_, rfl⟩
  have hP : va_P D vwCl (wTx k t b cd ln G pl kd fs) H := by rw [hHe]; exact hP
  have hS : va_S A s.heap H [] := by rw [hHe]; exact hS
  rw [← hHe]
  refine absQ (fun Q hQ => ?_)
  refine lv_iload_n hx hb dX2_takeFirst_0 rfl (lv_at hl 1 rfl) ?_
  have hPc : va_P D vwCl ([]) H := hP.sub [] rfl
  have hDc : va_D A ([]) := hD.sub [] (by decide +kernel) rfl
  refine cl_i0 (va_runSN (As := [.int x]) (rest := []) ⟨hx, hb, hml, hown, hts⟩ (c_X4_isPiece l D k x H.size) ⟨va_cnB 1 hts gX2_takeFirst_X4_isPiece_n58 rfl rfl rfl hN.2.2.2.2.2.2.2.2.2.1 (hts (.initialized RX4) (List.mem_of_getElem? (i := 7) rfl)) (by decide +kernel) ⟨Nat.le_of_ble_eq_true rfl, Nat.le_of_ble_eq_true rfl⟩, hts (.static yX4_isPiece) (List.mem_of_getElem? (i := 6) rfl), trivial⟩ ⟨pr_blind, pr_at hN hPc hK hDc⟩ rfl rfl hl.1 rfl (lv_room (Nat.le_of_ble_eq_true rfl)) dX2_takeFirst_1 ⟨Nat.le_of_ble_eq_true rfl, Nat.le_of_ble_eq_true rfl⟩) hP hD hS hA [] rfl (fun H locs hP hD hS => ?_)
  clear hPc hDc
  refine lv_if_ne (tgt := 9) hx hb dX2_takeFirst_4 (by decide) (fun c_1 => ?_) (fun c_1 => ?_)
  · have c_1 := bI_ne.mp c_1
    obtain ⟨j, hj, rfl⟩ := pcB_ex c_1
    have hjn : (nI j).toNatClampNeg = j := nI_clamp (by omega)
    refine lv_aload_n hx hb dX2_takeFirst_9 rfl (lv_at hl 0 rfl) ?_
    refine lv_iload_n hx hb dX2_takeFirst_10 rfl (lv_at hl 1 rfl) ?_
    refine va_put (D := D) (ci := 2) (v := .int (nI j)) (ty := tyX2 5) (C := RX2) (T := TX2) (N := 7) hx hb hts (fun _ h9 => (List.mem_cons_of_mem _ (List.mem_append_left _ (List.mem_append_right _ h9)))) tyX2 tyX2_ok nmX2 hown hK hP hD hS 0 rfl rfl 5 (by decide) (hts _ (List.mem_of_getElem? (i := 1) rfl)) (fun _ h9 => h9) rfl (tyX2_ok 5 (by decide)) rfl rfl (Nat.le_of_ble_eq_true rfl) dX2_takeFirst_11 (fun H locs hP hD hS => ?_)
    have hP : va_P D vwCl ([(t 0, .inr (2, [.ref (t 1), .int ln, .ref (b 0), .int pl, .int kd.1, .int (nI j), .int kd.2])), (t 1, .inl (k 0, 60, .inl cd)), (b 0, .inr (1, [.ref (b 1), .ref (b 2), .ref (b 3), .ref (b 4), .ref (b 5), .ref (b 6), .ref (b 7), .int (G 7 0), .int (G 7 1), .int (G 7 2)])), (b 1, .inl (k 0, 9, .inl (G 0))), (b 2, .inl (k 0, 9, .inl (G 1))), (b 3, .inl (k 0, 9, .inl (G 2))), (b 4, .inl (k 0, 9, .inl (G 3))), (b 5, .inl (k 0, 9, .inl (G 4))), (b 6, .inl (k 0, 12, .inl (G 5))), (b 7, .inl (k 0, 12, .inl (G 6)))]) H := hP
    have hD : va_D A ([(t 0, .inr (2, [.ref (t 1), .int ln, .ref (b 0), .int pl, .int kd.1, .int (nI j), .int kd.2])), (t 1, .inl (k 0, 60, .inl cd)), (b 0, .inr (1, [.ref (b 1), .ref (b 2), .ref (b 3), .ref (b 4), .ref (b 5), .ref (b 6), .ref (b 7), .int (G 7 0), .int (G 7 1), .int (G 7 2)])), (b 1, .inl (k 0, 9, .inl (G 0))), (b 2, .inl (k 0, 9, .inl (G 1))), (b 3, .inl (k 0, 9, .inl (G 2))), (b 4, .inl (k 0, 9, .inl (G 3))), (b 5, .inl (k 0, 9, .inl (G 4))), (b 6, .inl (k 0, 12, .inl (G 5))), (b 7, .inl (k 0, 12, .inl (G 6)))]) := hD
    refine lv_aload_n hx hb dX2_takeFirst_14 rfl (lv_at hl 0 rfl) ?_
    refine va_get (D := D) (ci := 2) (v := .int kd.1) (C := RX2) (T := TX2) (N := 7) hx hb hts (fun _ h9 => (List.mem_cons_of_mem _ (List.mem_append_left _ (List.mem_append_right _ h9)))) hown hK hP 0 rfl rfl 4 (by decide) (hts _ (List.mem_of_getElem? (i := 2) rfl)) (fun _ h9 => h9) rfl dX2_takeFirst_15 ?_
    refine lv_bipush (v := 115) hx hb dX2_takeFirst_18 (by decide) ?_
    refine lv_icmp_eq (tgt := 32) hx hb dX2_takeFirst_20 (by decide) (fun c_2 => ?_) (fun c_2 => ?_)
    · refine lv_aload_n hx hb dX2_takeFirst_32 rfl (lv_at hl 0 rfl) ?_
      refine va_get (D := D) (ci := 2) (v := .ref (b 0)) (C := RX2) (T := TX2) (N := 7) hx hb hts (fun _ h9 => (List.mem_cons_of_mem _ (List.mem_append_left _ (List.mem_append_right _ h9)))) hown hK hP 0 rfl rfl 2 (by decide) (hts _ (List.mem_of_getElem? (i := 3) rfl)) (fun _ h9 => h9) rfl dX2_takeFirst_33 ?_
      refine va_get (D := D) (ci := 1) (v := .ref (b 2)) (C := RX1) (T := TX1) (N := 10) hx hb hts (fun _ h9 => (List.mem_cons_of_mem _ (List.mem_append_right _ h9))) hown hK hP 2 rfl rfl 1 (by decide) (hts _ (List.mem_of_getElem? (i := 4) rfl)) (fun _ h9 => h9) rfl dX2_takeFirst_36 ?_
      refine lv_iload_n hx hb dX2_takeFirst_39 rfl (lv_at hl 1 rfl) ?_
      refine lv_dup2_11 hx hb dX2_takeFirst_40 rfl rfl ?_
      refine ar_ld hx hb hK hP 4 rfl j (nI_clamp (by omega)) (vp_in_nI (by omega) (by omega)) dX2_takeFirst_41 ?_
      refine lv_aload_n hx hb dX2_takeFirst_42 rfl (lv_at hl 0 rfl) ?_
      refine va_get (D := D) (ci := 2) (v := .int kd.1) (C := RX2) (T := TX2) (N := 7) hx hb hts (fun _ h9 => (List.mem_cons_of_mem _ (List.mem_append_left _ (List.mem_append_right _ h9)))) hown hK hP 0 rfl rfl 4 (by decide) (hts _ (List.mem_of_getElem? (i := 2) rfl)) (fun _ h9 => h9) rfl dX2_takeFirst_43 ?_
      refine lv_bipush (v := 115) hx hb dX2_takeFirst_46 (by decide) ?_
      refine lv_icmp_ne (tgt := 55) hx hb dX2_takeFirst_48 (by decide) (fun c_3 => ?_) (fun c_3 => ?_)
      · exact absurd c_2 c_3
      · refine lv_iconst (v := 1) hx hb dX2_takeFirst_51 (by decide) ?_
        refine lv_goto (tgt := 56) hx hb dX2_takeFirst_52 (by decide) ?_
        refine lv_ior hx hb dX2_takeFirst_56 ?_
        refine ar_st hx hb hK hP hD hS 4 rfl j (nI_clamp (by omega)) (vp_in_nI (by omega) (by omega)) dX2_takeFirst_57 (wn := [(t 0, .inr (2, [.ref (t 1), .int ln, .ref (b 0), .int pl, .int kd.1, .int (nI j), .int kd.2])), (t 1, .inl (k 0, 60, .inl cd)), (b 0, .inr (1, [.ref (b 1), .ref (b 2), .ref (b 3), .ref (b 4), .ref (b 5), .ref (b 6), .ref (b 7), .int (G 7 0), .int (G 7 1), .int (G 7 2)])), (b 1, .inl (k 0, 9, .inl (G 0))), (b 2, .inl (k 0, 9, .inl (upd (G 1) j (((G 1) j) ||| 1)))), (b 3, .inl (k 0, 9, .inl (G 2))), (b 4, .inl (k 0, 9, .inl (G 3))), (b 5, .inl (k 0, 9, .inl (G 4))), (b 6, .inl (k 0, 12, .inl (G 5))), (b 7, .inl (k 0, 12, .inl (G 6)))]) rfl (fun H locs hP hD hS => ?_)
        refine lv_aload_n hx hb dX2_takeFirst_58 rfl (lv_at hl 0 rfl) ?_
        refine lv_bipush (v := 6) hx hb dX2_takeFirst_59 (by decide) ?_
        refine va_put (D := D) (ci := 2) (v := .int 6) (ty := tyX2 3) (C := RX2) (T := TX2) (N := 7) hx hb hts (fun _ h9 => (List.mem_cons_of_mem _ (List.mem_append_left _ (List.mem_append_right _ h9)))) tyX2 tyX2_ok nmX2 hown hK hP hD hS 0 rfl rfl 3 (by decide) (hts _ (List.mem_of_getElem? (i := 5) rfl)) (fun _ h9 => h9) rfl (tyX2_ok 3 (by decide)) rfl rfl (Nat.le_of_ble_eq_true rfl) dX2_takeFirst_61 (fun H locs hP hD hS => ?_)
        have hP : va_P D vwCl ([(t 0, .inr (2, [.ref (t 1), .int ln, .ref (b 0), .int 6, .int kd.1, .int (nI j), .int kd.2])), (t 1, .inl (k 0, 60, .inl cd)), (b 0, .inr (1, [.ref (b 1), .ref (b 2), .ref (b 3), .ref (b 4), .ref (b 5), .ref (b 6), .ref (b 7), .int (G 7 0), .int (G 7 1), .int (G 7 2)])), (b 1, .inl (k 0, 9, .inl (G 0))), (b 2, .inl (k 0, 9, .inl (upd (G 1) j (((G 1) j) ||| 1)))), (b 3, .inl (k 0, 9, .inl (G 2))), (b 4, .inl (k 0, 9, .inl (G 3))), (b 5, .inl (k 0, 9, .inl (G 4))), (b 6, .inl (k 0, 12, .inl (G 5))), (b 7, .inl (k 0, 12, .inl (G 6)))]) H := hP
        have hD : va_D A ([(t 0, .inr (2, [.ref (t 1), .int ln, .ref (b 0), .int 6, .int kd.1, .int (nI j), .int kd.2])), (t 1, .inl (k 0, 60, .inl cd)), (b 0, .inr (1, [.ref (b 1), .ref (b 2), .ref (b 3), .ref (b 4), .ref (b 5), .ref (b 6), .ref (b 7), .int (G 7 0), .int (G 7 1), .int (G 7 2)])), (b 1, .inl (k 0, 9, .inl (G 0))), (b 2, .inl (k 0, 9, .inl (upd (G 1) j (((G 1) j) ||| 1)))), (b 3, .inl (k 0, 9, .inl (G 2))), (b 4, .inl (k 0, 9, .inl (G 3))), (b 5, .inl (k 0, 9, .inl (G 4))), (b 6, .inl (k 0, 12, .inl (G 5))), (b 7, .inl (k 0, 12, .inl (G 6)))]) := hD
        refine lv_iconst (v := 1) hx hb dX2_takeFirst_64 (by decide) ?_
        subst hQ
        exact rt_z hx hb hr hlocks hS dX2_takeFirst_65 (by rw [tfF, if_neg (by rw [c_1]; decide), if_pos c_2, hjn]; exact hP) (rfl) (by rw [tfF, if_neg (by rw [c_1]; decide), if_pos c_2]; rfl)
    · refine lv_aload_n hx hb dX2_takeFirst_23 rfl (lv_at hl 0 rfl) ?_
      refine va_get (D := D) (ci := 2) (v := .int kd.1) (C := RX2) (T := TX2) (N := 7) hx hb hts (fun _ h9 => (List.mem_cons_of_mem _ (List.mem_append_left _ (List.mem_append_right _ h9)))) hown hK hP 0 rfl rfl 4 (by decide) (hts _ (List.mem_of_getElem? (i := 2) rfl)) (fun _ h9 => h9) rfl dX2_takeFirst_24 ?_
      refine lv_bipush (v := 101) hx hb dX2_takeFirst_27 (by decide) ?_
      refine lv_icmp_ne (tgt := 66) hx hb dX2_takeFirst_29 (by decide) (fun c_4 => ?_) (fun c_4 => ?_)
      · refine lv_aload_n hx hb dX2_takeFirst_66 rfl (lv_at hl 0 rfl) ?_
        refine lv_aload_n hx hb dX2_takeFirst_67 rfl (lv_at hl 0 rfl) ?_
        refine va_get (D := D) (ci := 2) (v := .int kd.1) (C := RX2) (T := TX2) (N := 7) hx hb hts (fun _ h9 => (List.mem_cons_of_mem _ (List.mem_append_left _ (List.mem_append_right _ h9)))) hown hK hP 0 rfl rfl 4 (by decide) (hts _ (List.mem_of_getElem? (i := 2) rfl)) (fun _ h9 => h9) rfl dX2_takeFirst_68 ?_
        refine lv_bipush (v := 99) hx hb dX2_takeFirst_71 (by decide) ?_
        refine lv_icmp_ne (tgt := 80) hx hb dX2_takeFirst_73 (by decide) (fun c_5 => ?_) (fun c_5 => ?_)
        · refine lv_iconst (v := 2) hx hb dX2_takeFirst_80 (by decide) ?_
          refine va_put (D := D) (ci := 2) (v := .int 2) (ty := tyX2 3) (C := RX2) (T := TX2) (N := 7) hx hb hts (fun _ h9 => (List.mem_cons_of_mem _ (List.mem_append_left _ (List.mem_append_right _ h9)))) tyX2 tyX2_ok nmX2 hown hK hP hD hS 0 rfl rfl 3 (by decide) (hts _ (List.mem_of_getElem? (i := 5) rfl)) (fun _ h9 => h9) rfl (tyX2_ok 3 (by decide)) rfl rfl (Nat.le_of_ble_eq_true rfl) dX2_takeFirst_81 (fun H locs hP hD hS => ?_)
          have hP : va_P D vwCl ([(t 0, .inr (2, [.ref (t 1), .int ln, .ref (b 0), .int 2, .int kd.1, .int (nI j), .int kd.2])), (t 1, .inl (k 0, 60, .inl cd)), (b 0, .inr (1, [.ref (b 1), .ref (b 2), .ref (b 3), .ref (b 4), .ref (b 5), .ref (b 6), .ref (b 7), .int (G 7 0), .int (G 7 1), .int (G 7 2)])), (b 1, .inl (k 0, 9, .inl (G 0))), (b 2, .inl (k 0, 9, .inl (G 1))), (b 3, .inl (k 0, 9, .inl (G 2))), (b 4, .inl (k 0, 9, .inl (G 3))), (b 5, .inl (k 0, 9, .inl (G 4))), (b 6, .inl (k 0, 12, .inl (G 5))), (b 7, .inl (k 0, 12, .inl (G 6)))]) H := hP
          have hD : va_D A ([(t 0, .inr (2, [.ref (t 1), .int ln, .ref (b 0), .int 2, .int kd.1, .int (nI j), .int kd.2])), (t 1, .inl (k 0, 60, .inl cd)), (b 0, .inr (1, [.ref (b 1), .ref (b 2), .ref (b 3), .ref (b 4), .ref (b 5), .ref (b 6), .ref (b 7), .int (G 7 0), .int (G 7 1), .int (G 7 2)])), (b 1, .inl (k 0, 9, .inl (G 0))), (b 2, .inl (k 0, 9, .inl (G 1))), (b 3, .inl (k 0, 9, .inl (G 2))), (b 4, .inl (k 0, 9, .inl (G 3))), (b 5, .inl (k 0, 9, .inl (G 4))), (b 6, .inl (k 0, 12, .inl (G 5))), (b 7, .inl (k 0, 12, .inl (G 6)))]) := hD
          refine lv_aload_n hx hb dX2_takeFirst_84 rfl (lv_at hl 0 rfl) ?_
          refine va_get (D := D) (ci := 2) (v := .int kd.1) (C := RX2) (T := TX2) (N := 7) hx hb hts (fun _ h9 => (List.mem_cons_of_mem _ (List.mem_append_left _ (List.mem_append_right _ h9)))) hown hK hP 0 rfl rfl 4 (by decide) (hts _ (List.mem_of_getElem? (i := 2) rfl)) (fun _ h9 => h9) rfl dX2_takeFirst_85 ?_
          refine lv_bipush (v := 99) hx hb dX2_takeFirst_88 (by decide) ?_
          refine lv_icmp_eq (tgt := 99) hx hb dX2_takeFirst_90 (by decide) (fun c_6 => ?_) (fun c_6 => ?_)
          · exact absurd c_6 c_5
          · refine lv_iload_n hx hb dX2_takeFirst_93 rfl (lv_at hl 1 rfl) ?_
            refine lv_bipush (v := 8) hx hb dX2_takeFirst_94 (by decide) ?_
            refine lv_icmp_ge (tgt := 103) hx hb dX2_takeFirst_96 (by decide) (fun c_7 => ?_) (fun c_7 => ?_)
            · have c_7 : 8 ≤ j := (nI_leI (a := 8) (b := j) (by omega) (by omega)).mp c_7
              refine lv_iconst (v := 0) hx hb dX2_takeFirst_103 (by decide) ?_
              subst hQ
              exact rt_z hx hb hr hlocks hS dX2_takeFirst_104 (by rw [tfF, if_neg (by rw [c_1]; decide), if_neg c_2, if_neg c_4, if_neg c_5]; exact hP) (rfl) (by rw [tfF, if_neg (by rw [c_1]; decide), if_neg c_2, if_neg c_4, if_neg c_5]; simp [bI, show ((8 : Int32) ≤ nI j) ↔ 8 ≤ j from nI_leI (a := 8) (by omega) (by omega), -Int32.not_le, c_7])
            · have c_7 : ¬ (8 ≤ j) := fun h9 => c_7 ((nI_leI (a := 8) (b := j) (by omega) (by omega)).mpr h9)
              refine lv_iconst (v := 1) hx hb dX2_takeFirst_99 (by decide) ?_
              refine lv_goto (tgt := 104) hx hb dX2_takeFirst_100 (by decide) ?_
              subst hQ
              exact rt_z hx hb hr hlocks hS dX2_takeFirst_104 (by rw [tfF, if_neg (by rw [c_1]; decide), if_neg c_2, if_neg c_4, if_neg c_5]; exact hP) (rfl) (by rw [tfF, if_neg (by rw [c_1]; decide), if_neg c_2, if_neg c_4, if_neg c_5]; simp [bI, show ((8 : Int32) ≤ nI j) ↔ 8 ≤ j from nI_leI (a := 8) (by omega) (by omega), -Int32.not_le, c_7])
        · refine lv_iconst (v := 3) hx hb dX2_takeFirst_76 (by decide) ?_
          refine lv_goto (tgt := 81) hx hb dX2_takeFirst_77 (by decide) ?_
          refine va_put (D := D) (ci := 2) (v := .int 3) (ty := tyX2 3) (C := RX2) (T := TX2) (N := 7) hx hb hts (fun _ h9 => (List.mem_cons_of_mem _ (List.mem_append_left _ (List.mem_append_right _ h9)))) tyX2 tyX2_ok nmX2 hown hK hP hD hS 0 rfl rfl 3 (by decide) (hts _ (List.mem_of_getElem? (i := 5) rfl)) (fun _ h9 => h9) rfl (tyX2_ok 3 (by decide)) rfl rfl (Nat.le_of_ble_eq_true rfl) dX2_takeFirst_81 (fun H locs hP hD hS => ?_)
          have hP : va_P D vwCl ([(t 0, .inr (2, [.ref (t 1), .int ln, .ref (b 0), .int 3, .int kd.1, .int (nI j), .int kd.2])), (t 1, .inl (k 0, 60, .inl cd)), (b 0, .inr (1, [.ref (b 1), .ref (b 2), .ref (b 3), .ref (b 4), .ref (b 5), .ref (b 6), .ref (b 7), .int (G 7 0), .int (G 7 1), .int (G 7 2)])), (b 1, .inl (k 0, 9, .inl (G 0))), (b 2, .inl (k 0, 9, .inl (G 1))), (b 3, .inl (k 0, 9, .inl (G 2))), (b 4, .inl (k 0, 9, .inl (G 3))), (b 5, .inl (k 0, 9, .inl (G 4))), (b 6, .inl (k 0, 12, .inl (G 5))), (b 7, .inl (k 0, 12, .inl (G 6)))]) H := hP
          have hD : va_D A ([(t 0, .inr (2, [.ref (t 1), .int ln, .ref (b 0), .int 3, .int kd.1, .int (nI j), .int kd.2])), (t 1, .inl (k 0, 60, .inl cd)), (b 0, .inr (1, [.ref (b 1), .ref (b 2), .ref (b 3), .ref (b 4), .ref (b 5), .ref (b 6), .ref (b 7), .int (G 7 0), .int (G 7 1), .int (G 7 2)])), (b 1, .inl (k 0, 9, .inl (G 0))), (b 2, .inl (k 0, 9, .inl (G 1))), (b 3, .inl (k 0, 9, .inl (G 2))), (b 4, .inl (k 0, 9, .inl (G 3))), (b 5, .inl (k 0, 9, .inl (G 4))), (b 6, .inl (k 0, 12, .inl (G 5))), (b 7, .inl (k 0, 12, .inl (G 6)))]) := hD
          refine lv_aload_n hx hb dX2_takeFirst_84 rfl (lv_at hl 0 rfl) ?_
          refine va_get (D := D) (ci := 2) (v := .int kd.1) (C := RX2) (T := TX2) (N := 7) hx hb hts (fun _ h9 => (List.mem_cons_of_mem _ (List.mem_append_left _ (List.mem_append_right _ h9)))) hown hK hP 0 rfl rfl 4 (by decide) (hts _ (List.mem_of_getElem? (i := 2) rfl)) (fun _ h9 => h9) rfl dX2_takeFirst_85 ?_
          refine lv_bipush (v := 99) hx hb dX2_takeFirst_88 (by decide) ?_
          refine lv_icmp_eq (tgt := 99) hx hb dX2_takeFirst_90 (by decide) (fun c_8 => ?_) (fun c_8 => ?_)
          · refine lv_iconst (v := 1) hx hb dX2_takeFirst_99 (by decide) ?_
            refine lv_goto (tgt := 104) hx hb dX2_takeFirst_100 (by decide) ?_
            subst hQ
            exact rt_z hx hb hr hlocks hS dX2_takeFirst_104 (by rw [tfF, if_neg (by rw [c_1]; decide), if_neg c_2, if_neg c_4, if_pos c_5]; exact hP) (rfl) (by rw [tfF, if_neg (by rw [c_1]; decide), if_neg c_2, if_neg c_4, if_pos c_5]; rfl)
          · exact absurd c_5 c_8
      · refine lv_aload_n hx hb dX2_takeFirst_32 rfl (lv_at hl 0 rfl) ?_
        refine va_get (D := D) (ci := 2) (v := .ref (b 0)) (C := RX2) (T := TX2) (N := 7) hx hb hts (fun _ h9 => (List.mem_cons_of_mem _ (List.mem_append_left _ (List.mem_append_right _ h9)))) hown hK hP 0 rfl rfl 2 (by decide) (hts _ (List.mem_of_getElem? (i := 3) rfl)) (fun _ h9 => h9) rfl dX2_takeFirst_33 ?_
        refine va_get (D := D) (ci := 1) (v := .ref (b 2)) (C := RX1) (T := TX1) (N := 10) hx hb hts (fun _ h9 => (List.mem_cons_of_mem _ (List.mem_append_right _ h9))) hown hK hP 2 rfl rfl 1 (by decide) (hts _ (List.mem_of_getElem? (i := 4) rfl)) (fun _ h9 => h9) rfl dX2_takeFirst_36 ?_
        refine lv_iload_n hx hb dX2_takeFirst_39 rfl (lv_at hl 1 rfl) ?_
        refine lv_dup2_11 hx hb dX2_takeFirst_40 rfl rfl ?_
        refine ar_ld hx hb hK hP 4 rfl j (nI_clamp (by omega)) (vp_in_nI (by omega) (by omega)) dX2_takeFirst_41 ?_
        refine lv_aload_n hx hb dX2_takeFirst_42 rfl (lv_at hl 0 rfl) ?_
        refine va_get (D := D) (ci := 2) (v := .int kd.1) (C := RX2) (T := TX2) (N := 7) hx hb hts (fun _ h9 => (List.mem_cons_of_mem _ (List.mem_append_left _ (List.mem_append_right _ h9)))) hown hK hP 0 rfl rfl 4 (by decide) (hts _ (List.mem_of_getElem? (i := 2) rfl)) (fun _ h9 => h9) rfl dX2_takeFirst_43 ?_
        refine lv_bipush (v := 115) hx hb dX2_takeFirst_46 (by decide) ?_
        refine lv_icmp_ne (tgt := 55) hx hb dX2_takeFirst_48 (by decide) (fun c_9 => ?_) (fun c_9 => ?_)
        · refine lv_iconst (v := 2) hx hb dX2_takeFirst_55 (by decide) ?_
          refine lv_ior hx hb dX2_takeFirst_56 ?_
          refine ar_st hx hb hK hP hD hS 4 rfl j (nI_clamp (by omega)) (vp_in_nI (by omega) (by omega)) dX2_takeFirst_57 (wn := [(t 0, .inr (2, [.ref (t 1), .int ln, .ref (b 0), .int pl, .int kd.1, .int (nI j), .int kd.2])), (t 1, .inl (k 0, 60, .inl cd)), (b 0, .inr (1, [.ref (b 1), .ref (b 2), .ref (b 3), .ref (b 4), .ref (b 5), .ref (b 6), .ref (b 7), .int (G 7 0), .int (G 7 1), .int (G 7 2)])), (b 1, .inl (k 0, 9, .inl (G 0))), (b 2, .inl (k 0, 9, .inl (upd (G 1) j (((G 1) j) ||| 2)))), (b 3, .inl (k 0, 9, .inl (G 2))), (b 4, .inl (k 0, 9, .inl (G 3))), (b 5, .inl (k 0, 9, .inl (G 4))), (b 6, .inl (k 0, 12, .inl (G 5))), (b 7, .inl (k 0, 12, .inl (G 6)))]) rfl (fun H locs hP hD hS => ?_)
          refine lv_aload_n hx hb dX2_takeFirst_58 rfl (lv_at hl 0 rfl) ?_
          refine lv_bipush (v := 6) hx hb dX2_takeFirst_59 (by decide) ?_
          refine va_put (D := D) (ci := 2) (v := .int 6) (ty := tyX2 3) (C := RX2) (T := TX2) (N := 7) hx hb hts (fun _ h9 => (List.mem_cons_of_mem _ (List.mem_append_left _ (List.mem_append_right _ h9)))) tyX2 tyX2_ok nmX2 hown hK hP hD hS 0 rfl rfl 3 (by decide) (hts _ (List.mem_of_getElem? (i := 5) rfl)) (fun _ h9 => h9) rfl (tyX2_ok 3 (by decide)) rfl rfl (Nat.le_of_ble_eq_true rfl) dX2_takeFirst_61 (fun H locs hP hD hS => ?_)
          have hP : va_P D vwCl ([(t 0, .inr (2, [.ref (t 1), .int ln, .ref (b 0), .int 6, .int kd.1, .int (nI j), .int kd.2])), (t 1, .inl (k 0, 60, .inl cd)), (b 0, .inr (1, [.ref (b 1), .ref (b 2), .ref (b 3), .ref (b 4), .ref (b 5), .ref (b 6), .ref (b 7), .int (G 7 0), .int (G 7 1), .int (G 7 2)])), (b 1, .inl (k 0, 9, .inl (G 0))), (b 2, .inl (k 0, 9, .inl (upd (G 1) j (((G 1) j) ||| 2)))), (b 3, .inl (k 0, 9, .inl (G 2))), (b 4, .inl (k 0, 9, .inl (G 3))), (b 5, .inl (k 0, 9, .inl (G 4))), (b 6, .inl (k 0, 12, .inl (G 5))), (b 7, .inl (k 0, 12, .inl (G 6)))]) H := hP
          have hD : va_D A ([(t 0, .inr (2, [.ref (t 1), .int ln, .ref (b 0), .int 6, .int kd.1, .int (nI j), .int kd.2])), (t 1, .inl (k 0, 60, .inl cd)), (b 0, .inr (1, [.ref (b 1), .ref (b 2), .ref (b 3), .ref (b 4), .ref (b 5), .ref (b 6), .ref (b 7), .int (G 7 0), .int (G 7 1), .int (G 7 2)])), (b 1, .inl (k 0, 9, .inl (G 0))), (b 2, .inl (k 0, 9, .inl (upd (G 1) j (((G 1) j) ||| 2)))), (b 3, .inl (k 0, 9, .inl (G 2))), (b 4, .inl (k 0, 9, .inl (G 3))), (b 5, .inl (k 0, 9, .inl (G 4))), (b 6, .inl (k 0, 12, .inl (G 5))), (b 7, .inl (k 0, 12, .inl (G 6)))]) := hD
          refine lv_iconst (v := 1) hx hb dX2_takeFirst_64 (by decide) ?_
          subst hQ
          exact rt_z hx hb hr hlocks hS dX2_takeFirst_65 (by rw [tfF, if_neg (by rw [c_1]; decide), if_neg c_2, if_pos c_4, hjn]; exact hP) (rfl) (by rw [tfF, if_neg (by rw [c_1]; decide), if_neg c_2, if_pos c_4]; rfl)
        · exact absurd c_9 c_2
  · have c_1 := bI_eq.mp c_1
    refine lv_iconst (v := 0) hx hb dX2_takeFirst_7 (by decide) ?_
    subst hQ
    exact rt_z hx hb hr hlocks hS dX2_takeFirst_8 (by rw [tfF, if_pos c_1]; exact hP) (rfl) (by rw [tfF, if_pos c_1]; rfl)

set_option maxHeartbeats 1000000 in
set_option maxRecDepth 100000 in
theorem c_X2_takeSecond (l : Launch) (D : va_G) (k : Nat → ClassId) (t b : Nat → Nat) (cd : Nat → Int32) (ln : Int32) (G : Nat → Nat → Int32) (pl : Int32) (kd : Int32 × Int32) (f : Nat) (x : Int32) (hf : f < 9) : MI l yX2_takeSecond wsX2_takeSecond ({ frames := 1, cells := 0, slots := 0, locals := 20 }) D k [.ref (t 0), .int x] (wTx k t b cd ln G pl kd (nI f)) (bI (tsF G pl kd f x).1) (wTx k t b cd ln (tsF G pl kd f x).2.1 (tsF G pl kd f x).2.2.1 (tsF G pl kd f x).2.2.2.1 (tsF G pl kd f x).2.2.2.2) := by
  intro sz
  refine Met.ofW (cc := cX2_takeSecond) (maxL := 2) (ret := (some .boolean)) (by decide) rfl ?_
  intro p e s m args below meth c s₁ B hml hv
  obtain ⟨rfl, hN, hsz, hP, hK, hD0⟩ := hv
  have hx := B.exec
  have hb := B.bytes
  have hr := B.returns
  have hts := atoms_spec (ws := wsX2_takeSecond) B.pre
  have hown : s.vm.findClass RX2 = some m.cls := findClass_of_methodNamed B.named
  have hlocks := B.notSynchronized
  subst hsz
  have hD := hD0.self (sz := s.heap.size)
  generalize hAe : va_A (wTx k t b cd ln G pl kd (nI f)) s.heap.size = A at hD ⊢
  have hA : ∀ q : Nat, s.heap.size ≤ q → A q := fun q h => by rw [← hAe]; exact Or.inr h
  have hS : va_S A s.heap s.heap [] := va_S.rf
  have hl := lv_entry ([.ref (t 0), .int x]) (n := 2) (Nat.le_of_ble_eq_true rfl)
  rw [lg_entry_eq]
  generalize (lg_sl ([.ref (t 0), .int x]) ++ List.replicate (2 - (lg_sl ([.ref (t 0), .int x])).length) Slot.unset).toArray = ls at hl ⊢
  have hl : lv_has ls 2 [(0, .ref (t 0)), (1, .int x)] := hl
  obtain ⟨H, hHe⟩ : ∃ H, H = s.heap := ⟨_, rfl⟩
  have hP : va_P D vwCl (wTx k t b cd ln G pl kd (nI f)) H := by rw [hHe]; exact hP
  have hS : va_S A s.heap H [] := by rw [hHe]; exact hS
  rw [← hHe]
  refine absQ (fun Q hQ => ?_)
  refine lv_aload_n hx hb dX2_takeSecond_0 rfl (lv_at hl 0 rfl) ?_
  refine va_get (D := D) (ci := 2) (v := .int (nI f)) (C := RX2) (T := TX2) (N := 7) hx hb hts (fun _ h9 => (List.mem_cons_of_mem _ (List.mem_append_left _ (List.mem_append_right _ h9)))) hown hK hP 0 rfl rfl 5 (by decide) (hts _ (List.mem_of_getElem? (i := 1) rfl)) (fun _ h9 => h9) rfl dX2_takeSecond_1 ?_
  have hPc : va_P D vwCl ([]) H := hP.sub [] rfl
  have hDc : va_D A ([]) := hD.sub [] (by decide +kernel) rfl
  refine cl_i0 (va_runSN (As := [.int (nI f)]) (rest := []) ⟨hx, hb, hml, hown, hts⟩ (c_X4_isPiece l D k (nI f) H.size) ⟨va_cnB 1 hts gX2_takeSecond_X4_isPiece_n58 rfl rfl rfl hN.2.2.2.2.2.2.2.2.2.1 (hts (.initialized RX4) (List.mem_of_getElem? (i := 8) rfl)) (by decide +kernel) ⟨Nat.le_of_ble_eq_true rfl, Nat.le_of_ble_eq_true rfl⟩, hts (.static yX4_isPiece) (List.mem_of_getElem? (i := 7) rfl), trivial⟩ ⟨pr_blind, pr_at hN hPc hK hDc⟩ rfl rfl hl.1 rfl (lv_room (Nat.le_of_ble_eq_true rfl)) dX2_takeSecond_4 ⟨Nat.le_of_ble_eq_true rfl, Nat.le_of_ble_eq_true rfl⟩) hP hD hS hA [] rfl (fun H locs hP hD hS => ?_)
  clear hPc hDc
  refine lv_if_eq (tgt := 25) hx hb dX2_takeSecond_7 (by decide) (fun c_1 => ?_) (fun c_1 => ?_)
  · have c_1 := bI_eq.mp c_1
    exact absurd c_1 (by rw [pcB_t hf]; decide)
  · have c_1 := bI_ne.mp c_1
    refine lv_iload_n hx hb dX2_takeSecond_10 rfl (lv_at hl 1 rfl) ?_
    have hPc : va_P D vwCl ([]) H := hP.sub [] rfl
    have hDc : va_D A ([]) := hD.sub [] (by decide +kernel) rfl
    refine cl_i0 (va_runSN (As := [.int x]) (rest := []) ⟨hx, hb, hml, hown, hts⟩ (c_X4_isPiece l D k x H.size) ⟨va_cnB 1 hts gX2_takeSecond_X4_isPiece_n58 rfl rfl rfl hN.2.2.2.2.2.2.2.2.2.1 (hts (.initialized RX4) (List.mem_of_getElem? (i := 8) rfl)) (by decide +kernel) ⟨Nat.le_of_ble_eq_true rfl, Nat.le_of_ble_eq_true rfl⟩, hts (.static yX4_isPiece) (List.mem_of_getElem? (i := 7) rfl), trivial⟩ ⟨pr_blind, pr_at hN hPc hK hDc⟩ rfl rfl hl.1 rfl (lv_room (Nat.le_of_ble_eq_true rfl)) dX2_takeSecond_11 ⟨Nat.le_of_ble_eq_true rfl, Nat.le_of_ble_eq_true rfl⟩) hP hD hS hA [] rfl (fun H locs hP hD hS => ?_)
    clear hPc hDc
    refine lv_if_eq (tgt := 25) hx hb dX2_takeSecond_14 (by decide) (fun c_2 => ?_) (fun c_2 => ?_)
    · have c_2 := bI_eq.mp c_2
      refine lv_iconst (v := 0) hx hb dX2_takeSecond_25 (by decide) ?_
      subst hQ
      exact rt_z hx hb hr hlocks hS dX2_takeSecond_26 (by rw [tsF, if_pos c_2]; exact hP) (rfl) (by rw [tsF, if_pos c_2]; rfl)
    · have c_2 := bI_ne.mp c_2
      obtain ⟨j, hj, rfl⟩ := pcB_ex c_2
      have hjn : (nI j).toNatClampNeg = j := nI_clamp (by omega)
      refine lv_iload_n hx hb dX2_takeSecond_17 rfl (lv_at hl 1 rfl) ?_
      refine lv_aload_n hx hb dX2_takeSecond_18 rfl (lv_at hl 0 rfl) ?_
      refine va_get (D := D) (ci := 2) (v := .int (nI f)) (C := RX2) (T := TX2) (N := 7) hx hb hts (fun _ h9 => (List.mem_cons_of_mem _ (List.mem_append_left _ (List.mem_append_right _ h9)))) hown hK hP 0 rfl rfl 5 (by decide) (hts _ (List.mem_of_getElem? (i := 1) rfl)) (fun _ h9 => h9) rfl dX2_takeSecond_19 ?_
      refine lv_icmp_gt (tgt := 27) hx hb dX2_takeSecond_22 (by decide) (fun c_3 => ?_) (fun c_3 => ?_)
      · have c_3 : f < j := (nI_ltI (a := f) (b := j) (by omega) (by omega)).mp c_3
        refine lv_aload_n hx hb dX2_takeSecond_27 rfl (lv_at hl 0 rfl) ?_
        refine va_get (D := D) (ci := 2) (v := .int kd.1) (C := RX2) (T := TX2) (N := 7) hx hb hts (fun _ h9 => (List.mem_cons_of_mem _ (List.mem_append_left _ (List.mem_append_right _ h9)))) hown hK hP 0 rfl rfl 4 (by decide) (hts _ (List.mem_of_getElem? (i := 2) rfl)) (fun _ h9 => h9) rfl dX2_takeSecond_28 ?_
        refine lv_bipush (v := 106) hx hb dX2_takeSecond_31 (by decide) ?_
        refine lv_icmp_ne (tgt := 57) hx hb dX2_takeSecond_33 (by decide) (fun c_4 => ?_) (fun c_4 => ?_)
        · refine lv_aload_n hx hb dX2_takeSecond_57 rfl (lv_at hl 0 rfl) ?_
          refine va_get (D := D) (ci := 2) (v := .ref (b 0)) (C := RX2) (T := TX2) (N := 7) hx hb hts (fun _ h9 => (List.mem_cons_of_mem _ (List.mem_append_left _ (List.mem_append_right _ h9)))) hown hK hP 0 rfl rfl 2 (by decide) (hts _ (List.mem_of_getElem? (i := 3) rfl)) (fun _ h9 => h9) rfl dX2_takeSecond_58 ?_
          refine va_get (D := D) (ci := 1) (v := .ref (b 4)) (C := RX1) (T := TX1) (N := 10) hx hb hts (fun _ h9 => (List.mem_cons_of_mem _ (List.mem_append_right _ h9))) hown hK hP 2 rfl rfl 3 (by decide) (hts _ (List.mem_of_getElem? (i := 5) rfl)) (fun _ h9 => h9) rfl dX2_takeSecond_61 ?_
          refine lv_aload_n hx hb dX2_takeSecond_64 rfl (lv_at hl 0 rfl) ?_
          refine va_get (D := D) (ci := 2) (v := .int (nI f)) (C := RX2) (T := TX2) (N := 7) hx hb hts (fun _ h9 => (List.mem_cons_of_mem _ (List.mem_append_left _ (List.mem_append_right _ h9)))) hown hK hP 0 rfl rfl 5 (by decide) (hts _ (List.mem_of_getElem? (i := 1) rfl)) (fun _ h9 => h9) rfl dX2_takeSecond_65 ?_
          refine lv_dup2_11 hx hb dX2_takeSecond_68 rfl rfl ?_
          refine ar_ld hx hb hK hP 6 rfl f (nI_clamp (by omega)) (vp_in_nI (by omega) (by omega)) dX2_takeSecond_69 ?_
          refine lv_iconst (v := 1) hx hb dX2_takeSecond_70 (by decide) ?_
          refine lv_iload_n hx hb dX2_takeSecond_71 rfl (lv_at hl 1 rfl) ?_
          refine lv_ishl hx hb dX2_takeSecond_72 ?_
          refine lv_ior hx hb dX2_takeSecond_73 ?_
          refine ar_st hx hb hK hP hD hS 6 rfl f (nI_clamp (by omega)) (vp_in_nI (by omega) (by omega)) dX2_takeSecond_74 (wn := [(t 0, .inr (2, [.ref (t 1), .int ln, .ref (b 0), .int pl, .int kd.1, .int (nI f), .int kd.2])), (t 1, .inl (k 0, 60, .inl cd)), (b 0, .inr (1, [.ref (b 1), .ref (b 2), .ref (b 3), .ref (b 4), .ref (b 5), .ref (b 6), .ref (b 7), .int (G 7 0), .int (G 7 1), .int (G 7 2)])), (b 1, .inl (k 0, 9, .inl (G 0))), (b 2, .inl (k 0, 9, .inl (G 1))), (b 3, .inl (k 0, 9, .inl (G 2))), (b 4, .inl (k 0, 9, .inl (upd (G 3) f (((G 3) f) ||| (1 <<< ((nI j) &&& 31)))))), (b 5, .inl (k 0, 9, .inl (G 4))), (b 6, .inl (k 0, 12, .inl (G 5))), (b 7, .inl (k 0, 12, .inl (G 6)))]) rfl (fun H locs hP hD hS => ?_)
          refine lv_aload_n hx hb dX2_takeSecond_75 rfl (lv_at hl 0 rfl) ?_
          refine va_get (D := D) (ci := 2) (v := .ref (b 0)) (C := RX2) (T := TX2) (N := 7) hx hb hts (fun _ h9 => (List.mem_cons_of_mem _ (List.mem_append_left _ (List.mem_append_right _ h9)))) hown hK hP 0 rfl rfl 2 (by decide) (hts _ (List.mem_of_getElem? (i := 3) rfl)) (fun _ h9 => h9) rfl dX2_takeSecond_76 ?_
          refine va_get (D := D) (ci := 1) (v := .ref (b 4)) (C := RX1) (T := TX1) (N := 10) hx hb hts (fun _ h9 => (List.mem_cons_of_mem _ (List.mem_append_right _ h9))) hown hK hP 2 rfl rfl 3 (by decide) (hts _ (List.mem_of_getElem? (i := 5) rfl)) (fun _ h9 => h9) rfl dX2_takeSecond_79 ?_
          refine lv_iload_n hx hb dX2_takeSecond_82 rfl (lv_at hl 1 rfl) ?_
          refine lv_dup2_11 hx hb dX2_takeSecond_83 rfl rfl ?_
          refine ar_ld hx hb hK hP 6 rfl j (nI_clamp (by omega)) (vp_in_nI (by omega) (by omega)) dX2_takeSecond_84 ?_
          refine lv_iconst (v := 1) hx hb dX2_takeSecond_85 (by decide) ?_
          refine lv_aload_n hx hb dX2_takeSecond_86 rfl (lv_at hl 0 rfl) ?_
          refine va_get (D := D) (ci := 2) (v := .int (nI f)) (C := RX2) (T := TX2) (N := 7) hx hb hts (fun _ h9 => (List.mem_cons_of_mem _ (List.mem_append_left _ (List.mem_append_right _ h9)))) hown hK hP 0 rfl rfl 5 (by decide) (hts _ (List.mem_of_getElem? (i := 1) rfl)) (fun _ h9 => h9) rfl dX2_takeSecond_87 ?_
          refine lv_ishl hx hb dX2_takeSecond_90 ?_
          refine lv_ior hx hb dX2_takeSecond_91 ?_
          refine ar_st hx hb hK hP hD hS 6 rfl j (nI_clamp (by omega)) (vp_in_nI (by omega) (by omega)) dX2_takeSecond_92 (wn := [(t 0, .inr (2, [.ref (t 1), .int ln, .ref (b 0), .int pl, .int kd.1, .int (nI f), .int kd.2])), (t 1, .inl (k 0, 60, .inl cd)), (b 0, .inr (1, [.ref (b 1), .ref (b 2), .ref (b 3), .ref (b 4), .ref (b 5), .ref (b 6), .ref (b 7), .int (G 7 0), .int (G 7 1), .int (G 7 2)])), (b 1, .inl (k 0, 9, .inl (G 0))), (b 2, .inl (k 0, 9, .inl (G 1))), (b 3, .inl (k 0, 9, .inl (G 2))), (b 4, .inl (k 0, 9, .inl (upd (upd (G 3) f (((G 3) f) ||| (1 <<< ((nI j) &&& 31)))) j (((upd (G 3) f (((G 3) f) ||| (1 <<< ((nI j) &&& 31)))) j) ||| (1 <<< ((nI f) &&& 31)))))), (b 5, .inl (k 0, 9, .inl (G 4))), (b 6, .inl (k 0, 12, .inl (G 5))), (b 7, .inl (k 0, 12, .inl (G 6)))]) rfl (fun H locs hP hD hS => ?_)
          refine lv_aload_n hx hb dX2_takeSecond_93 rfl (lv_at hl 0 rfl) ?_
          refine lv_bipush (v := 6) hx hb dX2_takeSecond_94 (by decide) ?_
          refine va_put (D := D) (ci := 2) (v := .int 6) (ty := tyX2 3) (C := RX2) (T := TX2) (N := 7) hx hb hts (fun _ h9 => (List.mem_cons_of_mem _ (List.mem_append_left _ (List.mem_append_right _ h9)))) tyX2 tyX2_ok nmX2 hown hK hP hD hS 0 rfl rfl 3 (by decide) (hts _ (List.mem_of_getElem? (i := 6) rfl)) (fun _ h9 => h9) rfl (tyX2_ok 3 (by decide)) rfl rfl (Nat.le_of_ble_eq_true rfl) dX2_takeSecond_96 (fun H locs hP hD hS => ?_)
          have hP : va_P D vwCl ([(t 0, .inr (2, [.ref (t 1), .int ln, .ref (b 0), .int 6, .int kd.1, .int (nI f), .int kd.2])), (t 1, .inl (k 0, 60, .inl cd)), (b 0, .inr (1, [.ref (b 1), .ref (b 2), .ref (b 3), .ref (b 4), .ref (b 5), .ref (b 6), .ref (b 7), .int (G 7 0), .int (G 7 1), .int (G 7 2)])), (b 1, .inl (k 0, 9, .inl (G 0))), (b 2, .inl (k 0, 9, .inl (G 1))), (b 3, .inl (k 0, 9, .inl (G 2))), (b 4, .inl (k 0, 9, .inl (upd (upd (G 3) f (((G 3) f) ||| (1 <<< ((nI j) &&& 31)))) j (((upd (G 3) f (((G 3) f) ||| (1 <<< ((nI j) &&& 31)))) j) ||| (1 <<< ((nI f) &&& 31)))))), (b 5, .inl (k 0, 9, .inl (G 4))), (b 6, .inl (k 0, 12, .inl (G 5))), (b 7, .inl (k 0, 12, .inl (G 6)))]) H := hP
          have hD : va_D A ([(t 0, .inr (2, [.ref (t 1), .int ln, .ref (b 0), .int 6, .int kd.1, .int (nI f), .int kd.2])), (t 1, .inl (k 0, 60, .inl cd)), (b 0, .inr (1, [.ref (b 1), .ref (b 2), .ref (b 3), .ref (b 4), .ref (b 5), .ref (b 6), .ref (b 7), .int (G 7 0), .int (G 7 1), .int (G 7 2)])), (b 1, .inl (k 0, 9, .inl (G 0))), (b 2, .inl (k 0, 9, .inl (G 1))), (b 3, .inl (k 0, 9, .inl (G 2))), (b 4, .inl (k 0, 9, .inl (upd (upd (G 3) f (((G 3) f) ||| (1 <<< ((nI j) &&& 31)))) j (((upd (G 3) f (((G 3) f) ||| (1 <<< ((nI j) &&& 31)))) j) ||| (1 <<< ((nI f) &&& 31)))))), (b 5, .inl (k 0, 9, .inl (G 4))), (b 6, .inl (k 0, 12, .inl (G 5))), (b 7, .inl (k 0, 12, .inl (G 6)))]) := hD
          refine lv_iconst (v := 1) hx hb dX2_takeSecond_99 (by decide) ?_
          subst hQ
          exact rt_z hx hb hr hlocks hS dX2_takeSecond_100 (by rw [tsF, if_neg (by rw [c_2]; decide), if_neg (not_not_intro ((nI_ltI (a := f) (b := j) (by omega) (by omega)).mpr c_3)), if_neg c_4, hjn]; exact hP) (rfl) (by rw [tsF, if_neg (by rw [c_2]; decide), if_neg (not_not_intro ((nI_ltI (a := f) (b := j) (by omega) (by omega)).mpr c_3)), if_neg c_4]; rfl)
        · refine lv_aload_n hx hb dX2_takeSecond_36 rfl (lv_at hl 0 rfl) ?_
          refine va_get (D := D) (ci := 2) (v := .ref (b 0)) (C := RX2) (T := TX2) (N := 7) hx hb hts (fun _ h9 => (List.mem_cons_of_mem _ (List.mem_append_left _ (List.mem_append_right _ h9)))) hown hK hP 0 rfl rfl 2 (by decide) (hts _ (List.mem_of_getElem? (i := 3) rfl)) (fun _ h9 => h9) rfl dX2_takeSecond_37 ?_
          refine va_get (D := D) (ci := 1) (v := .ref (b 3)) (C := RX1) (T := TX1) (N := 10) hx hb hts (fun _ h9 => (List.mem_cons_of_mem _ (List.mem_append_right _ h9))) hown hK hP 2 rfl rfl 2 (by decide) (hts _ (List.mem_of_getElem? (i := 4) rfl)) (fun _ h9 => h9) rfl dX2_takeSecond_40 ?_
          refine lv_aload_n hx hb dX2_takeSecond_43 rfl (lv_at hl 0 rfl) ?_
          refine va_get (D := D) (ci := 2) (v := .int (nI f)) (C := RX2) (T := TX2) (N := 7) hx hb hts (fun _ h9 => (List.mem_cons_of_mem _ (List.mem_append_left _ (List.mem_append_right _ h9)))) hown hK hP 0 rfl rfl 5 (by decide) (hts _ (List.mem_of_getElem? (i := 1) rfl)) (fun _ h9 => h9) rfl dX2_takeSecond_44 ?_
          refine lv_dup2_11 hx hb dX2_takeSecond_47 rfl rfl ?_
          refine ar_ld hx hb hK hP 5 rfl f (nI_clamp (by omega)) (vp_in_nI (by omega) (by omega)) dX2_takeSecond_48 ?_
          refine lv_iconst (v := 1) hx hb dX2_takeSecond_49 (by decide) ?_
          refine lv_iload_n hx hb dX2_takeSecond_50 rfl (lv_at hl 1 rfl) ?_
          refine lv_ishl hx hb dX2_takeSecond_51 ?_
          refine lv_ior hx hb dX2_takeSecond_52 ?_
          refine ar_st hx hb hK hP hD hS 5 rfl f (nI_clamp (by omega)) (vp_in_nI (by omega) (by omega)) dX2_takeSecond_53 (wn := [(t 0, .inr (2, [.ref (t 1), .int ln, .ref (b 0), .int pl, .int kd.1, .int (nI f), .int kd.2])), (t 1, .inl (k 0, 60, .inl cd)), (b 0, .inr (1, [.ref (b 1), .ref (b 2), .ref (b 3), .ref (b 4), .ref (b 5), .ref (b 6), .ref (b 7), .int (G 7 0), .int (G 7 1), .int (G 7 2)])), (b 1, .inl (k 0, 9, .inl (G 0))), (b 2, .inl (k 0, 9, .inl (G 1))), (b 3, .inl (k 0, 9, .inl (upd (G 2) f (((G 2) f) ||| (1 <<< ((nI j) &&& 31)))))), (b 4, .inl (k 0, 9, .inl (G 3))), (b 5, .inl (k 0, 9, .inl (G 4))), (b 6, .inl (k 0, 12, .inl (G 5))), (b 7, .inl (k 0, 12, .inl (G 6)))]) rfl (fun H locs hP hD hS => ?_)
          refine lv_goto (tgt := 93) hx hb dX2_takeSecond_54 (by decide) ?_
          refine lv_aload_n hx hb dX2_takeSecond_93 rfl (lv_at hl 0 rfl) ?_
          refine lv_bipush (v := 6) hx hb dX2_takeSecond_94 (by decide) ?_
          refine va_put (D := D) (ci := 2) (v := .int 6) (ty := tyX2 3) (C := RX2) (T := TX2) (N := 7) hx hb hts (fun _ h9 => (List.mem_cons_of_mem _ (List.mem_append_left _ (List.mem_append_right _ h9)))) tyX2 tyX2_ok nmX2 hown hK hP hD hS 0 rfl rfl 3 (by decide) (hts _ (List.mem_of_getElem? (i := 6) rfl)) (fun _ h9 => h9) rfl (tyX2_ok 3 (by decide)) rfl rfl (Nat.le_of_ble_eq_true rfl) dX2_takeSecond_96 (fun H locs hP hD hS => ?_)
          have hP : va_P D vwCl ([(t 0, .inr (2, [.ref (t 1), .int ln, .ref (b 0), .int 6, .int kd.1, .int (nI f), .int kd.2])), (t 1, .inl (k 0, 60, .inl cd)), (b 0, .inr (1, [.ref (b 1), .ref (b 2), .ref (b 3), .ref (b 4), .ref (b 5), .ref (b 6), .ref (b 7), .int (G 7 0), .int (G 7 1), .int (G 7 2)])), (b 1, .inl (k 0, 9, .inl (G 0))), (b 2, .inl (k 0, 9, .inl (G 1))), (b 3, .inl (k 0, 9, .inl (upd (G 2) f (((G 2) f) ||| (1 <<< ((nI j) &&& 31)))))), (b 4, .inl (k 0, 9, .inl (G 3))), (b 5, .inl (k 0, 9, .inl (G 4))), (b 6, .inl (k 0, 12, .inl (G 5))), (b 7, .inl (k 0, 12, .inl (G 6)))]) H := hP
          have hD : va_D A ([(t 0, .inr (2, [.ref (t 1), .int ln, .ref (b 0), .int 6, .int kd.1, .int (nI f), .int kd.2])), (t 1, .inl (k 0, 60, .inl cd)), (b 0, .inr (1, [.ref (b 1), .ref (b 2), .ref (b 3), .ref (b 4), .ref (b 5), .ref (b 6), .ref (b 7), .int (G 7 0), .int (G 7 1), .int (G 7 2)])), (b 1, .inl (k 0, 9, .inl (G 0))), (b 2, .inl (k 0, 9, .inl (G 1))), (b 3, .inl (k 0, 9, .inl (upd (G 2) f (((G 2) f) ||| (1 <<< ((nI j) &&& 31)))))), (b 4, .inl (k 0, 9, .inl (G 3))), (b 5, .inl (k 0, 9, .inl (G 4))), (b 6, .inl (k 0, 12, .inl (G 5))), (b 7, .inl (k 0, 12, .inl (G 6)))]) := hD
          refine lv_iconst (v := 1) hx hb dX2_takeSecond_99 (by decide) ?_
          subst hQ
          exact rt_z hx hb hr hlocks hS dX2_takeSecond_100 (by rw [tsF, if_neg (by rw [c_2]; decide), if_neg (not_not_intro ((nI_ltI (a := f) (b := j) (by omega) (by omega)).mpr c_3)), if_pos c_4]; exact hP) (rfl) (by rw [tsF, if_neg (by rw [c_2]; decide), if_neg (not_not_intro ((nI_ltI (a := f) (b := j) (by omega) (by omega)).mpr c_3)), if_pos c_4]; rfl)
      · have c_3 : ¬ (f < j) := fun h9 => c_3 ((nI_ltI (a := f) (b := j) (by omega) (by omega)).mpr h9)
        refine lv_iconst (v := 0) hx hb dX2_takeSecond_25 (by decide) ?_
        subst hQ
        exact rt_z hx hb hr hlocks hS dX2_takeSecond_26 (by rw [tsF, if_neg (by rw [c_2]; decide), if_pos (fun h9 => c_3 ((nI_ltI (a := f) (b := j) (by omega) (by omega)).mp h9))]; exact hP) (rfl) (by rw [tsF, if_neg (by rw [c_2]; decide), if_pos (fun h9 => c_3 ((nI_ltI (a := f) (b := j) (by omega) (by omega)).mp h9))]; rfl)
