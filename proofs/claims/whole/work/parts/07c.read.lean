abbrev QS : Type := (Nat → Nat → Int32) × Int32 × (Int32 × Int32) × Int32
def tkQ (q : QS) (x : Int32) : PS := tkF q.1 q.2.1.toNatClampNeg q.2.2.1 q.2.2.2.toNatClampNeg x
theorem tkQ_n (G : Nat → Nat → Int32) {pl : Nat} (kd : Int32 × Int32) {f : Nat} (x : Int32) (hp : pl < 7) (hf : f < 9) : tkQ (G, nI pl, kd, nI f) x = tkF G pl kd f x := by
  show tkF G (nI pl).toNatClampNeg kd (nI f).toNatClampNeg x = _
  rw [nI_clamp (by omega), nI_clamp (by omega)]
/-- the characters from i on read; the place of the first wrong one, or the length -/
def rdL (cd : Nat → Int32) (ln : Nat) : Nat → Nat → QS → Int32 × QS
  | 0, _, q => (nI ln, q)
  | t + 1, i, q => if (tkQ q (cd i)).1 = true then rdL cd ln t (i + 1) (tkQ q (cd i)).2 else (nI i, (tkQ q (cd i)).2)
theorem rdL_s (cd : Nat → Int32) (ln : Nat) {i : Nat} (h : ¬ ln ≤ i) (q : QS) : rdL cd ln (ln - i) i q = if (tkQ q (cd i)).1 = true then rdL cd ln (ln - (i + 1)) (i + 1) (tkQ q (cd i)).2 else (nI i, (tkQ q (cd i)).2) := by
  rw [show ln - i = (ln - (i + 1)) + 1 from by omega, rdL]
def PQ (pl fs : Int32) : Prop := (∃ p, p < 7 ∧ pl = nI p) ∧ ∃ f, f < 9 ∧ fs = nI f
theorem tkF_ok (G : Nat → Nat → Int32) {pl : Nat} (kd : Int32 × Int32) {f : Nat} (x : Int32) (hp : pl < 7) (hf : f < 9) (h : (tkF G pl kd f x).1 = true) : PQ (tkF G pl kd f x).2.2.1 (tkF G pl kd f x).2.2.2.2 := by
  match pl, hp with
  | 0, _ => exact ⟨⟨1, by omega, rfl⟩, ⟨f, hf, rfl⟩⟩
  | 1, _ =>
    revert h
    show (tfF G 1 kd (nI f) (x - 48)).1 = true → PQ (tfF G 1 kd (nI f) (x - 48)).2.2.1 (tfF G 1 kd (nI f) (x - 48)).2.2.2.2
    unfold tfF
    by_cases hx : pcB (x - 48) = false
    · rw [if_pos hx]; intro h; cases h
    · obtain ⟨j, hj, e⟩ := pcB_ex (Bool.not_eq_false _ ▸ hx : pcB (x - 48) = true)
      rw [if_neg hx]
      split
      · intro _; exact ⟨⟨6, by omega, rfl⟩, ⟨j, hj, e⟩⟩
      · split
        · intro _; exact ⟨⟨6, by omega, rfl⟩, ⟨j, hj, e⟩⟩
        · split
          · intro _; exact ⟨⟨3, by omega, rfl⟩, ⟨j, hj, e⟩⟩
          · intro _; exact ⟨⟨2, by omega, rfl⟩, ⟨j, hj, e⟩⟩
  | 2, _ =>
    show PQ (tsF G 2 kd f (x - 48)).2.2.1 (tsF G 2 kd f (x - 48)).2.2.2.2
    unfold tsF
    split
    · exact ⟨⟨2, by omega, rfl⟩, ⟨f, hf, rfl⟩⟩
    · split
      · exact ⟨⟨2, by omega, rfl⟩, ⟨f, hf, rfl⟩⟩
      · split
        · exact ⟨⟨6, by omega, rfl⟩, ⟨f, hf, rfl⟩⟩
        · exact ⟨⟨6, by omega, rfl⟩, ⟨f, hf, rfl⟩⟩
  | 3, _ => exact ⟨⟨4, by omega, rfl⟩, ⟨f, hf, rfl⟩⟩
  | 4, _ =>
    show PQ (tdF G 5 kd f (x - 48)).2.2.1 (tdF G 5 kd f (x - 48)).2.2.2.2
    unfold tdF
    split
    · exact ⟨⟨5, by omega, rfl⟩, ⟨f, hf, rfl⟩⟩
    · split
      · exact ⟨⟨5, by omega, rfl⟩, ⟨f, hf, rfl⟩⟩
      · exact ⟨⟨5, by omega, rfl⟩, ⟨f, hf, rfl⟩⟩
  | 5, _ =>
    show PQ (if x = 59 then spF G kd (nI f) x else if cgB kd = true then tdF G 5 kd f (x - 48) else (false, G, 5, kd, nI f)).2.2.1 (if x = 59 then spF G kd (nI f) x else if cgB kd = true then tdF G 5 kd f (x - 48) else (false, G, 5, kd, nI f)).2.2.2.2
    split
    · exact ⟨⟨0, by omega, rfl⟩, ⟨f, hf, rfl⟩⟩
    · split
      · unfold tdF
        split
        · exact ⟨⟨5, by omega, rfl⟩, ⟨f, hf, rfl⟩⟩
        · split
          · exact ⟨⟨5, by omega, rfl⟩, ⟨f, hf, rfl⟩⟩
          · exact ⟨⟨5, by omega, rfl⟩, ⟨f, hf, rfl⟩⟩
      · exact ⟨⟨5, by omega, rfl⟩, ⟨f, hf, rfl⟩⟩
  | 6, _ => exact ⟨⟨0, by omega, rfl⟩, ⟨f, hf, rfl⟩⟩
/-- a State without a graph, its splitting as it was -/
def clS (G : Nat → Nat → Int32) : Nat → Nat → Int32 := mkS (fun _ => 0) (fun _ => 0) (fun _ => 0) (fun _ => 0) (G 4) (G 5) (G 6) (G 7)
def rdF (cd : Nat → Int32) (ln : Nat) (G : Nat → Nat → Int32) (kd : Int32 × Int32) (fs : Int32) : Int32 × QS := rdL cd ln ln 0 (clS G, 0, kd, fs)

set_option maxHeartbeats 1000000 in
set_option maxRecDepth 100000 in
theorem c_X2_read (l : Launch) (D : va_G) (k : Nat → ClassId) (t b : Nat → Nat) (cd : Nat → Int32) (ln : Nat) (G : Nat → Nat → Int32) (pl : Int32) (kd : Int32 × Int32) (fs : Int32) (hln : ln ≤ 60) (hfs : ∃ f, f < 9 ∧ fs = nI f) : MI l yX2_read wsX2_read ({ frames := 3, cells := 0, slots := 0, locals := 63 }) D k [.ref (t 0)] (wTx k t b cd (nI ln) G pl kd fs) ((rdF cd ln G kd fs).1) (wTx k t b cd (nI ln) (rdF cd ln G kd fs).2.1 (rdF cd ln G kd fs).2.2.1 (rdF cd ln G kd fs).2.2.2.1 (rdF cd ln G kd fs).2.2.2.2) := by
  intro sz
  refine Met.ofW (cc := cX2_read) (maxL := 2) (ret := (some .int)) (by decide) rfl ?_
  intro p e s m args below meth c s₁ B hml hv
  obtain ⟨rfl, hN, hsz, hP, hK, hD0⟩ := hv
  have hx := B.exec
  have hb := B.bytes
  have hr := B.returns
  have hts := atoms_spec (ws := wsX2_read) B.pre
  have hown : s.vm.findClass RX2 = some m.cls := findClass_of_methodNamed B.named
  have hlocks := B.notSynchronized
  subst hsz
  have hD := hD0.self (sz := s.heap.size)
  generalize hAe : va_A (wTx k t b cd (nI ln) G pl kd fs) s.heap.size = A at hD ⊢
  have hA : ∀ q : Nat, s.heap.size ≤ q → A q := fun q h => by rw [← hAe]; exact Or.inr h
  have hS : va_S A s.heap s.heap [] := va_S.rf
  have hl := lv_entry ([.ref (t 0)]) (n := 2) (Nat.le_of_ble_eq_true rfl)
  rw [lg_entry_eq]
  generalize (lg_sl ([.ref (t 0)]) ++ List.replicate (2 - (lg_sl ([.ref (t 0)])).length) Slot.unset).toArray = ls at hl ⊢
  have hl : lv_has ls 2 [(0, .ref (t 0))] := hl
  obtain ⟨H, hHe⟩ : ∃ H, H = s.heap := ⟨_, rfl⟩
  have hP : va_P D vwCl (wTx k t b cd (nI ln) G pl kd fs) H := by rw [hHe]; exact hP
  have hS : va_S A s.heap H [] := by rw [hHe]; exact hS
  rw [← hHe]
  refine absQ (fun Q hQ => ?_)
  refine lv_aload_n hx hb dX2_read_0 rfl (lv_at hl 0 rfl) ?_
  refine va_get (D := D) (ci := 2) (v := .ref (b 0)) (C := RX2) (T := TX2) (N := 7) hx hb hts (fun _ h9 => (List.mem_cons_of_mem _ (List.mem_append_left _ (List.mem_append_right _ h9)))) hown hK hP 0 rfl rfl 2 (by decide) (hts _ (List.mem_of_getElem? (i := 1) rfl)) (fun _ h9 => h9) rfl dX2_read_1 ?_
  have hPc : va_P D vwCl (wSt k b G) H := hP.sub [2, 3, 4, 5, 6, 7, 8, 9] rfl
  have hDc : va_D A (wSt k b G) := hD.sub [2, 3, 4, 5, 6, 7, 8, 9] (by decide +kernel) rfl
  refine cl_v (va_runV (As := []) (rest := []) ⟨hx, hb, hml, hown, hts⟩ (c_X1_clearGraph l D k b G H.size) (cwV 0 hts gX2_read_X1_clearGraph rfl rfl rfl (by decide +kernel) ⟨Nat.le_of_ble_eq_true rfl, Nat.le_of_ble_eq_true rfl⟩) ⟨pr_blind, va_recv hK hP (ci := 1) (q0 := 2) rfl rfl, pr_at hN hPc hK hDc⟩ rfl rfl hl.1 rfl (lv_room (Nat.le_of_ble_eq_true rfl)) dX2_read_4 ⟨Nat.le_of_ble_eq_true rfl, Nat.le_of_ble_eq_true rfl⟩) hP hD hS hA [2, 3, 4, 5, 6, 7, 8, 9] [0, 1] ([(t 0, .inr (2, [.ref (t 1), .int (nI ln), .ref (b 0), .int pl, .int kd.1, .int fs, .int kd.2])), (t 1, .inl (k 0, 60, .inl cd))]) [t 0, t 1, b 0, b 1, b 2, b 3, b 4, b 5, b 6, b 7] 10 rfl (wn := wTx k t b cd (nI ln) (clS G) pl kd fs) rfl rfl rfl rfl (by decide +kernel) rfl rfl (fun H locs hP hD hS => ?_)
  clear hPc hDc
  refine lv_aload_n hx hb dX2_read_7 rfl (lv_at hl 0 rfl) ?_
  refine lv_iconst (v := 0) hx hb dX2_read_8 (by decide) ?_
  refine va_put (D := D) (ci := 2) (v := .int 0) (ty := tyX2 3) (C := RX2) (T := TX2) (N := 7) hx hb hts (fun _ h9 => (List.mem_cons_of_mem _ (List.mem_append_left _ (List.mem_append_right _ h9)))) tyX2 tyX2_ok nmX2 hown hK hP hD hS 0 rfl rfl 3 (by decide) (hts _ (List.mem_of_getElem? (i := 2) rfl)) (fun _ h9 => h9) rfl (tyX2_ok 3 (by decide)) rfl rfl (Nat.le_of_ble_eq_true rfl) dX2_read_9 (fun H locs hP hD hS => ?_)
  have hP : va_P D vwCl ([(t 0, .inr (2, [.ref (t 1), .int (nI ln), .ref (b 0), .int 0, .int kd.1, .int fs, .int kd.2])), (t 1, .inl (k 0, 60, .inl cd)), (b 0, .inr (1, [.ref (b 1), .ref (b 2), .ref (b 3), .ref (b 4), .ref (b 5), .ref (b 6), .ref (b 7), .int ((clS G) 7 0), .int ((clS G) 7 1), .int ((clS G) 7 2)])), (b 1, .inl (k 0, 9, .inl ((clS G) 0))), (b 2, .inl (k 0, 9, .inl ((clS G) 1))), (b 3, .inl (k 0, 9, .inl ((clS G) 2))), (b 4, .inl (k 0, 9, .inl ((clS G) 3))), (b 5, .inl (k 0, 9, .inl ((clS G) 4))), (b 6, .inl (k 0, 12, .inl ((clS G) 5))), (b 7, .inl (k 0, 12, .inl ((clS G) 6)))]) H := hP
  have hD : va_D A ([(t 0, .inr (2, [.ref (t 1), .int (nI ln), .ref (b 0), .int 0, .int kd.1, .int fs, .int kd.2])), (t 1, .inl (k 0, 60, .inl cd)), (b 0, .inr (1, [.ref (b 1), .ref (b 2), .ref (b 3), .ref (b 4), .ref (b 5), .ref (b 6), .ref (b 7), .int ((clS G) 7 0), .int ((clS G) 7 1), .int ((clS G) 7 2)])), (b 1, .inl (k 0, 9, .inl ((clS G) 0))), (b 2, .inl (k 0, 9, .inl ((clS G) 1))), (b 3, .inl (k 0, 9, .inl ((clS G) 2))), (b 4, .inl (k 0, 9, .inl ((clS G) 3))), (b 5, .inl (k 0, 9, .inl ((clS G) 4))), (b 6, .inl (k 0, 12, .inl ((clS G) 5))), (b 7, .inl (k 0, 12, .inl ((clS G) 6)))]) := hD
  refine lv_iconst (v := 0) hx hb dX2_read_12 (by decide) ?_
  refine lv_istore_n (lv' := [(1, .int 0), (0, .ref (t 0))]) hx hb dX2_read_13 rfl hl (by decide) rfl (fun ls hl => ?_)
  suffices LOOP_i : ∀ (fu_i i : Nat) (G1 : Nat → Nat → Int32) (pl1 : Int32) (kd1 : Int32 × Int32) (fs1 : Int32), ln - i < fu_i → i ≤ ln → (rdL cd ln (ln - i) i (G1, pl1, kd1, fs1) = (rdF cd ln G kd fs)) → (PQ pl1 fs1) → ∀ (H : Heap) (locs : List Loc) (ls : Array Slot), va_P D vwCl (wTx k t b cd (nI ln) G1 pl1 kd1 fs1) H → va_D A (wTx k t b cd (nI ln) G1 pl1 kd1 fs1) → va_S A s.heap H locs → lv_has ls 2 [(1, .int (nI i)), (0, .ref (t 0))] → W p l e ({ frames := 3, cells := 0, slots := 0, locals := 63 } : Room) s m ([.ref (t 0)] : List Value).toArray below meth c H locs 0 0 Q (F0 m 14 ls []) from LOOP_i (ln + 1) 0 (clS G) 0 kd fs (by omega) (by omega)  (rfl) (⟨⟨0, by omega, rfl⟩, hfs⟩) _ _ _ hP hD hS (lv_sub hl [0, 1] rfl)
  clear hP hD hS hl hHe
  intro fu_i
  induction fu_i with
  | zero => intro i G1 pl1 kd1 fs1 hn_i; omega
  | succ fu_i ih_i =>
    intro i G1 pl1 kd1 fs1 hn_i hle_i  hv hok H locs ls hP hD hS hl
    refine lv_iload_n hx hb dX2_read_14 rfl (lv_at hl 0 rfl) ?_
    refine lv_aload_n hx hb dX2_read_15 rfl (lv_at hl 1 rfl) ?_
    refine va_get (D := D) (ci := 2) (v := .int (nI ln)) (C := RX2) (T := TX2) (N := 7) hx hb hts (fun _ h9 => (List.mem_cons_of_mem _ (List.mem_append_left _ (List.mem_append_right _ h9)))) hown hK hP 0 rfl rfl 1 (by decide) (hts _ (List.mem_of_getElem? (i := 3) rfl)) (fun _ h9 => h9) rfl dX2_read_16 ?_
    refine lv_icmp_ge (tgt := 49) hx hb dX2_read_19 (by decide) (fun c_1 => ?_) (fun c_1 => ?_)
    · have c_1 : ln ≤ i := (nI_leI (a := ln) (b := i) (by omega) (by omega)).mp c_1
      have hz_i : ln = i := by omega
      subst hz_i
      refine lv_aload_n hx hb dX2_read_49 rfl (lv_at hl 1 rfl) ?_
      refine va_get (D := D) (ci := 2) (v := .int (nI ln)) (C := RX2) (T := TX2) (N := 7) hx hb hts (fun _ h9 => (List.mem_cons_of_mem _ (List.mem_append_left _ (List.mem_append_right _ h9)))) hown hK hP 0 rfl rfl 1 (by decide) (hts _ (List.mem_of_getElem? (i := 3) rfl)) (fun _ h9 => h9) rfl dX2_read_50 ?_
      subst hQ
      exact rt_i hx hb hr hlocks hS dX2_read_53 (by have h9 := hv; rw [Nat.sub_self, rdL] at h9; rw [← h9]; exact hP) (by have h9 := hv; rw [Nat.sub_self, rdL] at h9; rw [← h9])
    · have c_1 : ¬ (ln ≤ i) := fun h9 => c_1 ((nI_leI (a := ln) (b := i) (by omega) (by omega)).mpr h9)
      refine lv_iload_n hx hb dX2_read_22 rfl (lv_at hl 0 rfl) ?_
      refine lv_bipush (v := 60) hx hb dX2_read_23 (by decide) ?_
      refine lv_icmp_ge (tgt := 49) hx hb dX2_read_25 (by decide) (fun c_2 => ?_) (fun c_2 => ?_)
      · have c_2 : 60 ≤ i := (nI_leI (a := 60) (b := i) (by omega) (by omega)).mp c_2
        exact absurd c_2 (by omega)
      · have c_2 : ¬ (60 ≤ i) := fun h9 => c_2 ((nI_leI (a := 60) (b := i) (by omega) (by omega)).mpr h9)
        refine lv_aload_n hx hb dX2_read_28 rfl (lv_at hl 1 rfl) ?_
        refine lv_aload_n hx hb dX2_read_29 rfl (lv_at hl 1 rfl) ?_
        refine va_get (D := D) (ci := 2) (v := .ref (t 1)) (C := RX2) (T := TX2) (N := 7) hx hb hts (fun _ h9 => (List.mem_cons_of_mem _ (List.mem_append_left _ (List.mem_append_right _ h9)))) hown hK hP 0 rfl rfl 0 (by decide) (hts _ (List.mem_of_getElem? (i := 4) rfl)) (fun _ h9 => h9) rfl dX2_read_30 ?_
        refine lv_iload_n hx hb dX2_read_33 rfl (lv_at hl 0 rfl) ?_
        refine ar_ld hx hb hK hP 1 rfl i (nI_clamp (by omega)) (vp_in_nI (by omega) (by omega)) dX2_read_34 ?_
        obtain ⟨⟨pl2, hpl2, rfl⟩, ⟨f2, hf2, rfl⟩⟩ := hok
        have hPc : va_P D vwCl (wTx k t b cd (nI ln) G1 (nI pl2) kd1 (nI f2)) H := hP.sub [0, 1, 2, 3, 4, 5, 6, 7, 8, 9] rfl
        have hDc : va_D A (wTx k t b cd (nI ln) G1 (nI pl2) kd1 (nI f2)) := hD.sub [0, 1, 2, 3, 4, 5, 6, 7, 8, 9] (by decide +kernel) rfl
        refine cl_i (va_runV (As := [.int (cd i)]) (rest := []) ⟨hx, hb, hml, hown, hts⟩ (c_X2_takeCode l D k t b cd (nI ln) G1 pl2 kd1 f2 (cd i) hpl2 hf2 H.size) (cwV 1 hts gX2_read_X2_takeCode rfl rfl rfl (by decide +kernel) ⟨Nat.le_of_ble_eq_true rfl, Nat.le_of_ble_eq_true rfl⟩) ⟨pr_blind, va_recv hK hP (ci := 2) (q0 := 0) rfl rfl, pr_at hN hPc hK hDc⟩ rfl rfl hl.1 rfl (lv_room (Nat.le_of_ble_eq_true rfl)) dX2_read_35 ⟨Nat.le_of_ble_eq_true rfl, Nat.le_of_ble_eq_true rfl⟩) hP hD hS hA [0, 1, 2, 3, 4, 5, 6, 7, 8, 9] [] ([]) [t 0, t 1, b 0, b 1, b 2, b 3, b 4, b 5, b 6, b 7] 10 rfl (wn := wTx k t b cd (nI ln) ((tkF G1 pl2 kd1 f2 (cd i)).2.1) ((tkF G1 pl2 kd1 f2 (cd i)).2.2.1) ((tkF G1 pl2 kd1 f2 (cd i)).2.2.2.1) ((tkF G1 pl2 kd1 f2 (cd i)).2.2.2.2)) rfl rfl rfl rfl (by decide +kernel) rfl rfl (fun H locs hP hD hS => ?_)
        clear hPc hDc
        refine lv_if_ne (tgt := 43) hx hb dX2_read_38 (by decide) (fun c_3 => ?_) (fun c_3 => ?_)
        · have c_3 := bI_ne.mp c_3
          refine lv_iinc (v := (nI (i + 1))) (lv' := [(1, .int (nI (i + 1))), (0, .ref (t 0))]) hx hb dX2_read_43 hl (k := 0) rfl (nI_1 i) (by decide) rfl (fun ls hl => ?_)
          refine lv_goto (tgt := 14) hx hb dX2_read_46 (by decide) ?_
          exact ih_i (i + 1) ((tkF G1 pl2 kd1 f2 (cd i)).2.1) ((tkF G1 pl2 kd1 f2 (cd i)).2.2.1) ((tkF G1 pl2 kd1 f2 (cd i)).2.2.2.1) ((tkF G1 pl2 kd1 f2 (cd i)).2.2.2.2) (by omega) (by omega)  (by have h9 := hv; rw [rdL_s _ _ c_1, tkQ_n _ _ _ hpl2 hf2, if_pos c_3] at h9; exact h9) (tkF_ok G1 kd1 (cd i) hpl2 hf2 c_3) _ _ _ hP hD hS (lv_sub hl [0, 1] rfl)
        · have c_3 := bI_eq.mp c_3
          refine lv_iload_n hx hb dX2_read_41 rfl (lv_at hl 0 rfl) ?_
          subst hQ
          exact rt_i hx hb hr hlocks hS dX2_read_42 (by have h9 := hv; rw [rdL_s _ _ c_1, tkQ_n _ _ _ hpl2 hf2, if_neg (by rw [c_3]; decide)] at h9; rw [← h9]; exact hP) (by have h9 := hv; rw [rdL_s _ _ c_1, tkQ_n _ _ _ hpl2 hf2, if_neg (by rw [c_3]; decide)] at h9; rw [← h9])
