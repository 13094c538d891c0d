/-- the characters of the buffer, in the digest of the class -/
def xbF (cd : Nat → Int32) (g : Int64) : Nat → Int64
  | 0 => g
  | i + 1 => mixF (xbF cd g i) (cd i).toInt64
/-- the numbers of the noted ways, in the digest of the class -/
def xgN (S : Nat → Nat → Int32) (nw : Nat) (g : Int64) : Nat → Int64
  | 0 => g
  | i + 1 => mixF (mixF (mixF (xgN S nw g i) (ntF S nw i (S 5 i)).toInt64) (ntF S nw i (S 6 i)).toInt64) (ntF S nw i (bcF (S 6 i))).toInt64

theorem c_X4_mixPieceL (l : Launch) (D : va_G) (k : Nat → ClassId) (d : Nat → Nat → Nat) (ns : Int32) (S : Nat → Nat → Int32) (V : Nat → Nat → Int32) (al op wf bh ah : Nat → Int32) (tr : Int32) (g0 : Int64) (q : Nat) (hq : q < 9) : ML l yX4_mixPiece wsX4_mixPiece ({ frames := 14, cells := 0, slots := 0, locals := 469 }) D k [.ref (d 0 0), .long g0, .int (nI q)] (wXo d ns ++ (wSt k (d 1) S ++ (wWays k (d 8) (d 9) (lsS V S) (lsA V S al) (lsO V S op) wf ++ (wRw k (d 10) bh ah tr)))) (mxP S (lsS V S) (lsA V S al) q g0) (wXo d ns ++ (wSt k (d 1) S ++ (wWays k (d 8) (d 9) (lsS V S) (lsA V S al) (lsO V S op) wf ++ wRw k (d 10) (bhG (S 2)) ah tr))) := by
  have h := c_X4_mixPiece l D k d ns S (lsS V S) (lsA V S al) (lsO V S op) wf bh ah tr g0 q hq
  simp only [lsS_i, lsA_i, lsO_i] at h
  exact h

set_option maxHeartbeats 1000000 in
set_option maxRecDepth 100000 in
theorem c_X4_mixBuffer (l : Launch) (D : va_G) (k : Nat → ClassId) (d : Nat → Nat → Nat) (ns : Int32) (cd : Nat → Int32) (ln : Nat) (G : Nat → Nat → Int32) (pl : Int32) (kd : Int32 × Int32) (fs : Int32) (g0 : Int64) (hln : ln ≤ 60) : ML l yX4_mixBuffer wsX4_mixBuffer ({ frames := 1, cells := 0, slots := 0, locals := 23 }) D k [.ref (d 0 0), .long g0] (wXo d ns ++ (wTx k (d 6) (d 7) cd (nI ln) G pl kd fs)) (xbF cd (mixF g0 (nI ln).toInt64) ln) (wXo d ns ++ (wTx k (d 6) (d 7) cd (nI ln) G pl kd fs)) := by
  intro sz
  refine Met.ofW (cc := cX4_mixBuffer) (maxL := 6) (ret := (some .long)) (by decide) rfl ?_
  intro p e s m args below meth c s₁ B hml hv
  obtain ⟨rfl, hN, hsz, hP, hK, hD0⟩ := hv
  have hx := B.exec
  have hb := B.bytes
  have hr := B.returns
  have hts := atoms_spec (ws := wsX4_mixBuffer) B.pre
  have hown : s.vm.findClass RX4 = some m.cls := findClass_of_methodNamed B.named
  have hlocks := B.notSynchronized
  subst hsz
  have hD := hD0.self (sz := s.heap.size)
  generalize hAe : va_A (wXo d ns ++ (wTx k (d 6) (d 7) cd (nI ln) G pl kd fs)) s.heap.size = A at hD ⊢
  have hA : ∀ q : Nat, s.heap.size ≤ q → A q := fun q h => by rw [← hAe]; exact Or.inr h
  have hS : va_S A s.heap s.heap [] := va_S.rf
  have hl := lv_entry ([.ref (d 0 0), .long g0]) (n := 6) (Nat.le_of_ble_eq_true rfl)
  rw [lg_entry_eq]
  generalize (lg_sl ([.ref (d 0 0), .long g0]) ++ List.replicate (6 - (lg_sl ([.ref (d 0 0), .long g0])).length) Slot.unset).toArray = ls at hl ⊢
  have hl : lv_has ls 6 [(0, .ref (d 0 0)), (1, .long g0)] := hl
  obtain ⟨H, hHe⟩ : ∃ H, H = s.heap := ⟨_, rfl⟩
  have hP : va_P D vwCl (wXo d ns ++ (wTx k (d 6) (d 7) cd (nI ln) G pl kd fs)) H := by rw [hHe]; exact hP
  have hS : va_S A s.heap H [] := by rw [hHe]; exact hS
  rw [← hHe]
  refine absQ (fun Q hQ => ?_)
  refine lv_lload_n hx hb dX4_mixBuffer_0 rfl (lv_at hl 1 rfl) ?_
  refine lv_aload_n hx hb dX4_mixBuffer_1 rfl (lv_at hl 0 rfl) ?_
  refine va_get (D := D) (ci := 4) (v := .ref (d 6 0)) (C := RX4) (T := TX4) (N := 9) hx hb hts (fun _ h9 => (List.mem_cons_of_mem _ (List.mem_append_left _ (List.mem_append_right _ h9)))) hown hK hP 0 rfl rfl 6 (by decide) (hts _ (List.mem_of_getElem? (i := 1) rfl)) (fun _ h9 => h9) rfl dX4_mixBuffer_2 ?_
  refine va_get (D := D) (ci := 2) (v := .int (nI ln)) (C := RX2) (T := TX2) (N := 7) hx hb hts (fun _ h9 => (List.mem_cons_of_mem _ (List.mem_append_right _ h9))) hown hK hP 1 rfl rfl 1 (by decide) (hts _ (List.mem_of_getElem? (i := 2) rfl)) (fun _ h9 => h9) rfl dX4_mixBuffer_5 ?_
  refine lv_i2l hx hb dX4_mixBuffer_8 rfl ?_
  have hPc : va_P D vwCl ([]) H := hP.sub [] rfl
  have hDc : va_D A ([]) := hD.sub [] (by decide +kernel) rfl
  refine cl_l0 (va_runS (As := [.long g0, .long (((nI ln)).toInt64)]) (rest := []) ⟨hx, hb, hml, hown, hts⟩ (c_X4_mix l D k g0 (((nI ln)).toInt64) H.size) (va_cwS 2 hts gX4_mixBuffer_X4_mix rfl rfl rfl (by decide +kernel) ⟨Nat.le_of_ble_eq_true rfl, Nat.le_of_ble_eq_true rfl⟩) ⟨pr_blind, pr_at hN hPc hK hDc⟩ rfl rfl hl.1 rfl (lv_room (Nat.le_of_ble_eq_true rfl)) dX4_mixBuffer_9 ⟨Nat.le_of_ble_eq_true rfl, Nat.le_of_ble_eq_true rfl⟩) hP hD hS hA [] rfl (fun H locs hP hD hS => ?_)
  clear hPc hDc
  refine lv_lstore_n (lv' := [(3, .long (mixF g0 (((nI ln)).toInt64))), (0, .ref (d 0 0)), (1, .long g0)]) hx hb dX4_mixBuffer_12 rfl hl (by decide) rfl (fun ls hl => ?_)
  refine lv_iconst (v := 0) hx hb dX4_mixBuffer_13 (by decide) ?_
  refine lv_istore (lv' := [(5, .int 0), (3, .long (mixF g0 (((nI ln)).toInt64))), (0, .ref (d 0 0)), (1, .long g0)]) hx hb dX4_mixBuffer_14 hl (by decide) rfl (fun ls hl => ?_)
  suffices LOOP_i : ∀ (fu_i i : Nat) (y1 : Int64), ln - i < fu_i → i ≤ ln → y1 = xbF cd (mixF g0 (nI ln).toInt64) i → ∀ (H : Heap) (locs : List Loc) (ls : Array Slot), va_P D vwCl (wXo d ns ++ (wTx k (d 6) (d 7) cd (nI ln) G pl kd fs)) H → va_D A (wXo d ns ++ (wTx k (d 6) (d 7) cd (nI ln) G pl kd fs)) → va_S A s.heap H locs → lv_has ls 6 [(5, .int (nI i)), (3, .long y1), (0, .ref (d 0 0)), (1, .long g0)] → W p l e ({ frames := 1, cells := 0, slots := 0, locals := 23 } : Room) s m ([.ref (d 0 0), .long g0] : List Value).toArray below meth c H locs 0 0 Q (F0 m 16 ls []) from LOOP_i (ln + 1) 0 (mixF g0 (((nI ln)).toInt64)) (by omega) (by omega) (rfl)  _ _ _ hP hD hS (lv_sub hl [0, 1, 2, 3] rfl)
  clear hP hD hS hl hHe
  intro fu_i
  induction fu_i with
  | zero => intro i y1 hn_i; omega
  | succ fu_i ih_i =>
    intro i y1 hn_i hle_i e_y1  H locs ls hP hD hS hl
    refine lv_iload hx hb dX4_mixBuffer_16 (lv_at hl 0 rfl) ?_
    refine lv_aload_n hx hb dX4_mixBuffer_18 rfl (lv_at hl 2 rfl) ?_
    refine va_get (D := D) (ci := 4) (v := .ref (d 6 0)) (C := RX4) (T := TX4) (N := 9) hx hb hts (fun _ h9 => (List.mem_cons_of_mem _ (List.mem_append_left _ (List.mem_append_right _ h9)))) hown hK hP 0 rfl rfl 6 (by decide) (hts _ (List.mem_of_getElem? (i := 1) rfl)) (fun _ h9 => h9) rfl dX4_mixBuffer_19 ?_
    refine va_get (D := D) (ci := 2) (v := .int (nI ln)) (C := RX2) (T := TX2) (N := 7) hx hb hts (fun _ h9 => (List.mem_cons_of_mem _ (List.mem_append_right _ h9))) hown hK hP 1 rfl rfl 1 (by decide) (hts _ (List.mem_of_getElem? (i := 2) rfl)) (fun _ h9 => h9) rfl dX4_mixBuffer_22 ?_
    refine lv_icmp_ge (tgt := 57) hx hb dX4_mixBuffer_25 (by decide) (fun c_1 => ?_) (fun c_1 => ?_)
    · have c_1 : ln ≤ i := (nI_leI (a := ln) (b := i) (by omega) (by omega)).mp c_1
      have hz_i : ln = i := by omega
      subst hz_i
      subst e_y1
      refine lv_lload_n hx hb dX4_mixBuffer_57 rfl (lv_at hl 1 rfl) ?_
      subst hQ
      exact rt_l hx hb hr hlocks hS dX4_mixBuffer_58 (hP) (rfl)
    · have c_1 : ¬ (ln ≤ i) := fun h9 => c_1 ((nI_leI (a := ln) (b := i) (by omega) (by omega)).mpr h9)
      refine lv_iload hx hb dX4_mixBuffer_28 (lv_at hl 0 rfl) ?_
      refine lv_bipush (v := 60) hx hb dX4_mixBuffer_30 (by decide) ?_
      refine lv_icmp_ge (tgt := 57) hx hb dX4_mixBuffer_32 (by decide) (fun c_2 => ?_) (fun c_2 => ?_)
      · have c_2 : 60 ≤ i := (nI_leI (a := 60) (b := i) (by omega) (by omega)).mp c_2
        exact absurd c_2 (by omega)
      · have c_2 : ¬ (60 ≤ i) := fun h9 => c_2 ((nI_leI (a := 60) (b := i) (by omega) (by omega)).mpr h9)
        refine lv_lload_n hx hb dX4_mixBuffer_35 rfl (lv_at hl 1 rfl) ?_
        refine lv_aload_n hx hb dX4_mixBuffer_36 rfl (lv_at hl 2 rfl) ?_
        refine va_get (D := D) (ci := 4) (v := .ref (d 6 0)) (C := RX4) (T := TX4) (N := 9) hx hb hts (fun _ h9 => (List.mem_cons_of_mem _ (List.mem_append_left _ (List.mem_append_right _ h9)))) hown hK hP 0 rfl rfl 6 (by decide) (hts _ (List.mem_of_getElem? (i := 1) rfl)) (fun _ h9 => h9) rfl dX4_mixBuffer_37 ?_
        refine va_get (D := D) (ci := 2) (v := .ref (d 6 1)) (C := RX2) (T := TX2) (N := 7) hx hb hts (fun _ h9 => (List.mem_cons_of_mem _ (List.mem_append_right _ h9))) hown hK hP 1 rfl rfl 0 (by decide) (hts _ (List.mem_of_getElem? (i := 3) rfl)) (fun _ h9 => h9) rfl dX4_mixBuffer_40 ?_
        refine lv_iload hx hb dX4_mixBuffer_43 (lv_at hl 0 rfl) ?_
        refine ar_ld hx hb hK hP 2 rfl i (nI_clamp (by omega)) (vp_in_nI (by omega) (by omega)) dX4_mixBuffer_45 ?_
        refine lv_i2l hx hb dX4_mixBuffer_46 rfl ?_
        have hPc : va_P D vwCl ([]) H := hP.sub [] rfl
        have hDc : va_D A ([]) := hD.sub [] (by decide +kernel) rfl
        refine cl_l0 (va_runS (As := [.long y1, .long (((cd i)).toInt64)]) (rest := []) ⟨hx, hb, hml, hown, hts⟩ (c_X4_mix l D k y1 (((cd i)).toInt64) H.size) (va_cwS 2 hts gX4_mixBuffer_X4_mix rfl rfl rfl (by decide +kernel) ⟨Nat.le_of_ble_eq_true rfl, Nat.le_of_ble_eq_true rfl⟩) ⟨pr_blind, pr_at hN hPc hK hDc⟩ rfl rfl hl.1 rfl (lv_room (Nat.le_of_ble_eq_true rfl)) dX4_mixBuffer_47 ⟨Nat.le_of_ble_eq_true rfl, Nat.le_of_ble_eq_true rfl⟩) hP hD hS hA [] rfl (fun H locs hP hD hS => ?_)
        clear hPc hDc
        refine lv_lstore_n (lv' := [(3, .long (mixF y1 (((cd i)).toInt64))), (5, .int (nI i)), (0, .ref (d 0 0)), (1, .long g0)]) hx hb dX4_mixBuffer_50 rfl hl (by decide) rfl (fun ls hl => ?_)
        refine lv_iinc (v := (nI (i + 1))) (lv' := [(5, .int (nI (i + 1))), (3, .long (mixF y1 (((cd i)).toInt64))), (0, .ref (d 0 0)), (1, .long g0)]) hx hb dX4_mixBuffer_51 hl (k := 1) rfl (nI_1 i) (by decide) rfl (fun ls hl => ?_)
        refine lv_goto (tgt := 16) hx hb dX4_mixBuffer_54 (by decide) ?_
        exact ih_i (i + 1) (mixF y1 (((cd i)).toInt64)) (by omega) (by omega) (by rw [e_y1]; rfl)  _ _ _ hP hD hS (lv_sub hl [0, 1, 2, 3] rfl)
