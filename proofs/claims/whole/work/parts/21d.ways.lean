/-- ways, or open ones, among the sets 1 .. t, that have some pieces -/
def wyF (f : Nat → Int32) (pm : Int32) (b : Bool) : Nat → Int32
  | 0 => 0
  | t + 1 => wyF f pm b t + (if nI (t + 1) &&& pm = pm then bI (if b = true then ioB f (nI (t + 1)) else iwB f (nI (t + 1))) else 0)
theorem wyF_s (f : Nat → Int32) (pm : Int32) (b : Bool) {i : Nat} (h : 1 ≤ i) : wyF f pm b (i + 1 - 1) = wyF f pm b (i - 1) + (if nI i &&& pm = pm then bI (if b = true then ioB f (nI i) else iwB f (nI i)) else 0) := by
  obtain ⟨t, rfl⟩ : ∃ t, i = t + 1 := ⟨i - 1, by omega⟩
  rfl

set_option maxHeartbeats 1000000 in
set_option maxRecDepth 100000 in
theorem c_X5_ways (l : Launch) (D : va_G) (k : Nat → ClassId) (h : Nat → Nat) (th : Int32) (f asd sl kp sv : Nat → Int32) (sm : Int32) (tx : Nat → Int32) (ln : Int32) (dg : Int64) (pm : Int32) (b : Bool)  : MI l yX5_ways wsX5_ways ({ frames := 2, cells := 0, slots := 0, locals := 47 }) D k [.ref (h 0), .int pm, .int (bI b)] (wMo k h th f asd sl kp sv sm tx ln dg) (wyF f pm b 511) (wMo k h th f asd sl kp sv sm tx ln dg) := by
  intro sz
  refine Met.ofW (cc := cX5_ways) (maxL := 5) (ret := (some .int)) (by decide) rfl ?_
  intro p e s m args below meth c s₁ B hml hv
  obtain ⟨rfl, hN, hsz, hP, hK, hD0⟩ := hv
  have hx := B.exec
  have hb := B.bytes
  have hr := B.returns
  have hts := atoms_spec (ws := wsX5_ways) B.pre
  have hown : s.vm.findClass RX5 = some m.cls := findClass_of_methodNamed B.named
  have hlocks := B.notSynchronized
  subst hsz
  have hD := hD0.self (sz := s.heap.size)
  generalize hAe : va_A (wMo k h th f asd sl kp sv sm tx ln dg) s.heap.size = A at hD ⊢
  have hA : ∀ q : Nat, s.heap.size ≤ q → A q := fun q h => by rw [← hAe]; exact Or.inr h
  have hS : va_S A s.heap s.heap [] := va_S.rf
  have hl := lv_entry ([.ref (h 0), .int pm, .int (bI b)]) (n := 5) (Nat.le_of_ble_eq_true rfl)
  rw [lg_entry_eq]
  generalize (lg_sl ([.ref (h 0), .int pm, .int (bI b)]) ++ List.replicate (5 - (lg_sl ([.ref (h 0), .int pm, .int (bI b)])).length) Slot.unset).toArray = ls at hl ⊢
  have hl : lv_has ls 5 [(0, .ref (h 0)), (1, .int pm), (2, .int (bI b))] := hl
  obtain ⟨H, hHe⟩ : ∃ H, H = s.heap := ⟨_, rfl⟩
  have hP : va_P D vwCl (wMo k h th f asd sl kp sv sm tx ln dg) H := by rw [hHe]; exact hP
  have hS : va_S A s.heap H [] := by rw [hHe]; exact hS
  rw [← hHe]
  refine absQ (fun Q hQ => ?_)
  refine lv_iconst (v := 0) hx hb dX5_ways_0 (by decide) ?_
  refine lv_istore_n (lv' := [(3, .int 0), (0, .ref (h 0)), (1, .int pm), (2, .int (bI b))]) hx hb dX5_ways_1 rfl hl (by decide) rfl (fun ls hl => ?_)
  refine lv_iconst (v := 1) hx hb dX5_ways_2 (by decide) ?_
  refine lv_istore (lv' := [(4, .int 1), (3, .int 0), (0, .ref (h 0)), (1, .int pm), (2, .int (bI b))]) hx hb dX5_ways_3 hl (by decide) rfl (fun ls hl => ?_)
  suffices LOOP_i : ∀ (fu_i i : Nat) (w : Int32), 512 - i < fu_i → i ≤ 512 → w = wyF f pm b (i - 1) → (1 ≤ i) → ∀ (H : Heap) (locs : List Loc) (ls : Array Slot), va_P D vwCl (wMo k h th f asd sl kp sv sm tx ln dg) H → va_D A (wMo k h th f asd sl kp sv sm tx ln dg) → va_S A s.heap H locs → lv_has ls 5 [(4, .int (nI i)), (3, .int w), (0, .ref (h 0)), (1, .int pm), (2, .int (bI b))] → W p l e ({ frames := 2, cells := 0, slots := 0, locals := 47 } : Room) s m ([.ref (h 0), .int pm, .int (bI b)] : List Value).toArray below meth c H locs 0 0 Q (F0 m 5 ls []) from LOOP_i (512 + 1) 1 0 (by omega) (by omega) (rfl) (by omega) _ _ _ hP hD hS (lv_sub hl [0, 1, 2, 3, 4] rfl)
  clear hP hD hS hl hHe
  intro fu_i
  induction fu_i with
  | zero => intro i w hn_i; omega
  | succ fu_i ih_i =>
    intro i w hn_i hle_i e_w hlo_i H locs ls hP hD hS hl
    refine lv_iload hx hb dX5_ways_5 (lv_at hl 0 rfl) ?_
    refine lv_sipush (v := 511) hx hb dX5_ways_7 (by decide) ?_
    refine lv_icmp_gt (tgt := 60) hx hb dX5_ways_10 (by decide) (fun c_1 => ?_) (fun c_1 => ?_)
    · have c_1 : 511 < i := (nI_ltI (a := 511) (b := i) (by omega) (by omega)).mp c_1
      have hz_i : 512 = i := by omega
      subst hz_i
      refine lv_iload_n hx hb dX5_ways_60 rfl (lv_at hl 1 rfl) ?_
      subst hQ
      exact rt_i hx hb hr hlocks hS dX5_ways_61 (hP) (e_w)
    · have c_1 : ¬ (511 < i) := fun h9 => c_1 ((nI_ltI (a := 511) (b := i) (by omega) (by omega)).mpr h9)
      refine lv_iload_n hx hb dX5_ways_13 rfl (lv_at hl 1 rfl) ?_
      refine lv_iload hx hb dX5_ways_14 (lv_at hl 0 rfl) ?_
      refine lv_iload_n hx hb dX5_ways_16 rfl (lv_at hl 3 rfl) ?_
      refine lv_iand hx hb dX5_ways_17 ?_
      refine lv_iload_n hx hb dX5_ways_18 rfl (lv_at hl 3 rfl) ?_
      refine lv_icmp_ne (tgt := 51) hx hb dX5_ways_19 (by decide) (fun c_2 => ?_) (fun c_2 => ?_)
      · refine lv_iconst (v := 0) hx hb dX5_ways_51 (by decide) ?_
        refine lv_iadd hx hb dX5_ways_52 ?_
        refine lv_istore_n (lv' := [(3, .int (w + 0)), (4, .int (nI i)), (0, .ref (h 0)), (1, .int pm), (2, .int (bI b))]) hx hb dX5_ways_53 rfl hl (by decide) rfl (fun ls hl => ?_)
        refine lv_iinc (v := (nI (i + 1))) (lv' := [(4, .int (nI (i + 1))), (3, .int (w + 0)), (0, .ref (h 0)), (1, .int pm), (2, .int (bI b))]) hx hb dX5_ways_54 hl (k := 1) rfl (nI_1 i) (by decide) rfl (fun ls hl => ?_)
        refine lv_goto (tgt := 5) hx hb dX5_ways_57 (by decide) ?_
        exact ih_i (i + 1) (w + 0) (by omega) (by omega) (by rw [wyF_s _ _ _ (show 1 ≤ i from by omega), ← e_w, if_neg c_2]) (by omega) _ _ _ hP hD hS (lv_sub hl [0, 1, 2, 3, 4] rfl)
      · refine lv_iload_n hx hb dX5_ways_22 rfl (lv_at hl 4 rfl) ?_
        refine lv_if_eq (tgt := 38) hx hb dX5_ways_23 (by decide) (fun c_3 => ?_) (fun c_3 => ?_)
        · have c_3 := bI_eq.mp c_3
          refine lv_aload_n hx hb dX5_ways_38 rfl (lv_at hl 2 rfl) ?_
          refine lv_iload hx hb dX5_ways_39 (lv_at hl 0 rfl) ?_
          have hPc : va_P D vwCl (wMo k h th f asd sl kp sv sm tx ln dg) H := hP.sub [0, 1, 2, 3, 4, 5, 6] rfl
          have hDc : va_D A (wMo k h th f asd sl kp sv sm tx ln dg) := hD.sub [0, 1, 2, 3, 4, 5, 6] (by decide +kernel) rfl
          refine cl_i0 (va_runV (As := [.int (nI i)]) (rest := [.int w]) ⟨hx, hb, hml, hown, hts⟩ (c_X5_isWay l D k h th f asd sl kp sv sm tx ln dg (nI i) H.size) (cwV 1 hts gX5_ways_X5_isWay rfl rfl rfl (by decide +kernel) ⟨Nat.le_of_ble_eq_true rfl, Nat.le_of_ble_eq_true rfl⟩) ⟨pr_blind, va_recv hK hP (ci := 5) (q0 := 0) rfl rfl, pr_at hN hPc hK hDc⟩ rfl rfl hl.1 rfl (lv_room (Nat.le_of_ble_eq_true rfl)) dX5_ways_41 ⟨Nat.le_of_ble_eq_true rfl, Nat.le_of_ble_eq_true rfl⟩) hP hD hS hA [0, 1, 2, 3, 4, 5, 6] rfl (fun H locs hP hD hS => ?_)
          clear hPc hDc
          refine lv_if_eq (tgt := 51) hx hb dX5_ways_44 (by decide) (fun c_4 => ?_) (fun c_4 => ?_)
          · have c_4 := bI_eq.mp c_4
            refine lv_iconst (v := 0) hx hb dX5_ways_51 (by decide) ?_
            refine lv_iadd hx hb dX5_ways_52 ?_
            refine lv_istore_n (lv' := [(3, .int (w + 0)), (4, .int (nI i)), (0, .ref (h 0)), (1, .int pm), (2, .int (bI b))]) hx hb dX5_ways_53 rfl hl (by decide) rfl (fun ls hl => ?_)
            refine lv_iinc (v := (nI (i + 1))) (lv' := [(4, .int (nI (i + 1))), (3, .int (w + 0)), (0, .ref (h 0)), (1, .int pm), (2, .int (bI b))]) hx hb dX5_ways_54 hl (k := 1) rfl (nI_1 i) (by decide) rfl (fun ls hl => ?_)
            refine lv_goto (tgt := 5) hx hb dX5_ways_57 (by decide) ?_
            exact ih_i (i + 1) (w + 0) (by omega) (by omega) (by rw [wyF_s _ _ _ (show 1 ≤ i from by omega), ← e_w, if_pos c_2, if_neg (by rw [c_3]; decide), c_4]; rfl) (by omega) _ _ _ hP hD hS (lv_sub hl [0, 1, 2, 3, 4] rfl)
          · have c_4 := bI_ne.mp c_4
            refine lv_iconst (v := 1) hx hb dX5_ways_47 (by decide) ?_
            refine lv_goto (tgt := 52) hx hb dX5_ways_48 (by decide) ?_
            refine lv_iadd hx hb dX5_ways_52 ?_
            refine lv_istore_n (lv' := [(3, .int (w + 1)), (4, .int (nI i)), (0, .ref (h 0)), (1, .int pm), (2, .int (bI b))]) hx hb dX5_ways_53 rfl hl (by decide) rfl (fun ls hl => ?_)
            refine lv_iinc (v := (nI (i + 1))) (lv' := [(4, .int (nI (i + 1))), (3, .int (w + 1)), (0, .ref (h 0)), (1, .int pm), (2, .int (bI b))]) hx hb dX5_ways_54 hl (k := 1) rfl (nI_1 i) (by decide) rfl (fun ls hl => ?_)
            refine lv_goto (tgt := 5) hx hb dX5_ways_57 (by decide) ?_
            exact ih_i (i + 1) (w + 1) (by omega) (by omega) (by rw [wyF_s _ _ _ (show 1 ≤ i from by omega), ← e_w, if_pos c_2, if_neg (by rw [c_3]; decide), c_4]; rfl) (by omega) _ _ _ hP hD hS (lv_sub hl [0, 1, 2, 3, 4] rfl)
        · have c_3 := bI_ne.mp c_3
          refine lv_aload_n hx hb dX5_ways_26 rfl (lv_at hl 2 rfl) ?_
          refine lv_iload hx hb dX5_ways_27 (lv_at hl 0 rfl) ?_
          have hPc : va_P D vwCl (wMo k h th f asd sl kp sv sm tx ln dg) H := hP.sub [0, 1, 2, 3, 4, 5, 6] rfl
          have hDc : va_D A (wMo k h th f asd sl kp sv sm tx ln dg) := hD.sub [0, 1, 2, 3, 4, 5, 6] (by decide +kernel) rfl
          refine cl_i0 (va_runV (As := [.int (nI i)]) (rest := [.int w]) ⟨hx, hb, hml, hown, hts⟩ (c_X5_isOpen l D k h th f asd sl kp sv sm tx ln dg (nI i) H.size) (cwV 1 hts gX5_ways_X5_isOpen rfl rfl rfl (by decide +kernel) ⟨Nat.le_of_ble_eq_true rfl, Nat.le_of_ble_eq_true rfl⟩) ⟨pr_blind, va_recv hK hP (ci := 5) (q0 := 0) rfl rfl, pr_at hN hPc hK hDc⟩ rfl rfl hl.1 rfl (lv_room (Nat.le_of_ble_eq_true rfl)) dX5_ways_29 ⟨Nat.le_of_ble_eq_true rfl, Nat.le_of_ble_eq_true rfl⟩) hP hD hS hA [0, 1, 2, 3, 4, 5, 6] rfl (fun H locs hP hD hS => ?_)
          clear hPc hDc
          refine lv_if_eq (tgt := 51) hx hb dX5_ways_32 (by decide) (fun c_5 => ?_) (fun c_5 => ?_)
          · have c_5 := bI_eq.mp c_5
            refine lv_iconst (v := 0) hx hb dX5_ways_51 (by decide) ?_
            refine lv_iadd hx hb dX5_ways_52 ?_
            refine lv_istore_n (lv' := [(3, .int (w + 0)), (4, .int (nI i)), (0, .ref (h 0)), (1, .int pm), (2, .int (bI b))]) hx hb dX5_ways_53 rfl hl (by decide) rfl (fun ls hl => ?_)
            refine lv_iinc (v := (nI (i + 1))) (lv' := [(4, .int (nI (i + 1))), (3, .int (w + 0)), (0, .ref (h 0)), (1, .int pm), (2, .int (bI b))]) hx hb dX5_ways_54 hl (k := 1) rfl (nI_1 i) (by decide) rfl (fun ls hl => ?_)
            refine lv_goto (tgt := 5) hx hb dX5_ways_57 (by decide) ?_
            exact ih_i (i + 1) (w + 0) (by omega) (by omega) (by rw [wyF_s _ _ _ (show 1 ≤ i from by omega), ← e_w, if_pos c_2, if_pos c_3, c_5]; rfl) (by omega) _ _ _ hP hD hS (lv_sub hl [0, 1, 2, 3, 4] rfl)
          · have c_5 := bI_ne.mp c_5
            refine lv_goto (tgt := 47) hx hb dX5_ways_35 (by decide) ?_
            refine lv_iconst (v := 1) hx hb dX5_ways_47 (by decide) ?_
            refine lv_goto (tgt := 52) hx hb dX5_ways_48 (by decide) ?_
            refine lv_iadd hx hb dX5_ways_52 ?_
            refine lv_istore_n (lv' := [(3, .int (w + 1)), (4, .int (nI i)), (0, .ref (h 0)), (1, .int pm), (2, .int (bI b))]) hx hb dX5_ways_53 rfl hl (by decide) rfl (fun ls hl => ?_)
            refine lv_iinc (v := (nI (i + 1))) (lv' := [(4, .int (nI (i + 1))), (3, .int (w + 1)), (0, .ref (h 0)), (1, .int pm), (2, .int (bI b))]) hx hb dX5_ways_54 hl (k := 1) rfl (nI_1 i) (by decide) rfl (fun ls hl => ?_)
            refine lv_goto (tgt := 5) hx hb dX5_ways_57 (by decide) ?_
            exact ih_i (i + 1) (w + 1) (by omega) (by omega) (by rw [wyF_s _ _ _ (show 1 ≤ i from by omega), ← e_w, if_pos c_2, if_pos c_3, c_5]; rfl) (by omega) _ _ _ hP hD hS (lv_sub hl [0, 1, 2, 3, 4] rfl)
