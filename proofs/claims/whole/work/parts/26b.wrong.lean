/-- the first wrong place, or -1: what is read from place i on -/
def wrM (tx : Nat → Int32) (ln i : Nat) : Int32 :=
  if bpM tx ln i < 0 then -1 - bpM tx ln i else
  if h : i < (bpM tx ln i).toNatClampNeg ∧ (bpM tx ln i).toNatClampNeg < ln then (if tx (bpM tx ln i).toNatClampNeg = 59 then wrM tx ln ((bpM tx ln i).toNatClampNeg + 1) else nI (bpM tx ln i).toNatClampNeg) else -1
termination_by ln - i
decreasing_by omega
theorem wrM_0 {tx : Nat → Int32} {ln i : Nat} (h : bpM tx ln i < 0) : wrM tx ln i = -1 - bpM tx ln i := by rw [wrM, if_pos h]
theorem wrM_n {tx : Nat → Int32} {ln i z : Nat} (hz : z < 2 ^ 31) (h : bpM tx ln i = nI z) : wrM tx ln i = if i < z ∧ z < ln then (if tx z = 59 then wrM tx ln (z + 1) else nI z) else -1 := by
  rw [wrM, if_neg (by rw [h]; exact nI_pos hz)]
  have e : (bpM tx ln i).toNatClampNeg = z := by rw [h]; exact nI_clamp hz
  rw [e]
  by_cases h9 : i < z ∧ z < ln
  · rw [dif_pos h9, if_pos h9]
  · rw [dif_neg h9, if_neg h9]
theorem wrM_1 {tx : Nat → Int32} {ln i z : Nat} (hz : z < 2 ^ 31) (h : bpM tx ln i = nI z) (h1 : i < z) (h2 : z < ln) (h3 : tx z = 59) : wrM tx ln i = wrM tx ln (z + 1) := by rw [wrM_n hz h, if_pos ⟨h1, h2⟩, if_pos h3]
theorem wrM_2 {tx : Nat → Int32} {ln i z : Nat} (hz : z < 2 ^ 31) (h : bpM tx ln i = nI z) (h1 : i < z) (h2 : z < ln) (h3 : ¬ tx z = 59) : wrM tx ln i = nI z := by rw [wrM_n hz h, if_pos ⟨h1, h2⟩, if_neg h3]
theorem wrM_3 {tx : Nat → Int32} {ln i z : Nat} (hz : z < 2 ^ 31) (h : bpM tx ln i = nI z) (h2 : ¬ z < ln) : wrM tx ln i = -1 := by rw [wrM_n hz h, if_neg (fun h9 => h2 h9.2)]

set_option maxHeartbeats 1000000 in
set_option maxRecDepth 100000 in
theorem c_X5_wrong (l : Launch) (D : va_G) (k : Nat → ClassId) (h : Nat → Nat) (th : Int32) (f asd sl kp sv : Nat → Int32) (sm : Int32) (tx : Nat → Int32) (ln : Nat) (dg : Int64) (hln : ln ≤ 60) : MI l yX5_wrong wsX5_wrong ({ frames := 4, cells := 0, slots := 0, locals := 87 }) D k [.ref (h 0)] (wMo k h th f asd sl kp sv sm tx (nI ln) dg) (wrM tx ln 0) (wMo k h th f asd sl kp sv sm tx (nI ln) dg) := by
  intro sz
  refine Met.ofW (cc := cX5_wrong) (maxL := 3) (ret := (some .int)) (by decide) rfl ?_
  intro p e s m args below meth c s₁ B hml hv
  obtain ⟨rfl, hN, hsz, hP, hK, hD0⟩ := hv
  have hx := B.exec
  have hb := B.bytes
  have hr := B.returns
  have hts := atoms_spec (ws := wsX5_wrong) B.pre
  have hown : s.vm.findClass RX5 = some m.cls := findClass_of_methodNamed B.named
  have hlocks := B.notSynchronized
  subst hsz
  have hD := hD0.self (sz := s.heap.size)
  generalize hAe : va_A (wMo k h th f asd sl kp sv sm tx (nI ln) dg) s.heap.size = A at hD ⊢
  have hA : ∀ q : Nat, s.heap.size ≤ q → A q := fun q h => by rw [← hAe]; exact Or.inr h
  have hS : va_S A s.heap s.heap [] := va_S.rf
  have hl := lv_entry ([.ref (h 0)]) (n := 3) (Nat.le_of_ble_eq_true rfl)
  rw [lg_entry_eq]
  generalize (lg_sl ([.ref (h 0)]) ++ List.replicate (3 - (lg_sl ([.ref (h 0)])).length) Slot.unset).toArray = ls at hl ⊢
  have hl : lv_has ls 3 [(0, .ref (h 0))] := hl
  obtain ⟨H, hHe⟩ : ∃ H, H = s.heap := ⟨_, rfl⟩
  have hP : va_P D vwCl (wMo k h th f asd sl kp sv sm tx (nI ln) dg) H := by rw [hHe]; exact hP
  have hS : va_S A s.heap H [] := by rw [hHe]; exact hS
  rw [← hHe]
  refine absQ (fun Q hQ => ?_)
  refine lv_iconst (v := 0) hx hb dX5_wrong_0 (by decide) ?_
  refine lv_istore_n (lv' := [(1, .int 0), (0, .ref (h 0))]) hx hb dX5_wrong_1 rfl hl (by decide) rfl (fun ls hl => ?_)
  refine lv_iconst (v := 1) hx hb dX5_wrong_2 (by decide) ?_
  refine lv_istore_n (lv' := [(2, .int 1), (1, .int 0), (0, .ref (h 0))]) hx hb dX5_wrong_3 rfl hl (by decide) rfl (fun ls hl => ?_)
  suffices LOOP_i : ∀ (fu_i i : Nat) (y : Int32), ln - i < fu_i → i ≤ ln → (y = 1 ∨ y = 0) → ((y = 1 → wrM tx ln i = wrM tx ln 0) ∧ (y = 0 → wrM tx ln 0 = -1)) → ∀ (H : Heap) (locs : List Loc) (ls : Array Slot), va_P D vwCl (wMo k h th f asd sl kp sv sm tx (nI ln) dg) H → va_D A (wMo k h th f asd sl kp sv sm tx (nI ln) dg) → va_S A s.heap H locs → lv_has ls 3 [(2, .int y), (1, .int (nI i)), (0, .ref (h 0))] → W p l e ({ frames := 4, cells := 0, slots := 0, locals := 87 } : Room) s m ([.ref (h 0)] : List Value).toArray below meth c H locs 0 0 Q (F0 m 4 ls []) from LOOP_i (ln + 1) 0 1 (by omega) (by omega)  (Or.inl rfl) (⟨fun _ => rfl, fun h => absurd h (by decide)⟩) _ _ _ hP hD hS (lv_sub hl [0, 1, 2] rfl)
  clear hP hD hS hl hHe
  intro fu_i
  induction fu_i with
  | zero => intro i y hn_i; omega
  | succ fu_i ih_i =>
    intro i y hn_i hle_i  hy hv H locs ls hP hD hS hl
    refine lv_iload_n hx hb dX5_wrong_4 rfl (lv_at hl 0 rfl) ?_
    refine lv_if_eq (tgt := 68) hx hb dX5_wrong_5 (by decide) (fun c_1 => ?_) (fun c_1 => ?_)
    · refine lv_iconst (v := (-1)) hx hb dX5_wrong_68 (by decide) ?_
      subst hQ
      exact rt_i hx hb hr hlocks hS dX5_wrong_69 (hP) ((hv.2 c_1).symm)
    · refine lv_aload_n hx hb dX5_wrong_8 rfl (lv_at hl 2 rfl) ?_
      refine lv_iload_n hx hb dX5_wrong_9 rfl (lv_at hl 1 rfl) ?_
      have hPc : va_P D vwCl (wMo k h th f asd sl kp sv sm tx (nI ln) dg) H := hP.sub [0, 1, 2, 3, 4, 5, 6] rfl
      have hDc : va_D A (wMo k h th f asd sl kp sv sm tx (nI ln) dg) := hD.sub [0, 1, 2, 3, 4, 5, 6] (by decide +kernel) rfl
      refine cl_i0 (va_runV (As := [.int (nI i)]) (rest := []) ⟨hx, hb, hml, hown, hts⟩ (c_X5_behindPart l D k h th f asd sl kp sv sm tx ln dg i hln (by omega) H.size) (cwV 1 hts gX5_wrong_X5_behindPart rfl rfl rfl (by decide +kernel) ⟨Nat.le_of_ble_eq_true rfl, Nat.le_of_ble_eq_true rfl⟩) ⟨pr_blind, va_recv hK hP (ci := 5) (q0 := 0) rfl rfl, pr_at hN hPc hK hDc⟩ rfl rfl hl.1 rfl (lv_room (Nat.le_of_ble_eq_true rfl)) dX5_wrong_10 ⟨Nat.le_of_ble_eq_true rfl, Nat.le_of_ble_eq_true rfl⟩) hP hD hS hA [0, 1, 2, 3, 4, 5, 6] rfl (fun H locs hP hD hS => ?_)
      clear hPc hDc
      refine lv_istore_n (lv' := [(1, .int (bpM tx ln i)), (2, .int y), (0, .ref (h 0))]) hx hb dX5_wrong_13 rfl hl (by decide) rfl (fun ls hl => ?_)
      refine lv_iload_n hx hb dX5_wrong_14 rfl (lv_at hl 0 rfl) ?_
      refine lv_if_ge (tgt := 22) hx hb dX5_wrong_15 (by decide) (fun c_2 => ?_) (fun c_2 => ?_)
      · obtain ⟨z, hz1, hz2, hz3, hez⟩ := bp_pos (tx := tx) (ln := ln) (i := i) hln (by omega) (by first | exact c_2 | exact Int32.not_lt.mpr c_2)
        refine lv_iload_n hx hb dX5_wrong_22 rfl (lv_at hl 0 rfl) ?_
        refine tp_e (y := (nI z)) hez ?_
        refine lv_aload_n hx hb dX5_wrong_23 rfl (lv_at hl 2 rfl) ?_
        refine va_get (D := D) (ci := 5) (v := .int (nI ln)) (C := RX5) (T := TX5) (N := 10) hx hb hts (fun _ h9 => (List.mem_cons_of_mem _ (List.mem_append_right _ h9))) hown hK hP 0 rfl rfl 8 (by decide) (hts _ (List.mem_of_getElem? (i := 1) rfl)) (fun _ h9 => h9) rfl dX5_wrong_24 ?_
        refine lv_icmp_ge (tgt := 34) hx hb dX5_wrong_27 (by decide) (fun c_3 => ?_) (fun c_3 => ?_)
        · have c_3 : ln ≤ z := (nI_leI (a := ln) (b := z) (by omega) (by omega)).mp c_3
          refine lv_iconst (v := 0) hx hb dX5_wrong_34 (by decide) ?_
          refine lv_istore_n (lv' := [(2, .int 0), (1, .int (bpM tx ln i)), (0, .ref (h 0))]) hx hb dX5_wrong_35 rfl hl (by decide) rfl (fun ls hl => ?_)
          refine lv_iload_n hx hb dX5_wrong_36 rfl (lv_at hl 0 rfl) ?_
          refine lv_if_eq (tgt := 53) hx hb dX5_wrong_37 (by decide) (fun c_4 => ?_) (fun c_4 => ?_)
          · refine lv_iload_n hx hb dX5_wrong_53 rfl (lv_at hl 1 rfl) ?_
            refine tp_e (y := (nI z)) hez ?_
            refine lv_iload_n hx hb dX5_wrong_54 rfl (lv_at hl 0 rfl) ?_
            refine lv_if_eq (tgt := 62) hx hb dX5_wrong_55 (by decide) (fun c_5 => ?_) (fun c_5 => ?_)
            · refine lv_iconst (v := 0) hx hb dX5_wrong_62 (by decide) ?_
              refine lv_iadd hx hb dX5_wrong_63 ?_
              refine tp_e (y := (nI (z + 0))) (nI_add z 0) ?_
              refine lv_istore_n (lv' := [(1, .int (nI (z + 0))), (2, .int 0), (0, .ref (h 0))]) hx hb dX5_wrong_64 rfl hl (by decide) rfl (fun ls hl => ?_)
              refine lv_goto (tgt := 4) hx hb dX5_wrong_65 (by decide) ?_
              exact ih_i (z + 0) 0 (by omega) (by omega)  (Or.inr rfl) (⟨fun h9 => absurd h9 (by decide), fun _ => by rw [← hv.1 (hy.resolve_right c_1)]; exact wrM_3 (by omega) hez (by omega)⟩) _ _ _ hP hD hS (lv_sub hl [1, 0, 2] rfl)
            · exact absurd c_5 (by decide)
          · exact absurd c_4 (by decide)
        · have c_3 : ¬ (ln ≤ z) := fun h9 => c_3 ((nI_leI (a := ln) (b := z) (by omega) (by omega)).mpr h9)
          have hzl : z < ln := by omega
          refine lv_iconst (v := 1) hx hb dX5_wrong_30 (by decide) ?_
          refine lv_goto (tgt := 35) hx hb dX5_wrong_31 (by decide) ?_
          refine lv_istore_n (lv' := [(2, .int 1), (1, .int (bpM tx ln i)), (0, .ref (h 0))]) hx hb dX5_wrong_35 rfl hl (by decide) rfl (fun ls hl => ?_)
          refine lv_iload_n hx hb dX5_wrong_36 rfl (lv_at hl 0 rfl) ?_
          refine lv_if_eq (tgt := 53) hx hb dX5_wrong_37 (by decide) (fun c_6 => ?_) (fun c_6 => ?_)
          · exact absurd c_6 (by decide)
          · refine lv_aload_n hx hb dX5_wrong_40 rfl (lv_at hl 2 rfl) ?_
            refine va_get (D := D) (ci := 5) (v := .ref (h 6)) (C := RX5) (T := TX5) (N := 10) hx hb hts (fun _ h9 => (List.mem_cons_of_mem _ (List.mem_append_right _ h9))) hown hK hP 0 rfl rfl 7 (by decide) (hts _ (List.mem_of_getElem? (i := 2) rfl)) (fun _ h9 => h9) rfl dX5_wrong_41 ?_
            refine lv_iload_n hx hb dX5_wrong_44 rfl (lv_at hl 1 rfl) ?_
            refine tp_e (y := (nI z)) hez ?_
            refine ar_ld hx hb hK hP 6 rfl z (nI_clamp (by omega)) (vp_in_nI (by omega) (by omega)) dX5_wrong_45 ?_
            refine lv_bipush (v := 59) hx hb dX5_wrong_46 (by decide) ?_
            refine lv_icmp_eq (tgt := 53) hx hb dX5_wrong_48 (by decide) (fun c_7 => ?_) (fun c_7 => ?_)
            · refine lv_iload_n hx hb dX5_wrong_53 rfl (lv_at hl 1 rfl) ?_
              refine tp_e (y := (nI z)) hez ?_
              refine lv_iload_n hx hb dX5_wrong_54 rfl (lv_at hl 0 rfl) ?_
              refine lv_if_eq (tgt := 62) hx hb dX5_wrong_55 (by decide) (fun c_8 => ?_) (fun c_8 => ?_)
              · exact absurd c_8 (by decide)
              · refine lv_iconst (v := 1) hx hb dX5_wrong_58 (by decide) ?_
                refine lv_goto (tgt := 63) hx hb dX5_wrong_59 (by decide) ?_
                refine lv_iadd hx hb dX5_wrong_63 ?_
                refine tp_e (y := (nI (z + 1))) (nI_add z 1) ?_
                refine lv_istore_n (lv' := [(1, .int (nI (z + 1))), (2, .int 1), (0, .ref (h 0))]) hx hb dX5_wrong_64 rfl hl (by decide) rfl (fun ls hl => ?_)
                refine lv_goto (tgt := 4) hx hb dX5_wrong_65 (by decide) ?_
                exact ih_i (z + 1) 1 (by omega) (by omega)  (Or.inl rfl) (⟨fun _ => by rw [← hv.1 (hy.resolve_right c_1)]; exact (wrM_1 (by omega) hez (by omega) hzl c_7).symm, fun h9 => absurd h9 (by decide)⟩) _ _ _ hP hD hS (lv_sub hl [1, 0, 2] rfl)
            · refine lv_iload_n hx hb dX5_wrong_51 rfl (lv_at hl 1 rfl) ?_
              refine tp_e (y := (nI z)) hez ?_
              subst hQ
              exact rt_i hx hb hr hlocks hS dX5_wrong_52 (hP) (by rw [← hv.1 (hy.resolve_right c_1)]; exact (wrM_2 (by omega) hez (by omega) hzl c_7).symm)
      · refine lv_iconst (v := (-1)) hx hb dX5_wrong_18 (by decide) ?_
        refine lv_iload_n hx hb dX5_wrong_19 rfl (lv_at hl 0 rfl) ?_
        refine lv_isub hx hb dX5_wrong_20 ?_
        subst hQ
        exact rt_i hx hb hr hlocks hS dX5_wrong_21 (hP) (by rw [← hv.1 (hy.resolve_right c_1)]; exact (wrM_0 (by first | exact c_2 | exact Int32.not_le.mp c_2)).symm)
