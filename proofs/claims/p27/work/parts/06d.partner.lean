set_option maxHeartbeats 1000000 in
set_option maxRecDepth 100000 in
theorem c_X0_findPartner_b (l : Launch) (D : va_G) (k : Nat → ClassId) (r : Nat → Nat) (bh ah : Nat → Int32) (tr : Int32) (q dp : Nat) (hq : q < 9) (hd : 9 ≤ dp) (hd2 : dp < 100) : MI l yX0_findPartner wsX0_findPartner ({ frames := 2, cells := 0, slots := 0, locals := 40 }) D k [.ref (r 0), .int (nI q), .int (nI dp)] (wRw k r bh ah tr) (bI false) (wRw k r bh ah tr) := by
  intro sz
  refine Met.ofW (cc := cX0_findPartner) (maxL := 5) (ret := (some .boolean)) (by decide) rfl ?_
  intro p e s m args below meth c s₁ B hml hv
  obtain ⟨rfl, hN, hsz, hP, hK, hD0⟩ := hv
  have hx := B.exec
  have hb := B.bytes
  have hr := B.returns
  have hts := atoms_spec (ws := wsX0_findPartner) B.pre
  have hown : s.vm.findClass RX0 = some m.cls := findClass_of_methodNamed B.named
  have hlocks := B.notSynchronized
  subst hsz
  have hD := hD0.self (sz := s.heap.size)
  generalize hAe : va_A (wRw k r bh ah tr) s.heap.size = A at hD ⊢
  have hA : ∀ q : Nat, s.heap.size ≤ q → A q := fun q h => by rw [← hAe]; exact Or.inr h
  have hS : va_S A s.heap s.heap [] := va_S.rf
  have hl := lv_entry ([.ref (r 0), .int (nI q), .int (nI dp)]) (n := 5) (Nat.le_of_ble_eq_true rfl)
  rw [lg_entry_eq]
  generalize (lg_sl ([.ref (r 0), .int (nI q), .int (nI dp)]) ++ List.replicate (5 - (lg_sl ([.ref (r 0), .int (nI q), .int (nI dp)])).length) Slot.unset).toArray = ls at hl ⊢
  have hl : lv_has ls 5 [(0, .ref (r 0)), (1, .int (nI q)), (2, .int (nI dp))] := hl
  obtain ⟨H, hHe⟩ : ∃ H, H = s.heap := ⟨_, rfl⟩
  have hP : va_P D vwCl (wRw k r bh ah tr) H := by rw [hHe]; exact hP
  have hS : va_S A s.heap H [] := by rw [hHe]; exact hS
  rw [← hHe]
  refine absQ (fun Q hQ => ?_)
  refine lv_iload_n hx hb dX0_findPartner_0 rfl (lv_at hl 1 rfl) ?_
  have hPc : va_P D vwCl ([]) H := hP.sub [] rfl
  have hDc : va_D A ([]) := hD.sub [] (by decide +kernel) rfl
  refine cl_i0 (va_runSN (As := [.int (nI q)]) (rest := []) ⟨hx, hb, hml, hown, hts⟩ (c_X4_isPiece l D k (nI q) H.size) ⟨va_cnB 1 hts gX0_findPartner_X4_isPiece_n35 rfl rfl rfl hN.2.2.2.2.2.2.2.2.2.2.2 (hts (.initialized RX4) (List.mem_of_getElem? (i := 5) rfl)) (by decide +kernel) ⟨Nat.le_of_ble_eq_true rfl, Nat.le_of_ble_eq_true rfl⟩, hts (.static yX4_isPiece) (List.mem_of_getElem? (i := 4) rfl), trivial⟩ ⟨pr_blind, pr_at hN hPc hK hDc⟩ rfl rfl hl.1 rfl (lv_room (Nat.le_of_ble_eq_true rfl)) dX0_findPartner_1 ⟨Nat.le_of_ble_eq_true rfl, Nat.le_of_ble_eq_true rfl⟩) hP hD hS hA [] rfl (fun H locs hP hD hS => ?_)
  clear hPc hDc
  refine lv_if_eq (tgt := 13) hx hb dX0_findPartner_4 (by decide) (fun c_1 => ?_) (fun c_1 => ?_)
  · have c_1 := bI_eq.mp c_1
    exact absurd c_1 (by rw [pcB_t (by omega)]; decide)
  · have c_1 := bI_ne.mp c_1
    refine lv_iload_n hx hb dX0_findPartner_7 rfl (lv_at hl 2 rfl) ?_
    refine lv_bipush (v := 9) hx hb dX0_findPartner_8 (by decide) ?_
    refine lv_icmp_lt (tgt := 15) hx hb dX0_findPartner_10 (by decide) (fun c_2 => ?_) (fun c_2 => ?_)
    · have c_2 : dp < 9 := (nI_ltI (a := dp) (b := 9) (by omega) (by omega)).mp c_2
      exact absurd c_2 (by omega)
    · have c_2 : ¬ (dp < 9) := fun h9 => c_2 ((nI_ltI (a := dp) (b := 9) (by omega) (by omega)).mpr h9)
      refine lv_iconst (v := 0) hx hb dX0_findPartner_13 (by decide) ?_
      subst hQ
      exact rt_z hx hb hr hlocks hS dX0_findPartner_14 (hP) (rfl) (rfl)

set_option maxHeartbeats 1000000 in
set_option maxRecDepth 100000 in
theorem c_X0_findPartner (l : Launch) (D : va_G) (k : Nat → ClassId) (r : Nat → Nat) (bh : Nat → Int32) : ∀ (n : Nat) (q dp : Nat) (tr : Int32) (ah : Nat → Int32), dp + n = 9 → q < 9 → AhOK ah → MI l yX0_findPartner wsX0_findPartner ({ frames := n + 2, cells := 0, slots := 0, locals := 40 * (n + 1) }) D k [.ref (r 0), .int (nI q), .int (nI dp)] (wRw k r bh ah tr) (bI (fpF bh n q ah tr).1) (wRw k r bh (fpF bh n q ah tr).2.1 (fpF bh n q ah tr).2.2) := by
  intro n
  induction n with
  | zero => intro q dp tr ah hdp hq hah; exact c_X0_findPartner_b l D k r bh ah tr q dp hq (by omega) (by omega)
  | succ n ihr =>
    intro q dp tr ah hdp hq hah
    intro sz
    refine Met.ofW (cc := cX0_findPartner) (maxL := 5) (ret := (some .boolean)) (by decide) rfl ?_
    intro p e s m args below meth c s₁ B hml hv
    obtain ⟨rfl, hN, hsz, hP, hK, hD0⟩ := hv
    have hx := B.exec
    have hb := B.bytes
    have hr := B.returns
    have hts := atoms_spec (ws := wsX0_findPartner) B.pre
    have hown : s.vm.findClass RX0 = some m.cls := findClass_of_methodNamed B.named
    have hlocks := B.notSynchronized
    subst hsz
    have hD := hD0.self (sz := s.heap.size)
    generalize hAe : va_A (wRw k r bh ah tr) s.heap.size = A at hD ⊢
    have hA : ∀ q : Nat, s.heap.size ≤ q → A q := fun q h => by rw [← hAe]; exact Or.inr h
    have hS : va_S A s.heap s.heap [] := va_S.rf
    have hl := lv_entry ([.ref (r 0), .int (nI q), .int (nI dp)]) (n := 5) (Nat.le_of_ble_eq_true rfl)
    rw [lg_entry_eq]
    generalize (lg_sl ([.ref (r 0), .int (nI q), .int (nI dp)]) ++ List.replicate (5 - (lg_sl ([.ref (r 0), .int (nI q), .int (nI dp)])).length) Slot.unset).toArray = ls at hl ⊢
    have hl : lv_has ls 5 [(0, .ref (r 0)), (1, .int (nI q)), (2, .int (nI dp))] := hl
    obtain ⟨H, hHe⟩ : ∃ H, H = s.heap := ⟨_, rfl⟩
    have hP : va_P D vwCl (wRw k r bh ah tr) H := by rw [hHe]; exact hP
    have hS : va_S A s.heap H [] := by rw [hHe]; exact hS
    rw [← hHe]
    refine absQ (fun Q hQ => ?_)
    refine lv_iload_n hx hb dX0_findPartner_0 rfl (lv_at hl 1 rfl) ?_
    have hPc : va_P D vwCl ([]) H := hP.sub [] rfl
    have hDc : va_D A ([]) := hD.sub [] (by decide +kernel) rfl
    refine cl_i0 (va_runSN (As := [.int (nI q)]) (rest := []) ⟨hx, hb, hml, hown, hts⟩ (c_X4_isPiece l D k (nI q) H.size) ⟨va_cnB 1 hts gX0_findPartner_X4_isPiece_n35 rfl rfl rfl hN.2.2.2.2.2.2.2.2.2.2.2 (hts (.initialized RX4) (List.mem_of_getElem? (i := 5) rfl)) (by decide +kernel) ⟨Nat.le_of_ble_eq_true rfl, Nat.le_of_ble_eq_true rfl⟩, hts (.static yX4_isPiece) (List.mem_of_getElem? (i := 4) rfl), trivial⟩ ⟨pr_blind, pr_at hN hPc hK hDc⟩ rfl rfl hl.1 rfl (lv_room (Nat.le_of_ble_eq_true rfl)) dX0_findPartner_1 ⟨Nat.le_of_ble_eq_true rfl, Nat.le_of_ble_eq_true rfl⟩) hP hD hS hA [] rfl (fun H locs hP hD hS => ?_)
    clear hPc hDc
    refine lv_if_eq (tgt := 13) hx hb dX0_findPartner_4 (by decide) (fun c_1 => ?_) (fun c_1 => ?_)
    · have c_1 := bI_eq.mp c_1
      exact absurd c_1 (by rw [pcB_t (by omega)]; decide)
    · have c_1 := bI_ne.mp c_1
      refine lv_iload_n hx hb dX0_findPartner_7 rfl (lv_at hl 2 rfl) ?_
      refine lv_bipush (v := 9) hx hb dX0_findPartner_8 (by decide) ?_
      refine lv_icmp_lt (tgt := 15) hx hb dX0_findPartner_10 (by decide) (fun c_2 => ?_) (fun c_2 => ?_)
      · have c_2 : dp < 9 := (nI_ltI (a := dp) (b := 9) (by omega) (by omega)).mp c_2
        refine lv_iconst (v := 0) hx hb dX0_findPartner_15 (by decide) ?_
        refine lv_istore_n (lv' := [(3, .int 0), (0, .ref (r 0)), (1, .int (nI q)), (2, .int (nI dp))]) hx hb dX0_findPartner_16 rfl hl (by decide) rfl (fun ls hl => ?_)
        suffices LOOP_i : ∀ (fu_i i : Nat) (ah1 : Nat → Int32) (tr1 : Int32), 9 - i < fu_i → i ≤ 9 → fpL bh q (fpF bh n) (9 - i) i ah1 tr1 = (fpF bh (n + 1) q ah tr) → AhOK ah1 → ∀ (H : Heap) (locs : List Loc) (ls : Array Slot), va_P D vwCl ([(r 0, .inr (0, [.ref (r 1), .ref (r 2), .int tr1])), (r 1, .inl (k 0, 9, .inl bh)), (r 2, .inl (k 0, 9, .inl ah1))]) H → va_D A ([(r 0, .inr (0, [.ref (r 1), .ref (r 2), .int tr1])), (r 1, .inl (k 0, 9, .inl bh)), (r 2, .inl (k 0, 9, .inl ah1))]) → va_S A s.heap H locs → lv_has ls 5 [(3, .int (nI i)), (0, .ref (r 0)), (1, .int (nI q)), (2, .int (nI dp))] → W p l e ({ frames := n + 1 + 2, cells := 0, slots := 0, locals := 40 * (n + 1 + 1) } : Room) s m ([.ref (r 0), .int (nI q), .int (nI dp)] : List Value).toArray below meth c H locs 0 0 Q (F0 m 17 ls []) from LOOP_i (9 + 1) 0 ah tr (by omega) (by omega)  (rfl) (hah) _ _ _ hP hD hS (lv_sub hl [0, 1, 2, 3] rfl)
        clear hP hD hS hl hHe
        intro fu_i
        induction fu_i with
        | zero => intro i ah1 tr1 hn_i; omega
        | succ fu_i ih_i =>
          intro i ah1 tr1 hn_i hle_i  hv hah1 H locs ls hP hD hS hl
          refine lv_iload_n hx hb dX0_findPartner_17 rfl (lv_at hl 0 rfl) ?_
          refine lv_bipush (v := 9) hx hb dX0_findPartner_18 (by decide) ?_
          refine lv_icmp_ge (tgt := 97) hx hb dX0_findPartner_20 (by decide) (fun c_3 => ?_) (fun c_3 => ?_)
          · have c_3 : 9 ≤ i := (nI_leI (a := 9) (b := i) (by omega) (by omega)).mp c_3
            have hz_i : 9 = i := by omega
            subst hz_i
            refine lv_iconst (v := 0) hx hb dX0_findPartner_97 (by decide) ?_
            subst hQ
            exact rt_z hx hb hr hlocks hS dX0_findPartner_98 (by rw [← hv]; exact hP) (rfl) (by rw [← hv]; rfl)
          · have c_3 : ¬ (9 ≤ i) := fun h9 => c_3 ((nI_leI (a := 9) (b := i) (by omega) (by omega)).mpr h9)
            refine lv_aload_n hx hb dX0_findPartner_23 rfl (lv_at hl 1 rfl) ?_
            refine va_get (D := D) (ci := 0) (v := .ref (r 1)) (C := RX0) (T := TX0) (N := 3) hx hb hts (fun _ h9 => (List.mem_cons_of_mem _ (List.mem_append_right _ h9))) hown hK hP 0 rfl rfl 0 (by decide) (hts _ (List.mem_of_getElem? (i := 1) rfl)) (fun _ h9 => h9) rfl dX0_findPartner_24 ?_
            refine lv_iload_n hx hb dX0_findPartner_27 rfl (lv_at hl 2 rfl) ?_
            refine ar_ld hx hb hK hP 1 rfl q (nI_clamp (by omega)) (vp_in_nI (by omega) (by omega)) dX0_findPartner_28 ?_
            refine lv_aload_n hx hb dX0_findPartner_29 rfl (lv_at hl 1 rfl) ?_
            refine va_get (D := D) (ci := 0) (v := .int tr1) (C := RX0) (T := TX0) (N := 3) hx hb hts (fun _ h9 => (List.mem_cons_of_mem _ (List.mem_append_right _ h9))) hown hK hP 0 rfl rfl 2 (by decide) (hts _ (List.mem_of_getElem? (i := 2) rfl)) (fun _ h9 => h9) rfl dX0_findPartner_30 ?_
            refine lv_iconst (v := (-1)) hx hb dX0_findPartner_33 (by decide) ?_
            refine lv_ixor hx hb dX0_findPartner_34 ?_
            refine lv_iand hx hb dX0_findPartner_35 ?_
            refine lv_iload_n hx hb dX0_findPartner_36 rfl (lv_at hl 0 rfl) ?_
            have hPc : va_P D vwCl ([]) H := hP.sub [] rfl
            have hDc : va_D A ([]) := hD.sub [] (by decide +kernel) rfl
            refine cl_i0 (va_runSN (As := [.int ((bh q) &&& (tr1 ^^^ (-1))), .int (nI i)]) (rest := []) ⟨hx, hb, hml, hown, hts⟩ (c_X4_bit l D k ((bh q) &&& (tr1 ^^^ (-1))) (nI i) H.size) ⟨va_cnB 2 hts gX0_findPartner_X4_bit_n23 rfl rfl rfl hN.2.2.2.2.2.2.2.2.2.2.1 (hts (.initialized RX4) (List.mem_of_getElem? (i := 5) rfl)) (by decide +kernel) ⟨Nat.le_of_ble_eq_true rfl, Nat.le_of_ble_eq_true rfl⟩, hts (.static yX4_bit) (List.mem_of_getElem? (i := 7) rfl), trivial⟩ ⟨pr_blind, pr_at hN hPc hK hDc⟩ rfl rfl hl.1 rfl (lv_room (Nat.le_of_ble_eq_true rfl)) dX0_findPartner_37 ⟨Nat.le_of_ble_eq_true rfl, Nat.le_of_ble_eq_true rfl⟩) hP hD hS hA [] rfl (fun H locs hP hD hS => ?_)
            clear hPc hDc
            refine lv_iconst (v := 1) hx hb dX0_findPartner_40 (by decide) ?_
            refine lv_icmp_ne (tgt := 91) hx hb dX0_findPartner_41 (by decide) (fun c_4 => ?_) (fun c_4 => ?_)
            · refine lv_iinc (v := (nI (i + 1))) (lv' := [(3, .int (nI (i + 1))), (0, .ref (r 0)), (1, .int (nI q)), (2, .int (nI dp))]) hx hb dX0_findPartner_91 hl (k := 0) rfl (nI_1 i) (by decide) rfl (fun ls hl => ?_)
              refine lv_goto (tgt := 17) hx hb dX0_findPartner_94 (by decide) ?_
              exact ih_i (i + 1) ah1 tr1 (by omega) (by omega)  (by rw [← hv, fpL_s _ _ _ c_3, if_neg c_4]) (hah1) _ _ _ hP hD hS (lv_sub hl [0, 1, 2, 3] rfl)
            · refine lv_aload_n hx hb dX0_findPartner_44 rfl (lv_at hl 1 rfl) ?_
              refine lv_dup hx hb dX0_findPartner_45 rfl ?_
              refine va_get (D := D) (ci := 0) (v := .int tr1) (C := RX0) (T := TX0) (N := 3) hx hb hts (fun _ h9 => (List.mem_cons_of_mem _ (List.mem_append_right _ h9))) hown hK hP 0 rfl rfl 2 (by decide) (hts _ (List.mem_of_getElem? (i := 2) rfl)) (fun _ h9 => h9) rfl dX0_findPartner_46 ?_
              refine lv_iconst (v := 1) hx hb dX0_findPartner_49 (by decide) ?_
              refine lv_iload_n hx hb dX0_findPartner_50 rfl (lv_at hl 0 rfl) ?_
              refine lv_ishl hx hb dX0_findPartner_51 ?_
              refine lv_ior hx hb dX0_findPartner_52 ?_
              refine va_put (D := D) (ci := 0) (v := .int (tr1 ||| (1 <<< ((nI i) &&& 31)))) (ty := tyX0 2) (C := RX0) (T := TX0) (N := 3) hx hb hts (fun _ h9 => (List.mem_cons_of_mem _ (List.mem_append_right _ h9))) tyX0 tyX0_ok nmX0 hown hK hP hD hS 0 rfl rfl 2 (by decide) (hts _ (List.mem_of_getElem? (i := 2) rfl)) (fun _ h9 => h9) rfl (tyX0_ok 2 (by decide)) rfl rfl (Nat.le_of_ble_eq_true rfl) dX0_findPartner_53 (fun H locs hP hD hS => ?_)
              have hP : va_P D vwCl ([(r 0, .inr (0, [.ref (r 1), .ref (r 2), .int (tr1 ||| (1 <<< ((nI i) &&& 31)))])), (r 1, .inl (k 0, 9, .inl bh)), (r 2, .inl (k 0, 9, .inl ah1))]) H := hP
              have hD : va_D A ([(r 0, .inr (0, [.ref (r 1), .ref (r 2), .int (tr1 ||| (1 <<< ((nI i) &&& 31)))])), (r 1, .inl (k 0, 9, .inl bh)), (r 2, .inl (k 0, 9, .inl ah1))]) := hD
              refine lv_aload_n hx hb dX0_findPartner_56 rfl (lv_at hl 1 rfl) ?_
              refine va_get (D := D) (ci := 0) (v := .ref (r 2)) (C := RX0) (T := TX0) (N := 3) hx hb hts (fun _ h9 => (List.mem_cons_of_mem _ (List.mem_append_right _ h9))) hown hK hP 0 rfl rfl 1 (by decide) (hts _ (List.mem_of_getElem? (i := 3) rfl)) (fun _ h9 => h9) rfl dX0_findPartner_57 ?_
              refine lv_iload_n hx hb dX0_findPartner_60 rfl (lv_at hl 0 rfl) ?_
              refine ar_ld hx hb hK hP 2 rfl i (nI_clamp (by omega)) (vp_in_nI (by omega) (by omega)) dX0_findPartner_61 ?_
              refine lv_istore (lv' := [(4, .int (ah1 i)), (3, .int (nI i)), (0, .ref (r 0)), (1, .int (nI q)), (2, .int (nI dp))]) hx hb dX0_findPartner_62 hl (by decide) rfl (fun ls hl => ?_)
              refine lv_iload hx hb dX0_findPartner_64 (lv_at hl 0 rfl) ?_
              refine lv_iconst (v := (-1)) hx hb dX0_findPartner_66 (by decide) ?_
              refine lv_icmp_eq (tgt := 82) hx hb dX0_findPartner_67 (by decide) (fun c_5 => ?_) (fun c_5 => ?_)
              · refine lv_aload_n hx hb dX0_findPartner_82 rfl (lv_at hl 2 rfl) ?_
                refine va_get (D := D) (ci := 0) (v := .ref (r 2)) (C := RX0) (T := TX0) (N := 3) hx hb hts (fun _ h9 => (List.mem_cons_of_mem _ (List.mem_append_right _ h9))) hown hK hP 0 rfl rfl 1 (by decide) (hts _ (List.mem_of_getElem? (i := 3) rfl)) (fun _ h9 => h9) rfl dX0_findPartner_83 ?_
                refine lv_iload_n hx hb dX0_findPartner_86 rfl (lv_at hl 1 rfl) ?_
                refine lv_iload_n hx hb dX0_findPartner_87 rfl (lv_at hl 3 rfl) ?_
                refine ar_st hx hb hK hP hD hS 2 rfl i (nI_clamp (by omega)) (vp_in_nI (by omega) (by omega)) dX0_findPartner_88 (wn := [(r 0, .inr (0, [.ref (r 1), .ref (r 2), .int (tr1 ||| (1 <<< ((nI i) &&& 31)))])), (r 1, .inl (k 0, 9, .inl bh)), (r 2, .inl (k 0, 9, .inl (upd ah1 i (nI q))))]) rfl (fun H locs hP hD hS => ?_)
                refine lv_iconst (v := 1) hx hb dX0_findPartner_89 (by decide) ?_
                subst hQ
                exact rt_z hx hb hr hlocks hS dX0_findPartner_90 (by rw [← hv, fpL_s _ _ _ c_3, if_pos c_4, if_pos c_5]; exact hP) (rfl) (by rw [← hv, fpL_s _ _ _ c_3, if_pos c_4, if_pos c_5] <;> rfl)
              · obtain ⟨q2, hq2, hq2e⟩ := (hah1 i (by omega)).resolve_left c_5
                rw [hq2e] at hl
                have hl : lv_has ls 5 [(4, .int (nI q2)), (3, .int (nI i)), (0, .ref (r 0)), (1, .int (nI q)), (2, .int (nI dp))] := hl
                refine lv_aload_n hx hb dX0_findPartner_70 rfl (lv_at hl 2 rfl) ?_
                refine lv_iload hx hb dX0_findPartner_71 (lv_at hl 0 rfl) ?_
                refine lv_iload_n hx hb dX0_findPartner_73 rfl (lv_at hl 4 rfl) ?_
                refine lv_iconst (v := 1) hx hb dX0_findPartner_74 (by decide) ?_
                refine lv_iadd hx hb dX0_findPartner_75 ?_
                refine tp_e (y := (nI (dp + 1))) (nI_add _ _) ?_
                have hPc : va_P D vwCl (wRw k r bh ah1 (tr1 ||| (1 <<< ((nI i) &&& 31)))) H := hP.sub [0, 1, 2] rfl
                have hDc : va_D A (wRw k r bh ah1 (tr1 ||| (1 <<< ((nI i) &&& 31)))) := hD.sub [0, 1, 2] (by decide +kernel) rfl
                refine cl_i (va_runS (As := [.ref (r 0), .int (nI q2), .int (nI (dp + 1))]) (rest := []) ⟨hx, hb, hml, hown, hts⟩ (ihr q2 (dp + 1) (tr1 ||| (1 <<< ((nI i) &&& 31))) ah1 (by omega) hq2 hah1 H.size) (va_cwS 3 hts gX0_findPartner_X0_findPartner rfl rfl rfl (by decide +kernel) ⟨by show n + 2 + 1 ≤ n + 1 + 2; omega, by show 8 + (5 + 11) + 40 * (n + 1) ≤ 40 * (n + 1 + 1); omega⟩) ⟨pr_blind, pr_at hN hPc hK hDc⟩ rfl rfl hl.1 rfl (lv_room (Nat.le_of_ble_eq_true rfl)) dX0_findPartner_76 ⟨Nat.le_of_ble_eq_true rfl, Nat.le_of_ble_eq_true rfl⟩) hP hD hS hA [0, 1, 2] [] ([]) [r 0, r 1, r 2] 3 rfl (wn := [(r 0, .inr (0, [.ref (r 1), .ref (r 2), .int ((fpF bh n q2 ah1 (tr1 ||| (1 <<< ((nI i) &&& 31)))).2.2)])), (r 1, .inl (k 0, 9, .inl bh)), (r 2, .inl (k 0, 9, .inl ((fpF bh n q2 ah1 (tr1 ||| (1 <<< ((nI i) &&& 31)))).2.1)))]) rfl rfl rfl rfl (by decide +kernel) rfl rfl (fun H locs hP hD hS => ?_)
                clear hPc hDc
                refine lv_if_eq (tgt := 91) hx hb dX0_findPartner_79 (by decide) (fun c_6 => ?_) (fun c_6 => ?_)
                · have c_6 := bI_eq.mp c_6
                  refine lv_iinc (v := (nI (i + 1))) (lv' := [(3, .int (nI (i + 1))), (4, .int (nI q2)), (0, .ref (r 0)), (1, .int (nI q)), (2, .int (nI dp))]) hx hb dX0_findPartner_91 hl (k := 1) rfl (nI_1 i) (by decide) rfl (fun ls hl => ?_)
                  refine lv_goto (tgt := 17) hx hb dX0_findPartner_94 (by decide) ?_
                  exact ih_i (i + 1) ((fpF bh n q2 ah1 (tr1 ||| (1 <<< ((nI i) &&& 31)))).2.1) ((fpF bh n q2 ah1 (tr1 ||| (1 <<< ((nI i) &&& 31)))).2.2) (by omega) (by omega)  (by rw [← hv, fpL_s _ _ _ c_3, if_pos c_4, if_neg c_5, hq2e, nI_clamp (show q2 < 2 ^ 31 from by omega), fpR, trU, if_neg (show ¬ (fpF bh n q2 ah1 (tr1 ||| (1 <<< ((nI i) &&& 31)))).1 = true from by rw [c_6]; decide)] <;> rfl) (fpF_ok bh n q2 ah1 _ hq2 hah1) _ _ _ hP hD hS (lv_sub hl [0, 2, 3, 4] rfl)
                · have c_6 := bI_ne.mp c_6
                  refine lv_aload_n hx hb dX0_findPartner_82 rfl (lv_at hl 2 rfl) ?_
                  refine va_get (D := D) (ci := 0) (v := .ref (r 2)) (C := RX0) (T := TX0) (N := 3) hx hb hts (fun _ h9 => (List.mem_cons_of_mem _ (List.mem_append_right _ h9))) hown hK hP 0 rfl rfl 1 (by decide) (hts _ (List.mem_of_getElem? (i := 3) rfl)) (fun _ h9 => h9) rfl dX0_findPartner_83 ?_
                  refine lv_iload_n hx hb dX0_findPartner_86 rfl (lv_at hl 1 rfl) ?_
                  refine lv_iload_n hx hb dX0_findPartner_87 rfl (lv_at hl 3 rfl) ?_
                  refine ar_st hx hb hK hP hD hS 2 rfl i (nI_clamp (by omega)) (vp_in_nI (by omega) (by omega)) dX0_findPartner_88 (wn := [(r 0, .inr (0, [.ref (r 1), .ref (r 2), .int ((fpF bh n q2 ah1 (tr1 ||| (1 <<< ((nI i) &&& 31)))).2.2)])), (r 1, .inl (k 0, 9, .inl bh)), (r 2, .inl (k 0, 9, .inl (upd ((fpF bh n q2 ah1 (tr1 ||| (1 <<< ((nI i) &&& 31)))).2.1) i (nI q))))]) rfl (fun H locs hP hD hS => ?_)
                  refine lv_iconst (v := 1) hx hb dX0_findPartner_89 (by decide) ?_
                  subst hQ
                  exact rt_z hx hb hr hlocks hS dX0_findPartner_90 (by rw [← hv, fpL_s _ _ _ c_3, if_pos c_4, if_neg c_5, hq2e, nI_clamp (show q2 < 2 ^ 31 from by omega), fpR, trU, if_pos c_6]; exact hP) (rfl) (by rw [← hv, fpL_s _ _ _ c_3, if_pos c_4, if_neg c_5, hq2e, nI_clamp (show q2 < 2 ^ 31 from by omega), fpR, trU, if_pos c_6] <;> rfl)
      · have c_2 : ¬ (dp < 9) := fun h9 => c_2 ((nI_ltI (a := dp) (b := 9) (by omega) (by omega)).mpr h9)
        exact absurd c_2 (by omega)
