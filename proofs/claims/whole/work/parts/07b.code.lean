set_option maxHeartbeats 1000000 in
set_option maxRecDepth 100000 in
theorem c_X2_takeCode_0 (l : Launch) (D : va_G) (k : Nat → ClassId) (t b : Nat → Nat) (cd : Nat → Int32) (ln : Int32) (G : Nat → Nat → Int32) (kd : Int32 × Int32) (f : Nat) (x : Int32) (hf : f < 9) : MI l yX2_takeCode wsX2_takeCode ({ frames := 2, cells := 0, slots := 0, locals := 42 }) D k [.ref (t 0), .int x] (wTx k t b cd ln G 0 kd (nI f)) (bI (tkF G 0 kd f x).1) (wTx k t b cd ln (tkF G 0 kd f x).2.1 (tkF G 0 kd f x).2.2.1 (tkF G 0 kd f x).2.2.2.1 (tkF G 0 kd f x).2.2.2.2) := by
  intro sz
  refine Met.ofW (cc := cX2_takeCode) (maxL := 2) (ret := (some .boolean)) (by decide) rfl ?_
  intro p e s m args below meth c s₁ B hml hv
  obtain ⟨rfl, hN, hsz, hP, hK, hD0⟩ := hv
  have hx := B.exec
  have hb := B.bytes
  have hr := B.returns
  have hts := atoms_spec (ws := wsX2_takeCode) B.pre
  have hown : s.vm.findClass RX2 = some m.cls := findClass_of_methodNamed B.named
  have hlocks := B.notSynchronized
  subst hsz
  have hD := hD0.self (sz := s.heap.size)
  generalize hAe : va_A (wTx k t b cd ln G 0 kd (nI f)) s.heap.size = A at hD ⊢
  have hA : ∀ q : Nat, s.heap.size ≤ q → A q := fun q h => by rw [← hAe]; exact Or.inr h
  have hS : va_S A s.heap s.heap [] := va_S.rf
  have hl := lv_entry ([.ref (t 0), .int x]) (n := 2) (Nat.le_of_ble_eq_true rfl)
  rw [lg_entry_eq]
  generalize (lg_sl ([.ref (t 0), .int x]) ++ List.replicate (2 - (lg_sl ([.ref (t 0), .int x])).length) Slot.unset).toArray = ls at hl ⊢
  have hl : lv_has ls 2 [(0, .ref (t 0)), (1, .int x)] := hl
  obtain ⟨H, hHe⟩ : ∃ H, H = s.heap := ⟨_, rfl⟩
  have hP : va_P D vwCl (wTx k t b cd ln G 0 kd (nI f)) H := by rw [hHe]; exact hP
  have hS : va_S A s.heap H [] := by rw [hHe]; exact hS
  rw [← hHe]
  refine absQ (fun Q hQ => ?_)
  refine lv_aload_n hx hb dX2_takeCode_0 rfl (lv_at hl 0 rfl) ?_
  refine va_get (D := D) (ci := 2) (v := .int 0) (C := RX2) (T := TX2) (N := 7) hx hb hts (fun _ h9 => (List.mem_cons_of_mem _ (List.mem_append_left _ (List.mem_append_right _ h9)))) hown hK hP 0 rfl rfl 3 (by decide) (hts _ (List.mem_of_getElem? (i := 1) rfl)) (fun _ h9 => h9) rfl dX2_takeCode_1 ?_
  refine lv_tableIn (off := 40) (tgt := 44) hx hb dX2_takeCode_4 (by decide) (by decide) rfl (by decide) ?_
  refine lv_aload_n hx hb dX2_takeCode_44 rfl (lv_at hl 0 rfl) ?_
  refine lv_iload_n hx hb dX2_takeCode_45 rfl (lv_at hl 1 rfl) ?_
  refine va_put (D := D) (ci := 2) (v := .int x) (ty := tyX2 4) (C := RX2) (T := TX2) (N := 7) hx hb hts (fun _ h9 => (List.mem_cons_of_mem _ (List.mem_append_left _ (List.mem_append_right _ h9)))) tyX2 tyX2_ok nmX2 hown hK hP hD hS 0 rfl rfl 4 (by decide) (hts _ (List.mem_of_getElem? (i := 2) rfl)) (fun _ h9 => h9) rfl (tyX2_ok 4 (by decide)) rfl rfl (Nat.le_of_ble_eq_true rfl) dX2_takeCode_46 (fun H locs hP hD hS => ?_)
  have hP : va_P D vwCl ([(t 0, .inr (2, [.ref (t 1), .int ln, .ref (b 0), .int 0, .int x, .int (nI f), .int kd.2])), (t 1, .inl (k 0, 60, .inl cd)), (b 0, .inr (1, [.ref (b 1), .ref (b 2), .ref (b 3), .ref (b 4), .ref (b 5), .ref (b 6), .ref (b 7), .int (G 7 0), .int (G 7 1), .int (G 7 2)])), (b 1, .inl (k 0, 9, .inl (G 0))), (b 2, .inl (k 0, 9, .inl (G 1))), (b 3, .inl (k 0, 9, .inl (G 2))), (b 4, .inl (k 0, 9, .inl (G 3))), (b 5, .inl (k 0, 9, .inl (G 4))), (b 6, .inl (k 0, 12, .inl (G 5))), (b 7, .inl (k 0, 12, .inl (G 6)))]) H := hP
  have hD : va_D A ([(t 0, .inr (2, [.ref (t 1), .int ln, .ref (b 0), .int 0, .int x, .int (nI f), .int kd.2])), (t 1, .inl (k 0, 60, .inl cd)), (b 0, .inr (1, [.ref (b 1), .ref (b 2), .ref (b 3), .ref (b 4), .ref (b 5), .ref (b 6), .ref (b 7), .int (G 7 0), .int (G 7 1), .int (G 7 2)])), (b 1, .inl (k 0, 9, .inl (G 0))), (b 2, .inl (k 0, 9, .inl (G 1))), (b 3, .inl (k 0, 9, .inl (G 2))), (b 4, .inl (k 0, 9, .inl (G 3))), (b 5, .inl (k 0, 9, .inl (G 4))), (b 6, .inl (k 0, 12, .inl (G 5))), (b 7, .inl (k 0, 12, .inl (G 6)))]) := hD
  refine lv_aload_n hx hb dX2_takeCode_49 rfl (lv_at hl 0 rfl) ?_
  refine lv_iconst (v := 1) hx hb dX2_takeCode_50 (by decide) ?_
  refine va_put (D := D) (ci := 2) (v := .int 1) (ty := tyX2 3) (C := RX2) (T := TX2) (N := 7) hx hb hts (fun _ h9 => (List.mem_cons_of_mem _ (List.mem_append_left _ (List.mem_append_right _ h9)))) tyX2 tyX2_ok nmX2 hown hK hP hD hS 0 rfl rfl 3 (by decide) (hts _ (List.mem_of_getElem? (i := 1) rfl)) (fun _ h9 => h9) rfl (tyX2_ok 3 (by decide)) rfl rfl (Nat.le_of_ble_eq_true rfl) dX2_takeCode_51 (fun H locs hP hD hS => ?_)
  have hP : va_P D vwCl ([(t 0, .inr (2, [.ref (t 1), .int ln, .ref (b 0), .int 1, .int x, .int (nI f), .int kd.2])), (t 1, .inl (k 0, 60, .inl cd)), (b 0, .inr (1, [.ref (b 1), .ref (b 2), .ref (b 3), .ref (b 4), .ref (b 5), .ref (b 6), .ref (b 7), .int (G 7 0), .int (G 7 1), .int (G 7 2)])), (b 1, .inl (k 0, 9, .inl (G 0))), (b 2, .inl (k 0, 9, .inl (G 1))), (b 3, .inl (k 0, 9, .inl (G 2))), (b 4, .inl (k 0, 9, .inl (G 3))), (b 5, .inl (k 0, 9, .inl (G 4))), (b 6, .inl (k 0, 12, .inl (G 5))), (b 7, .inl (k 0, 12, .inl (G 6)))]) H := hP
  have hD : va_D A ([(t 0, .inr (2, [.ref (t 1), .int ln, .ref (b 0), .int 1, .int x, .int (nI f), .int kd.2])), (t 1, .inl (k 0, 60, .inl cd)), (b 0, .inr (1, [.ref (b 1), .ref (b 2), .ref (b 3), .ref (b 4), .ref (b 5), .ref (b 6), .ref (b 7), .int (G 7 0), .int (G 7 1), .int (G 7 2)])), (b 1, .inl (k 0, 9, .inl (G 0))), (b 2, .inl (k 0, 9, .inl (G 1))), (b 3, .inl (k 0, 9, .inl (G 2))), (b 4, .inl (k 0, 9, .inl (G 3))), (b 5, .inl (k 0, 9, .inl (G 4))), (b 6, .inl (k 0, 12, .inl (G 5))), (b 7, .inl (k 0, 12, .inl (G 6)))]) := hD
  refine lv_iload_n hx hb dX2_takeCode_54 rfl (lv_at hl 1 rfl) ?_
  refine lv_bipush (v := 99) hx hb dX2_takeCode_55 (by decide) ?_
  refine lv_icmp_eq (tgt := 84) hx hb dX2_takeCode_57 (by decide) (fun c_1 => ?_) (fun c_1 => ?_)
  · refine lv_iconst (v := 1) hx hb dX2_takeCode_84 (by decide) ?_
    refine lv_goto (tgt := 89) hx hb dX2_takeCode_85 (by decide) ?_
    subst hQ
    exact rt_z hx hb hr hlocks hS dX2_takeCode_89 (hP) (rfl) (by simp [tkF, k0B, bI, c_1])
  · refine lv_iload_n hx hb dX2_takeCode_60 rfl (lv_at hl 1 rfl) ?_
    refine lv_bipush (v := 106) hx hb dX2_takeCode_61 (by decide) ?_
    refine lv_icmp_eq (tgt := 84) hx hb dX2_takeCode_63 (by decide) (fun c_2 => ?_) (fun c_2 => ?_)
    · refine lv_iconst (v := 1) hx hb dX2_takeCode_84 (by decide) ?_
      refine lv_goto (tgt := 89) hx hb dX2_takeCode_85 (by decide) ?_
      subst hQ
      exact rt_z hx hb hr hlocks hS dX2_takeCode_89 (hP) (rfl) (by simp [tkF, k0B, bI, c_1, c_2])
    · refine lv_iload_n hx hb dX2_takeCode_66 rfl (lv_at hl 1 rfl) ?_
      refine lv_bipush (v := 115) hx hb dX2_takeCode_67 (by decide) ?_
      refine lv_icmp_eq (tgt := 84) hx hb dX2_takeCode_69 (by decide) (fun c_3 => ?_) (fun c_3 => ?_)
      · refine lv_iconst (v := 1) hx hb dX2_takeCode_84 (by decide) ?_
        refine lv_goto (tgt := 89) hx hb dX2_takeCode_85 (by decide) ?_
        subst hQ
        exact rt_z hx hb hr hlocks hS dX2_takeCode_89 (hP) (rfl) (by simp [tkF, k0B, bI, c_1, c_2, c_3])
      · refine lv_iload_n hx hb dX2_takeCode_72 rfl (lv_at hl 1 rfl) ?_
        refine lv_bipush (v := 101) hx hb dX2_takeCode_73 (by decide) ?_
        refine lv_icmp_eq (tgt := 84) hx hb dX2_takeCode_75 (by decide) (fun c_4 => ?_) (fun c_4 => ?_)
        · refine lv_iconst (v := 1) hx hb dX2_takeCode_84 (by decide) ?_
          refine lv_goto (tgt := 89) hx hb dX2_takeCode_85 (by decide) ?_
          subst hQ
          exact rt_z hx hb hr hlocks hS dX2_takeCode_89 (hP) (rfl) (by simp [tkF, k0B, bI, c_1, c_2, c_3, c_4])
        · refine lv_iload_n hx hb dX2_takeCode_78 rfl (lv_at hl 1 rfl) ?_
          refine lv_bipush (v := 120) hx hb dX2_takeCode_79 (by decide) ?_
          refine lv_icmp_ne (tgt := 88) hx hb dX2_takeCode_81 (by decide) (fun c_5 => ?_) (fun c_5 => ?_)
          · refine lv_iconst (v := 0) hx hb dX2_takeCode_88 (by decide) ?_
            subst hQ
            exact rt_z hx hb hr hlocks hS dX2_takeCode_89 (hP) (rfl) (by simp [tkF, k0B, bI, c_1, c_2, c_3, c_4, c_5])
          · refine lv_iconst (v := 1) hx hb dX2_takeCode_84 (by decide) ?_
            refine lv_goto (tgt := 89) hx hb dX2_takeCode_85 (by decide) ?_
            subst hQ
            exact rt_z hx hb hr hlocks hS dX2_takeCode_89 (hP) (rfl) (by simp [tkF, k0B, bI, c_1, c_2, c_3, c_4, c_5])

set_option maxHeartbeats 1000000 in
set_option maxRecDepth 100000 in
theorem c_X2_takeCode_1 (l : Launch) (D : va_G) (k : Nat → ClassId) (t b : Nat → Nat) (cd : Nat → Int32) (ln : Int32) (G : Nat → Nat → Int32) (kd : Int32 × Int32) (f : Nat) (x : Int32) (hf : f < 9) : MI l yX2_takeCode wsX2_takeCode ({ frames := 2, cells := 0, slots := 0, locals := 42 }) D k [.ref (t 0), .int x] (wTx k t b cd ln G 1 kd (nI f)) (bI (tkF G 1 kd f x).1) (wTx k t b cd ln (tkF G 1 kd f x).2.1 (tkF G 1 kd f x).2.2.1 (tkF G 1 kd f x).2.2.2.1 (tkF G 1 kd f x).2.2.2.2) := by
  intro sz
  refine Met.ofW (cc := cX2_takeCode) (maxL := 2) (ret := (some .boolean)) (by decide) rfl ?_
  intro p e s m args below meth c s₁ B hml hv
  obtain ⟨rfl, hN, hsz, hP, hK, hD0⟩ := hv
  have hx := B.exec
  have hb := B.bytes
  have hr := B.returns
  have hts := atoms_spec (ws := wsX2_takeCode) B.pre
  have hown : s.vm.findClass RX2 = some m.cls := findClass_of_methodNamed B.named
  have hlocks := B.notSynchronized
  subst hsz
  have hD := hD0.self (sz := s.heap.size)
  generalize hAe : va_A (wTx k t b cd ln G 1 kd (nI f)) s.heap.size = A at hD ⊢
  have hA : ∀ q : Nat, s.heap.size ≤ q → A q := fun q h => by rw [← hAe]; exact Or.inr h
  have hS : va_S A s.heap s.heap [] := va_S.rf
  have hl := lv_entry ([.ref (t 0), .int x]) (n := 2) (Nat.le_of_ble_eq_true rfl)
  rw [lg_entry_eq]
  generalize (lg_sl ([.ref (t 0), .int x]) ++ List.replicate (2 - (lg_sl ([.ref (t 0), .int x])).length) Slot.unset).toArray = ls at hl ⊢
  have hl : lv_has ls 2 [(0, .ref (t 0)), (1, .int x)] := hl
  obtain ⟨H, hHe⟩ : ∃ H, H = s.heap := ⟨_, rfl⟩
  have hP : va_P D vwCl (wTx k t b cd ln G 1 kd (nI f)) H := by rw [hHe]; exact hP
  have hS : va_S A s.heap H [] := by rw [hHe]; exact hS
  rw [← hHe]
  refine absQ (fun Q hQ => ?_)
  refine lv_aload_n hx hb dX2_takeCode_0 rfl (lv_at hl 0 rfl) ?_
  refine va_get (D := D) (ci := 2) (v := .int 1) (C := RX2) (T := TX2) (N := 7) hx hb hts (fun _ h9 => (List.mem_cons_of_mem _ (List.mem_append_left _ (List.mem_append_right _ h9)))) hown hK hP 0 rfl rfl 3 (by decide) (hts _ (List.mem_of_getElem? (i := 1) rfl)) (fun _ h9 => h9) rfl dX2_takeCode_1 ?_
  refine lv_tableIn (off := 86) (tgt := 90) hx hb dX2_takeCode_4 (by decide) (by decide) rfl (by decide) ?_
  refine lv_aload_n hx hb dX2_takeCode_90 rfl (lv_at hl 0 rfl) ?_
  refine lv_iload_n hx hb dX2_takeCode_91 rfl (lv_at hl 1 rfl) ?_
  refine lv_bipush (v := 48) hx hb dX2_takeCode_92 (by decide) ?_
  refine lv_isub hx hb dX2_takeCode_94 ?_
  have hPc : va_P D vwCl (wTx k t b cd ln G 1 kd (nI f)) H := hP.sub [0, 1, 2, 3, 4, 5, 6, 7, 8, 9] rfl
  have hDc : va_D A (wTx k t b cd ln G 1 kd (nI f)) := hD.sub [0, 1, 2, 3, 4, 5, 6, 7, 8, 9] (by decide +kernel) rfl
  refine cl_i (va_runV (As := [.int (x - 48)]) (rest := []) ⟨hx, hb, hml, hown, hts⟩ (c_X2_takeFirst l D k t b cd ln G 1 kd (nI f) (x - 48) H.size) (cwV 1 hts gX2_takeCode_X2_takeFirst rfl rfl rfl (by decide +kernel) ⟨Nat.le_of_ble_eq_true rfl, Nat.le_of_ble_eq_true rfl⟩) ⟨pr_blind, va_recv hK hP (ci := 2) (q0 := 0) rfl rfl, pr_at hN hPc hK hDc⟩ rfl rfl hl.1 rfl (lv_room (Nat.le_of_ble_eq_true rfl)) dX2_takeCode_95 ⟨Nat.le_of_ble_eq_true rfl, Nat.le_of_ble_eq_true rfl⟩) hP hD hS hA [0, 1, 2, 3, 4, 5, 6, 7, 8, 9] [] ([]) [t 0, t 1, b 0, b 1, b 2, b 3, b 4, b 5, b 6, b 7] 10 rfl (wn := wTx k t b cd ln ((tfF G 1 kd (nI f) (x - 48)).2.1) ((tfF G 1 kd (nI f) (x - 48)).2.2.1) ((tfF G 1 kd (nI f) (x - 48)).2.2.2.1) ((tfF G 1 kd (nI f) (x - 48)).2.2.2.2)) rfl rfl rfl rfl (by decide +kernel) rfl rfl (fun H locs hP hD hS => ?_)
  clear hPc hDc
  subst hQ
  exact rt_z hx hb hr hlocks hS dX2_takeCode_98 (hP) (bI_nar _) (rfl)

set_option maxHeartbeats 1000000 in
set_option maxRecDepth 100000 in
theorem c_X2_takeCode_2 (l : Launch) (D : va_G) (k : Nat → ClassId) (t b : Nat → Nat) (cd : Nat → Int32) (ln : Int32) (G : Nat → Nat → Int32) (kd : Int32 × Int32) (f : Nat) (x : Int32) (hf : f < 9) : MI l yX2_takeCode wsX2_takeCode ({ frames := 2, cells := 0, slots := 0, locals := 42 }) D k [.ref (t 0), .int x] (wTx k t b cd ln G 2 kd (nI f)) (bI (tkF G 2 kd f x).1) (wTx k t b cd ln (tkF G 2 kd f x).2.1 (tkF G 2 kd f x).2.2.1 (tkF G 2 kd f x).2.2.2.1 (tkF G 2 kd f x).2.2.2.2) := by
  intro sz
  refine Met.ofW (cc := cX2_takeCode) (maxL := 2) (ret := (some .boolean)) (by decide) rfl ?_
  intro p e s m args below meth c s₁ B hml hv
  obtain ⟨rfl, hN, hsz, hP, hK, hD0⟩ := hv
  have hx := B.exec
  have hb := B.bytes
  have hr := B.returns
  have hts := atoms_spec (ws := wsX2_takeCode) B.pre
  have hown : s.vm.findClass RX2 = some m.cls := findClass_of_methodNamed B.named
  have hlocks := B.notSynchronized
  subst hsz
  have hD := hD0.self (sz := s.heap.size)
  generalize hAe : va_A (wTx k t b cd ln G 2 kd (nI f)) s.heap.size = A at hD ⊢
  have hA : ∀ q : Nat, s.heap.size ≤ q → A q := fun q h => by rw [← hAe]; exact Or.inr h
  have hS : va_S A s.heap s.heap [] := va_S.rf
  have hl := lv_entry ([.ref (t 0), .int x]) (n := 2) (Nat.le_of_ble_eq_true rfl)
  rw [lg_entry_eq]
  generalize (lg_sl ([.ref (t 0), .int x]) ++ List.replicate (2 - (lg_sl ([.ref (t 0), .int x])).length) Slot.unset).toArray = ls at hl ⊢
  have hl : lv_has ls 2 [(0, .ref (t 0)), (1, .int x)] := hl
  obtain ⟨H, hHe⟩ : ∃ H, H = s.heap := ⟨_, rfl⟩
  have hP : va_P D vwCl (wTx k t b cd ln G 2 kd (nI f)) H := by rw [hHe]; exact hP
  have hS : va_S A s.heap H [] := by rw [hHe]; exact hS
  rw [← hHe]
  refine absQ (fun Q hQ => ?_)
  refine lv_aload_n hx hb dX2_takeCode_0 rfl (lv_at hl 0 rfl) ?_
  refine va_get (D := D) (ci := 2) (v := .int 2) (C := RX2) (T := TX2) (N := 7) hx hb hts (fun _ h9 => (List.mem_cons_of_mem _ (List.mem_append_left _ (List.mem_append_right _ h9)))) hown hK hP 0 rfl rfl 3 (by decide) (hts _ (List.mem_of_getElem? (i := 1) rfl)) (fun _ h9 => h9) rfl dX2_takeCode_1 ?_
  refine lv_tableIn (off := 95) (tgt := 99) hx hb dX2_takeCode_4 (by decide) (by decide) rfl (by decide) ?_
  refine lv_aload_n hx hb dX2_takeCode_99 rfl (lv_at hl 0 rfl) ?_
  refine lv_iload_n hx hb dX2_takeCode_100 rfl (lv_at hl 1 rfl) ?_
  refine lv_bipush (v := 48) hx hb dX2_takeCode_101 (by decide) ?_
  refine lv_isub hx hb dX2_takeCode_103 ?_
  have hPc : va_P D vwCl (wTx k t b cd ln G 2 kd (nI f)) H := hP.sub [0, 1, 2, 3, 4, 5, 6, 7, 8, 9] rfl
  have hDc : va_D A (wTx k t b cd ln G 2 kd (nI f)) := hD.sub [0, 1, 2, 3, 4, 5, 6, 7, 8, 9] (by decide +kernel) rfl
  refine cl_i (va_runV (As := [.int (x - 48)]) (rest := []) ⟨hx, hb, hml, hown, hts⟩ (c_X2_takeSecond l D k t b cd ln G 2 kd f (x - 48) hf H.size) (cwV 1 hts gX2_takeCode_X2_takeSecond rfl rfl rfl (by decide +kernel) ⟨Nat.le_of_ble_eq_true rfl, Nat.le_of_ble_eq_true rfl⟩) ⟨pr_blind, va_recv hK hP (ci := 2) (q0 := 0) rfl rfl, pr_at hN hPc hK hDc⟩ rfl rfl hl.1 rfl (lv_room (Nat.le_of_ble_eq_true rfl)) dX2_takeCode_104 ⟨Nat.le_of_ble_eq_true rfl, Nat.le_of_ble_eq_true rfl⟩) hP hD hS hA [0, 1, 2, 3, 4, 5, 6, 7, 8, 9] [] ([]) [t 0, t 1, b 0, b 1, b 2, b 3, b 4, b 5, b 6, b 7] 10 rfl (wn := wTx k t b cd ln ((tsF G 2 kd f (x - 48)).2.1) ((tsF G 2 kd f (x - 48)).2.2.1) ((tsF G 2 kd f (x - 48)).2.2.2.1) ((tsF G 2 kd f (x - 48)).2.2.2.2)) rfl rfl rfl rfl (by decide +kernel) rfl rfl (fun H locs hP hD hS => ?_)
  clear hPc hDc
  subst hQ
  exact rt_z hx hb hr hlocks hS dX2_takeCode_107 (hP) (bI_nar _) (rfl)

set_option maxHeartbeats 1000000 in
set_option maxRecDepth 100000 in
theorem c_X2_takeCode_3 (l : Launch) (D : va_G) (k : Nat → ClassId) (t b : Nat → Nat) (cd : Nat → Int32) (ln : Int32) (G : Nat → Nat → Int32) (kd : Int32 × Int32) (f : Nat) (x : Int32) (hf : f < 9) : MI l yX2_takeCode wsX2_takeCode ({ frames := 2, cells := 0, slots := 0, locals := 42 }) D k [.ref (t 0), .int x] (wTx k t b cd ln G 3 kd (nI f)) (bI (tkF G 3 kd f x).1) (wTx k t b cd ln (tkF G 3 kd f x).2.1 (tkF G 3 kd f x).2.2.1 (tkF G 3 kd f x).2.2.2.1 (tkF G 3 kd f x).2.2.2.2) := by
  intro sz
  refine Met.ofW (cc := cX2_takeCode) (maxL := 2) (ret := (some .boolean)) (by decide) rfl ?_
  intro p e s m args below meth c s₁ B hml hv
  obtain ⟨rfl, hN, hsz, hP, hK, hD0⟩ := hv
  have hx := B.exec
  have hb := B.bytes
  have hr := B.returns
  have hts := atoms_spec (ws := wsX2_takeCode) B.pre
  have hown : s.vm.findClass RX2 = some m.cls := findClass_of_methodNamed B.named
  have hlocks := B.notSynchronized
  subst hsz
  have hD := hD0.self (sz := s.heap.size)
  generalize hAe : va_A (wTx k t b cd ln G 3 kd (nI f)) s.heap.size = A at hD ⊢
  have hA : ∀ q : Nat, s.heap.size ≤ q → A q := fun q h => by rw [← hAe]; exact Or.inr h
  have hS : va_S A s.heap s.heap [] := va_S.rf
  have hl := lv_entry ([.ref (t 0), .int x]) (n := 2) (Nat.le_of_ble_eq_true rfl)
  rw [lg_entry_eq]
  generalize (lg_sl ([.ref (t 0), .int x]) ++ List.replicate (2 - (lg_sl ([.ref (t 0), .int x])).length) Slot.unset).toArray = ls at hl ⊢
  have hl : lv_has ls 2 [(0, .ref (t 0)), (1, .int x)] := hl
  obtain ⟨H, hHe⟩ : ∃ H, H = s.heap := ⟨_, rfl⟩
  have hP : va_P D vwCl (wTx k t b cd ln G 3 kd (nI f)) H := by rw [hHe]; exact hP
  have hS : va_S A s.heap H [] := by rw [hHe]; exact hS
  rw [← hHe]
  refine absQ (fun Q hQ => ?_)
  refine lv_aload_n hx hb dX2_takeCode_0 rfl (lv_at hl 0 rfl) ?_
  refine va_get (D := D) (ci := 2) (v := .int 3) (C := RX2) (T := TX2) (N := 7) hx hb hts (fun _ h9 => (List.mem_cons_of_mem _ (List.mem_append_left _ (List.mem_append_right _ h9)))) hown hK hP 0 rfl rfl 3 (by decide) (hts _ (List.mem_of_getElem? (i := 1) rfl)) (fun _ h9 => h9) rfl dX2_takeCode_1 ?_
  refine lv_tableIn (off := 104) (tgt := 108) hx hb dX2_takeCode_4 (by decide) (by decide) rfl (by decide) ?_
  refine lv_aload_n hx hb dX2_takeCode_108 rfl (lv_at hl 0 rfl) ?_
  refine lv_iconst (v := 4) hx hb dX2_takeCode_109 (by decide) ?_
  refine va_put (D := D) (ci := 2) (v := .int 4) (ty := tyX2 3) (C := RX2) (T := TX2) (N := 7) hx hb hts (fun _ h9 => (List.mem_cons_of_mem _ (List.mem_append_left _ (List.mem_append_right _ h9)))) tyX2 tyX2_ok nmX2 hown hK hP hD hS 0 rfl rfl 3 (by decide) (hts _ (List.mem_of_getElem? (i := 1) rfl)) (fun _ h9 => h9) rfl (tyX2_ok 3 (by decide)) rfl rfl (Nat.le_of_ble_eq_true rfl) dX2_takeCode_110 (fun H locs hP hD hS => ?_)
  have hP : va_P D vwCl ([(t 0, .inr (2, [.ref (t 1), .int ln, .ref (b 0), .int 4, .int kd.1, .int (nI f), .int kd.2])), (t 1, .inl (k 0, 60, .inl cd)), (b 0, .inr (1, [.ref (b 1), .ref (b 2), .ref (b 3), .ref (b 4), .ref (b 5), .ref (b 6), .ref (b 7), .int (G 7 0), .int (G 7 1), .int (G 7 2)])), (b 1, .inl (k 0, 9, .inl (G 0))), (b 2, .inl (k 0, 9, .inl (G 1))), (b 3, .inl (k 0, 9, .inl (G 2))), (b 4, .inl (k 0, 9, .inl (G 3))), (b 5, .inl (k 0, 9, .inl (G 4))), (b 6, .inl (k 0, 12, .inl (G 5))), (b 7, .inl (k 0, 12, .inl (G 6)))]) H := hP
  have hD : va_D A ([(t 0, .inr (2, [.ref (t 1), .int ln, .ref (b 0), .int 4, .int kd.1, .int (nI f), .int kd.2])), (t 1, .inl (k 0, 60, .inl cd)), (b 0, .inr (1, [.ref (b 1), .ref (b 2), .ref (b 3), .ref (b 4), .ref (b 5), .ref (b 6), .ref (b 7), .int (G 7 0), .int (G 7 1), .int (G 7 2)])), (b 1, .inl (k 0, 9, .inl (G 0))), (b 2, .inl (k 0, 9, .inl (G 1))), (b 3, .inl (k 0, 9, .inl (G 2))), (b 4, .inl (k 0, 9, .inl (G 3))), (b 5, .inl (k 0, 9, .inl (G 4))), (b 6, .inl (k 0, 12, .inl (G 5))), (b 7, .inl (k 0, 12, .inl (G 6)))]) := hD
  refine lv_aload_n hx hb dX2_takeCode_113 rfl (lv_at hl 0 rfl) ?_
  refine lv_iconst (v := 0) hx hb dX2_takeCode_114 (by decide) ?_
  refine va_put (D := D) (ci := 2) (v := .int 0) (ty := tyX2 6) (C := RX2) (T := TX2) (N := 7) hx hb hts (fun _ h9 => (List.mem_cons_of_mem _ (List.mem_append_left _ (List.mem_append_right _ h9)))) tyX2 tyX2_ok nmX2 hown hK hP hD hS 0 rfl rfl 6 (by decide) (hts _ (List.mem_of_getElem? (i := 3) rfl)) (fun _ h9 => h9) rfl (tyX2_ok 6 (by decide)) rfl rfl (Nat.le_of_ble_eq_true rfl) dX2_takeCode_115 (fun H locs hP hD hS => ?_)
  have hP : va_P D vwCl ([(t 0, .inr (2, [.ref (t 1), .int ln, .ref (b 0), .int 4, .int kd.1, .int (nI f), .int 0])), (t 1, .inl (k 0, 60, .inl cd)), (b 0, .inr (1, [.ref (b 1), .ref (b 2), .ref (b 3), .ref (b 4), .ref (b 5), .ref (b 6), .ref (b 7), .int (G 7 0), .int (G 7 1), .int (G 7 2)])), (b 1, .inl (k 0, 9, .inl (G 0))), (b 2, .inl (k 0, 9, .inl (G 1))), (b 3, .inl (k 0, 9, .inl (G 2))), (b 4, .inl (k 0, 9, .inl (G 3))), (b 5, .inl (k 0, 9, .inl (G 4))), (b 6, .inl (k 0, 12, .inl (G 5))), (b 7, .inl (k 0, 12, .inl (G 6)))]) H := hP
  have hD : va_D A ([(t 0, .inr (2, [.ref (t 1), .int ln, .ref (b 0), .int 4, .int kd.1, .int (nI f), .int 0])), (t 1, .inl (k 0, 60, .inl cd)), (b 0, .inr (1, [.ref (b 1), .ref (b 2), .ref (b 3), .ref (b 4), .ref (b 5), .ref (b 6), .ref (b 7), .int (G 7 0), .int (G 7 1), .int (G 7 2)])), (b 1, .inl (k 0, 9, .inl (G 0))), (b 2, .inl (k 0, 9, .inl (G 1))), (b 3, .inl (k 0, 9, .inl (G 2))), (b 4, .inl (k 0, 9, .inl (G 3))), (b 5, .inl (k 0, 9, .inl (G 4))), (b 6, .inl (k 0, 12, .inl (G 5))), (b 7, .inl (k 0, 12, .inl (G 6)))]) := hD
  refine lv_iload_n hx hb dX2_takeCode_118 rfl (lv_at hl 1 rfl) ?_
  refine lv_bipush (v := 61) hx hb dX2_takeCode_119 (by decide) ?_
  refine lv_icmp_ne (tgt := 128) hx hb dX2_takeCode_121 (by decide) (fun c_1 => ?_) (fun c_1 => ?_)
  · refine lv_iconst (v := 0) hx hb dX2_takeCode_128 (by decide) ?_
    subst hQ
    exact rt_z hx hb hr hlocks hS dX2_takeCode_129 (hP) (rfl) (by simp [tkF, bI, c_1])
  · refine lv_iconst (v := 1) hx hb dX2_takeCode_124 (by decide) ?_
    refine lv_goto (tgt := 129) hx hb dX2_takeCode_125 (by decide) ?_
    subst hQ
    exact rt_z hx hb hr hlocks hS dX2_takeCode_129 (hP) (rfl) (by simp [tkF, bI, c_1])

set_option maxHeartbeats 1000000 in
set_option maxRecDepth 100000 in
theorem c_X2_takeCode_4 (l : Launch) (D : va_G) (k : Nat → ClassId) (t b : Nat → Nat) (cd : Nat → Int32) (ln : Int32) (G : Nat → Nat → Int32) (kd : Int32 × Int32) (f : Nat) (x : Int32) (hf : f < 9) : MI l yX2_takeCode wsX2_takeCode ({ frames := 2, cells := 0, slots := 0, locals := 42 }) D k [.ref (t 0), .int x] (wTx k t b cd ln G 4 kd (nI f)) (bI (tkF G 4 kd f x).1) (wTx k t b cd ln (tkF G 4 kd f x).2.1 (tkF G 4 kd f x).2.2.1 (tkF G 4 kd f x).2.2.2.1 (tkF G 4 kd f x).2.2.2.2) := by
  intro sz
  refine Met.ofW (cc := cX2_takeCode) (maxL := 2) (ret := (some .boolean)) (by decide) rfl ?_
  intro p e s m args below meth c s₁ B hml hv
  obtain ⟨rfl, hN, hsz, hP, hK, hD0⟩ := hv
  have hx := B.exec
  have hb := B.bytes
  have hr := B.returns
  have hts := atoms_spec (ws := wsX2_takeCode) B.pre
  have hown : s.vm.findClass RX2 = some m.cls := findClass_of_methodNamed B.named
  have hlocks := B.notSynchronized
  subst hsz
  have hD := hD0.self (sz := s.heap.size)
  generalize hAe : va_A (wTx k t b cd ln G 4 kd (nI f)) s.heap.size = A at hD ⊢
  have hA : ∀ q : Nat, s.heap.size ≤ q → A q := fun q h => by rw [← hAe]; exact Or.inr h
  have hS : va_S A s.heap s.heap [] := va_S.rf
  have hl := lv_entry ([.ref (t 0), .int x]) (n := 2) (Nat.le_of_ble_eq_true rfl)
  rw [lg_entry_eq]
  generalize (lg_sl ([.ref (t 0), .int x]) ++ List.replicate (2 - (lg_sl ([.ref (t 0), .int x])).length) Slot.unset).toArray = ls at hl ⊢
  have hl : lv_has ls 2 [(0, .ref (t 0)), (1, .int x)] := hl
  obtain ⟨H, hHe⟩ : ∃ H, H = s.heap := ⟨_, rfl⟩
  have hP : va_P D vwCl (wTx k t b cd ln G 4 kd (nI f)) H := by rw [hHe]; exact hP
  have hS : va_S A s.heap H [] := by rw [hHe]; exact hS
  rw [← hHe]
  refine absQ (fun Q hQ => ?_)
  refine lv_aload_n hx hb dX2_takeCode_0 rfl (lv_at hl 0 rfl) ?_
  refine va_get (D := D) (ci := 2) (v := .int 4) (C := RX2) (T := TX2) (N := 7) hx hb hts (fun _ h9 => (List.mem_cons_of_mem _ (List.mem_append_left _ (List.mem_append_right _ h9)))) hown hK hP 0 rfl rfl 3 (by decide) (hts _ (List.mem_of_getElem? (i := 1) rfl)) (fun _ h9 => h9) rfl dX2_takeCode_1 ?_
  refine lv_tableIn (off := 126) (tgt := 130) hx hb dX2_takeCode_4 (by decide) (by decide) rfl (by decide) ?_
  refine lv_aload_n hx hb dX2_takeCode_130 rfl (lv_at hl 0 rfl) ?_
  refine lv_iconst (v := 5) hx hb dX2_takeCode_131 (by decide) ?_
  refine va_put (D := D) (ci := 2) (v := .int 5) (ty := tyX2 3) (C := RX2) (T := TX2) (N := 7) hx hb hts (fun _ h9 => (List.mem_cons_of_mem _ (List.mem_append_left _ (List.mem_append_right _ h9)))) tyX2 tyX2_ok nmX2 hown hK hP hD hS 0 rfl rfl 3 (by decide) (hts _ (List.mem_of_getElem? (i := 1) rfl)) (fun _ h9 => h9) rfl (tyX2_ok 3 (by decide)) rfl rfl (Nat.le_of_ble_eq_true rfl) dX2_takeCode_132 (fun H locs hP hD hS => ?_)
  have hP : va_P D vwCl ([(t 0, .inr (2, [.ref (t 1), .int ln, .ref (b 0), .int 5, .int kd.1, .int (nI f), .int kd.2])), (t 1, .inl (k 0, 60, .inl cd)), (b 0, .inr (1, [.ref (b 1), .ref (b 2), .ref (b 3), .ref (b 4), .ref (b 5), .ref (b 6), .ref (b 7), .int (G 7 0), .int (G 7 1), .int (G 7 2)])), (b 1, .inl (k 0, 9, .inl (G 0))), (b 2, .inl (k 0, 9, .inl (G 1))), (b 3, .inl (k 0, 9, .inl (G 2))), (b 4, .inl (k 0, 9, .inl (G 3))), (b 5, .inl (k 0, 9, .inl (G 4))), (b 6, .inl (k 0, 12, .inl (G 5))), (b 7, .inl (k 0, 12, .inl (G 6)))]) H := hP
  have hD : va_D A ([(t 0, .inr (2, [.ref (t 1), .int ln, .ref (b 0), .int 5, .int kd.1, .int (nI f), .int kd.2])), (t 1, .inl (k 0, 60, .inl cd)), (b 0, .inr (1, [.ref (b 1), .ref (b 2), .ref (b 3), .ref (b 4), .ref (b 5), .ref (b 6), .ref (b 7), .int (G 7 0), .int (G 7 1), .int (G 7 2)])), (b 1, .inl (k 0, 9, .inl (G 0))), (b 2, .inl (k 0, 9, .inl (G 1))), (b 3, .inl (k 0, 9, .inl (G 2))), (b 4, .inl (k 0, 9, .inl (G 3))), (b 5, .inl (k 0, 9, .inl (G 4))), (b 6, .inl (k 0, 12, .inl (G 5))), (b 7, .inl (k 0, 12, .inl (G 6)))]) := hD
  refine lv_aload_n hx hb dX2_takeCode_135 rfl (lv_at hl 0 rfl) ?_
  refine lv_iload_n hx hb dX2_takeCode_136 rfl (lv_at hl 1 rfl) ?_
  refine lv_bipush (v := 48) hx hb dX2_takeCode_137 (by decide) ?_
  refine lv_isub hx hb dX2_takeCode_139 ?_
  have hPc : va_P D vwCl (wTx k t b cd ln G 5 kd (nI f)) H := hP.sub [0, 1, 2, 3, 4, 5, 6, 7, 8, 9] rfl
  have hDc : va_D A (wTx k t b cd ln G 5 kd (nI f)) := hD.sub [0, 1, 2, 3, 4, 5, 6, 7, 8, 9] (by decide +kernel) rfl
  refine cl_i (va_runV (As := [.int (x - 48)]) (rest := []) ⟨hx, hb, hml, hown, hts⟩ (c_X2_takeDigit l D k t b cd ln G 5 kd f (x - 48) hf H.size) (cwV 1 hts gX2_takeCode_X2_takeDigit rfl rfl rfl (by decide +kernel) ⟨Nat.le_of_ble_eq_true rfl, Nat.le_of_ble_eq_true rfl⟩) ⟨pr_blind, va_recv hK hP (ci := 2) (q0 := 0) rfl rfl, pr_at hN hPc hK hDc⟩ rfl rfl hl.1 rfl (lv_room (Nat.le_of_ble_eq_true rfl)) dX2_takeCode_140 ⟨Nat.le_of_ble_eq_true rfl, Nat.le_of_ble_eq_true rfl⟩) hP hD hS hA [0, 1, 2, 3, 4, 5, 6, 7, 8, 9] [] ([]) [t 0, t 1, b 0, b 1, b 2, b 3, b 4, b 5, b 6, b 7] 10 rfl (wn := wTx k t b cd ln ((tdF G 5 kd f (x - 48)).2.1) ((tdF G 5 kd f (x - 48)).2.2.1) ((tdF G 5 kd f (x - 48)).2.2.2.1) ((tdF G 5 kd f (x - 48)).2.2.2.2)) rfl rfl rfl rfl (by decide +kernel) rfl rfl (fun H locs hP hD hS => ?_)
  clear hPc hDc
  subst hQ
  exact rt_z hx hb hr hlocks hS dX2_takeCode_143 (hP) (bI_nar _) (rfl)

set_option maxHeartbeats 1000000 in
set_option maxRecDepth 100000 in
theorem c_X2_takeCode_5 (l : Launch) (D : va_G) (k : Nat → ClassId) (t b : Nat → Nat) (cd : Nat → Int32) (ln : Int32) (G : Nat → Nat → Int32) (kd : Int32 × Int32) (f : Nat) (x : Int32) (hf : f < 9) : MI l yX2_takeCode wsX2_takeCode ({ frames := 2, cells := 0, slots := 0, locals := 42 }) D k [.ref (t 0), .int x] (wTx k t b cd ln G 5 kd (nI f)) (bI (tkF G 5 kd f x).1) (wTx k t b cd ln (tkF G 5 kd f x).2.1 (tkF G 5 kd f x).2.2.1 (tkF G 5 kd f x).2.2.2.1 (tkF G 5 kd f x).2.2.2.2) := by
  intro sz
  refine Met.ofW (cc := cX2_takeCode) (maxL := 2) (ret := (some .boolean)) (by decide) rfl ?_
  intro p e s m args below meth c s₁ B hml hv
  obtain ⟨rfl, hN, hsz, hP, hK, hD0⟩ := hv
  have hx := B.exec
  have hb := B.bytes
  have hr := B.returns
  have hts := atoms_spec (ws := wsX2_takeCode) B.pre
  have hown : s.vm.findClass RX2 = some m.cls := findClass_of_methodNamed B.named
  have hlocks := B.notSynchronized
  subst hsz
  have hD := hD0.self (sz := s.heap.size)
  generalize hAe : va_A (wTx k t b cd ln G 5 kd (nI f)) s.heap.size = A at hD ⊢
  have hA : ∀ q : Nat, s.heap.size ≤ q → A q := fun q h => by rw [← hAe]; exact Or.inr h
  have hS : va_S A s.heap s.heap [] := va_S.rf
  have hl := lv_entry ([.ref (t 0), .int x]) (n := 2) (Nat.le_of_ble_eq_true rfl)
  rw [lg_entry_eq]
  generalize (lg_sl ([.ref (t 0), .int x]) ++ List.replicate (2 - (lg_sl ([.ref (t 0), .int x])).length) Slot.unset).toArray = ls at hl ⊢
  have hl : lv_has ls 2 [(0, .ref (t 0)), (1, .int x)] := hl
  obtain ⟨H, hHe⟩ : ∃ H, H = s.heap := ⟨_, rfl⟩
  have hP : va_P D vwCl (wTx k t b cd ln G 5 kd (nI f)) H := by rw [hHe]; exact hP
  have hS : va_S A s.heap H [] := by rw [hHe]; exact hS
  rw [← hHe]
  refine absQ (fun Q hQ => ?_)
  refine lv_aload_n hx hb dX2_takeCode_0 rfl (lv_at hl 0 rfl) ?_
  refine va_get (D := D) (ci := 2) (v := .int 5) (C := RX2) (T := TX2) (N := 7) hx hb hts (fun _ h9 => (List.mem_cons_of_mem _ (List.mem_append_left _ (List.mem_append_right _ h9)))) hown hK hP 0 rfl rfl 3 (by decide) (hts _ (List.mem_of_getElem? (i := 1) rfl)) (fun _ h9 => h9) rfl dX2_takeCode_1 ?_
  refine lv_tableIn (off := 140) (tgt := 144) hx hb dX2_takeCode_4 (by decide) (by decide) rfl (by decide) ?_
  refine lv_iload_n hx hb dX2_takeCode_144 rfl (lv_at hl 1 rfl) ?_
  refine lv_bipush (v := 59) hx hb dX2_takeCode_145 (by decide) ?_
  refine lv_icmp_ne (tgt := 158) hx hb dX2_takeCode_147 (by decide) (fun c_1 => ?_) (fun c_1 => ?_)
  · refine lv_aload_n hx hb dX2_takeCode_158 rfl (lv_at hl 0 rfl) ?_
    have hPc : va_P D vwCl (wTx k t b cd ln G 5 kd (nI f)) H := hP.sub [0, 1, 2, 3, 4, 5, 6, 7, 8, 9] rfl
    have hDc : va_D A (wTx k t b cd ln G 5 kd (nI f)) := hD.sub [0, 1, 2, 3, 4, 5, 6, 7, 8, 9] (by decide +kernel) rfl
    refine cl_i0 (va_runV (As := []) (rest := []) ⟨hx, hb, hml, hown, hts⟩ (c_X2_canGrow l D k t b cd ln G 5 kd f hf H.size) (cwV 0 hts gX2_takeCode_X2_canGrow rfl rfl rfl (by decide +kernel) ⟨Nat.le_of_ble_eq_true rfl, Nat.le_of_ble_eq_true rfl⟩) ⟨pr_blind, va_recv hK hP (ci := 2) (q0 := 0) rfl rfl, pr_at hN hPc hK hDc⟩ rfl rfl hl.1 rfl (lv_room (Nat.le_of_ble_eq_true rfl)) dX2_takeCode_159 ⟨Nat.le_of_ble_eq_true rfl, Nat.le_of_ble_eq_true rfl⟩) hP hD hS hA [0, 1, 2, 3, 4, 5, 6, 7, 8, 9] rfl (fun H locs hP hD hS => ?_)
    clear hPc hDc
    refine lv_if_eq (tgt := 180) hx hb dX2_takeCode_162 (by decide) (fun c_2 => ?_) (fun c_2 => ?_)
    · have c_2 := bI_eq.mp c_2
      refine lv_iconst (v := 0) hx hb dX2_takeCode_180 (by decide) ?_
      subst hQ
      exact rt_z hx hb hr hlocks hS dX2_takeCode_181 (by rw [tkF, if_neg c_1, if_neg (by rw [c_2]; decide)]; exact hP) (rfl) (by rw [tkF, if_neg c_1, if_neg (by rw [c_2]; decide)]; rfl)
    · have c_2 := bI_ne.mp c_2
      refine lv_aload_n hx hb dX2_takeCode_165 rfl (lv_at hl 0 rfl) ?_
      refine lv_iload_n hx hb dX2_takeCode_166 rfl (lv_at hl 1 rfl) ?_
      refine lv_bipush (v := 48) hx hb dX2_takeCode_167 (by decide) ?_
      refine lv_isub hx hb dX2_takeCode_169 ?_
      have hPc : va_P D vwCl (wTx k t b cd ln G 5 kd (nI f)) H := hP.sub [0, 1, 2, 3, 4, 5, 6, 7, 8, 9] rfl
      have hDc : va_D A (wTx k t b cd ln G 5 kd (nI f)) := hD.sub [0, 1, 2, 3, 4, 5, 6, 7, 8, 9] (by decide +kernel) rfl
      refine cl_i (va_runV (As := [.int (x - 48)]) (rest := []) ⟨hx, hb, hml, hown, hts⟩ (c_X2_takeDigit l D k t b cd ln G 5 kd f (x - 48) hf H.size) (cwV 1 hts gX2_takeCode_X2_takeDigit rfl rfl rfl (by decide +kernel) ⟨Nat.le_of_ble_eq_true rfl, Nat.le_of_ble_eq_true rfl⟩) ⟨pr_blind, va_recv hK hP (ci := 2) (q0 := 0) rfl rfl, pr_at hN hPc hK hDc⟩ rfl rfl hl.1 rfl (lv_room (Nat.le_of_ble_eq_true rfl)) dX2_takeCode_170 ⟨Nat.le_of_ble_eq_true rfl, Nat.le_of_ble_eq_true rfl⟩) hP hD hS hA [0, 1, 2, 3, 4, 5, 6, 7, 8, 9] [] ([]) [t 0, t 1, b 0, b 1, b 2, b 3, b 4, b 5, b 6, b 7] 10 rfl (wn := wTx k t b cd ln ((tdF G 5 kd f (x - 48)).2.1) ((tdF G 5 kd f (x - 48)).2.2.1) ((tdF G 5 kd f (x - 48)).2.2.2.1) ((tdF G 5 kd f (x - 48)).2.2.2.2)) rfl rfl rfl rfl (by decide +kernel) rfl rfl (fun H locs hP hD hS => ?_)
      clear hPc hDc
      refine lv_if_eq (tgt := 180) hx hb dX2_takeCode_173 (by decide) (fun c_3 => ?_) (fun c_3 => ?_)
      · have c_3 := bI_eq.mp c_3
        refine lv_iconst (v := 0) hx hb dX2_takeCode_180 (by decide) ?_
        subst hQ
        exact rt_z hx hb hr hlocks hS dX2_takeCode_181 (by rw [tkF, if_neg c_1, if_pos c_2]; exact hP) (rfl) (by rw [tkF, if_neg c_1, if_pos c_2, c_3]; rfl)
      · have c_3 := bI_ne.mp c_3
        refine lv_iconst (v := 1) hx hb dX2_takeCode_176 (by decide) ?_
        refine lv_goto (tgt := 181) hx hb dX2_takeCode_177 (by decide) ?_
        subst hQ
        exact rt_z hx hb hr hlocks hS dX2_takeCode_181 (by rw [tkF, if_neg c_1, if_pos c_2]; exact hP) (rfl) (by rw [tkF, if_neg c_1, if_pos c_2, c_3]; rfl)
  · refine lv_aload_n hx hb dX2_takeCode_150 rfl (lv_at hl 0 rfl) ?_
    refine lv_iload_n hx hb dX2_takeCode_151 rfl (lv_at hl 1 rfl) ?_
    have hPc : va_P D vwCl (wTx k t b cd ln G 5 kd (nI f)) H := hP.sub [0, 1, 2, 3, 4, 5, 6, 7, 8, 9] rfl
    have hDc : va_D A (wTx k t b cd ln G 5 kd (nI f)) := hD.sub [0, 1, 2, 3, 4, 5, 6, 7, 8, 9] (by decide +kernel) rfl
    refine cl_i (va_runV (As := [.int x]) (rest := []) ⟨hx, hb, hml, hown, hts⟩ (c_X2_takeSeparator l D k t b cd ln G 5 kd (nI f) x H.size) (cwV 1 hts gX2_takeCode_X2_takeSeparator rfl rfl rfl (by decide +kernel) ⟨Nat.le_of_ble_eq_true rfl, Nat.le_of_ble_eq_true rfl⟩) ⟨pr_blind, va_recv hK hP (ci := 2) (q0 := 0) rfl rfl, pr_at hN hPc hK hDc⟩ rfl rfl hl.1 rfl (lv_room (Nat.le_of_ble_eq_true rfl)) dX2_takeCode_152 ⟨Nat.le_of_ble_eq_true rfl, Nat.le_of_ble_eq_true rfl⟩) hP hD hS hA [0, 1, 2, 3, 4, 5, 6, 7, 8, 9] [] ([]) [t 0, t 1, b 0, b 1, b 2, b 3, b 4, b 5, b 6, b 7] 10 rfl (wn := wTx k t b cd ln ((spF G kd (nI f) x).2.1) ((spF G kd (nI f) x).2.2.1) ((spF G kd (nI f) x).2.2.2.1) ((spF G kd (nI f) x).2.2.2.2)) rfl rfl rfl rfl (by decide +kernel) rfl rfl (fun H locs hP hD hS => ?_)
    clear hPc hDc
    refine lv_goto (tgt := 181) hx hb dX2_takeCode_155 (by decide) ?_
    subst hQ
    exact rt_z hx hb hr hlocks hS dX2_takeCode_181 (by rw [tkF, if_pos c_1]; exact hP) (bI_nar _) (by rw [tkF, if_pos c_1])

set_option maxHeartbeats 1000000 in
set_option maxRecDepth 100000 in
theorem c_X2_takeCode_6 (l : Launch) (D : va_G) (k : Nat → ClassId) (t b : Nat → Nat) (cd : Nat → Int32) (ln : Int32) (G : Nat → Nat → Int32) (kd : Int32 × Int32) (f : Nat) (x : Int32) (hf : f < 9) : MI l yX2_takeCode wsX2_takeCode ({ frames := 2, cells := 0, slots := 0, locals := 42 }) D k [.ref (t 0), .int x] (wTx k t b cd ln G 6 kd (nI f)) (bI (tkF G 6 kd f x).1) (wTx k t b cd ln (tkF G 6 kd f x).2.1 (tkF G 6 kd f x).2.2.1 (tkF G 6 kd f x).2.2.2.1 (tkF G 6 kd f x).2.2.2.2) := by
  intro sz
  refine Met.ofW (cc := cX2_takeCode) (maxL := 2) (ret := (some .boolean)) (by decide) rfl ?_
  intro p e s m args below meth c s₁ B hml hv
  obtain ⟨rfl, hN, hsz, hP, hK, hD0⟩ := hv
  have hx := B.exec
  have hb := B.bytes
  have hr := B.returns
  have hts := atoms_spec (ws := wsX2_takeCode) B.pre
  have hown : s.vm.findClass RX2 = some m.cls := findClass_of_methodNamed B.named
  have hlocks := B.notSynchronized
  subst hsz
  have hD := hD0.self (sz := s.heap.size)
  generalize hAe : va_A (wTx k t b cd ln G 6 kd (nI f)) s.heap.size = A at hD ⊢
  have hA : ∀ q : Nat, s.heap.size ≤ q → A q := fun q h => by rw [← hAe]; exact Or.inr h
  have hS : va_S A s.heap s.heap [] := va_S.rf
  have hl := lv_entry ([.ref (t 0), .int x]) (n := 2) (Nat.le_of_ble_eq_true rfl)
  rw [lg_entry_eq]
  generalize (lg_sl ([.ref (t 0), .int x]) ++ List.replicate (2 - (lg_sl ([.ref (t 0), .int x])).length) Slot.unset).toArray = ls at hl ⊢
  have hl : lv_has ls 2 [(0, .ref (t 0)), (1, .int x)] := hl
  obtain ⟨H, hHe⟩ : ∃ H, H = s.heap := ⟨_, rfl⟩
  have hP : va_P D vwCl (wTx k t b cd ln G 6 kd (nI f)) H := by rw [hHe]; exact hP
  have hS : va_S A s.heap H [] := by rw [hHe]; exact hS
  rw [← hHe]
  refine absQ (fun Q hQ => ?_)
  refine lv_aload_n hx hb dX2_takeCode_0 rfl (lv_at hl 0 rfl) ?_
  refine va_get (D := D) (ci := 2) (v := .int 6) (C := RX2) (T := TX2) (N := 7) hx hb hts (fun _ h9 => (List.mem_cons_of_mem _ (List.mem_append_left _ (List.mem_append_right _ h9)))) hown hK hP 0 rfl rfl 3 (by decide) (hts _ (List.mem_of_getElem? (i := 1) rfl)) (fun _ h9 => h9) rfl dX2_takeCode_1 ?_
  refine lv_tableOut (tgt := 182) hx hb dX2_takeCode_4 (by decide) (by decide) ?_
  refine lv_aload_n hx hb dX2_takeCode_182 rfl (lv_at hl 0 rfl) ?_
  refine lv_iload_n hx hb dX2_takeCode_183 rfl (lv_at hl 1 rfl) ?_
  have hPc : va_P D vwCl (wTx k t b cd ln G 6 kd (nI f)) H := hP.sub [0, 1, 2, 3, 4, 5, 6, 7, 8, 9] rfl
  have hDc : va_D A (wTx k t b cd ln G 6 kd (nI f)) := hD.sub [0, 1, 2, 3, 4, 5, 6, 7, 8, 9] (by decide +kernel) rfl
  refine cl_i (va_runV (As := [.int x]) (rest := []) ⟨hx, hb, hml, hown, hts⟩ (c_X2_takeSeparator l D k t b cd ln G 6 kd (nI f) x H.size) (cwV 1 hts gX2_takeCode_X2_takeSeparator rfl rfl rfl (by decide +kernel) ⟨Nat.le_of_ble_eq_true rfl, Nat.le_of_ble_eq_true rfl⟩) ⟨pr_blind, va_recv hK hP (ci := 2) (q0 := 0) rfl rfl, pr_at hN hPc hK hDc⟩ rfl rfl hl.1 rfl (lv_room (Nat.le_of_ble_eq_true rfl)) dX2_takeCode_184 ⟨Nat.le_of_ble_eq_true rfl, Nat.le_of_ble_eq_true rfl⟩) hP hD hS hA [0, 1, 2, 3, 4, 5, 6, 7, 8, 9] [] ([]) [t 0, t 1, b 0, b 1, b 2, b 3, b 4, b 5, b 6, b 7] 10 rfl (wn := wTx k t b cd ln ((spF G kd (nI f) x).2.1) ((spF G kd (nI f) x).2.2.1) ((spF G kd (nI f) x).2.2.2.1) ((spF G kd (nI f) x).2.2.2.2)) rfl rfl rfl rfl (by decide +kernel) rfl rfl (fun H locs hP hD hS => ?_)
  clear hPc hDc
  subst hQ
  exact rt_z hx hb hr hlocks hS dX2_takeCode_187 (hP) (bI_nar _) (rfl)

theorem c_X2_takeCode (l : Launch) (D : va_G) (k : Nat → ClassId) (t b : Nat → Nat) (cd : Nat → Int32) (ln : Int32) (G : Nat → Nat → Int32) (pl : Nat) (kd : Int32 × Int32) (f : Nat) (x : Int32) (hp : pl < 7) (hf : f < 9) : MI l yX2_takeCode wsX2_takeCode ({ frames := 2, cells := 0, slots := 0, locals := 42 }) D k [.ref (t 0), .int x] (wTx k t b cd ln G (nI pl) kd (nI f)) (bI (tkF G pl kd f x).1) (wTx k t b cd ln (tkF G pl kd f x).2.1 (tkF G pl kd f x).2.2.1 (tkF G pl kd f x).2.2.2.1 (tkF G pl kd f x).2.2.2.2) := by
  match pl, hp with
  | 0, _ => exact c_X2_takeCode_0 l D k t b cd ln G kd f x hf
  | 1, _ => exact c_X2_takeCode_1 l D k t b cd ln G kd f x hf
  | 2, _ => exact c_X2_takeCode_2 l D k t b cd ln G kd f x hf
  | 3, _ => exact c_X2_takeCode_3 l D k t b cd ln G kd f x hf
  | 4, _ => exact c_X2_takeCode_4 l D k t b cd ln G kd f x hf
  | 5, _ => exact c_X2_takeCode_5 l D k t b cd ln G kd f x hf
  | 6, _ => exact c_X2_takeCode_6 l D k t b cd ln G kd f x hf
