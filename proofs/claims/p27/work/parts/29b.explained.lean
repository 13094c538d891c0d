set_option maxHeartbeats 1000000 in
set_option maxRecDepth 100000 in
theorem c_X4_explained (l : Launch) (D : va_G) (k : Nat → ClassId) (d : Nat → Nat → Nat) (ns : Int32) (S : Nat → Nat → Int32)  (hnd : ¬ smF (S 0) 9 ≤ 0 → vf_n64 (shF (smF (S 0) 9) (smF (S 4) 9))) : MD l yX4_explained wsX4_explained ({ frames := 1, cells := 0, slots := 0, locals := 25 }) D k [.ref (d 0 0)] (wXo d ns ++ (wSt k (d 1) S)) (shX (smF (S 0) 9) (smF (S 4) 9)) (wXo d ns ++ (wSt k (d 1) S)) := by
  intro sz
  refine Met.ofW (cc := cX4_explained) (maxL := 2) (ret := (some .double)) (by decide) rfl ?_
  intro p e s m args below meth c s₁ B hml hv
  obtain ⟨rfl, hN, hsz, hP, hK, hD0⟩ := hv
  have hx := B.exec
  have hb := B.bytes
  have hr := B.returns
  have hts := atoms_spec (ws := wsX4_explained) B.pre
  have hown : s.vm.findClass RX4 = some m.cls := findClass_of_methodNamed B.named
  have hlocks := B.notSynchronized
  subst hsz
  have hD := hD0.self (sz := s.heap.size)
  generalize hAe : va_A (wXo d ns ++ (wSt k (d 1) S)) s.heap.size = A at hD ⊢
  have hA : ∀ q : Nat, s.heap.size ≤ q → A q := fun q h => by rw [← hAe]; exact Or.inr h
  have hS : va_S A s.heap s.heap [] := va_S.rf
  have hl := lv_entry ([.ref (d 0 0)]) (n := 2) (Nat.le_of_ble_eq_true rfl)
  rw [lg_entry_eq]
  generalize (lg_sl ([.ref (d 0 0)]) ++ List.replicate (2 - (lg_sl ([.ref (d 0 0)])).length) Slot.unset).toArray = ls at hl ⊢
  have hl : lv_has ls 2 [(0, .ref (d 0 0))] := hl
  obtain ⟨H, hHe⟩ : ∃ H, H = s.heap := ⟨_, rfl⟩
  have hP : va_P D vwCl (wXo d ns ++ (wSt k (d 1) S)) H := by rw [hHe]; exact hP
  have hS : va_S A s.heap H [] := by rw [hHe]; exact hS
  rw [← hHe]
  refine absQ (fun Q hQ => ?_)
  refine lv_aload_n hx hb dX4_explained_0 rfl (lv_at hl 0 rfl) ?_
  refine va_get (D := D) (ci := 4) (v := .ref (d 1 0)) (C := RX4) (T := TX4) (N := 9) hx hb hts (fun _ h9 => (List.mem_cons_of_mem _ (List.mem_append_left _ (List.mem_append_right _ h9)))) hown hK hP 0 rfl rfl 0 (by decide) (hts _ (List.mem_of_getElem? (i := 1) rfl)) (fun _ h9 => h9) rfl dX4_explained_1 ?_
  refine va_get (D := D) (ci := 1) (v := .ref ((d 1) 1)) (C := RX1) (T := TX1) (N := 10) hx hb hts (fun _ h9 => (List.mem_cons_of_mem _ (List.mem_append_right _ h9))) hown hK hP 1 rfl rfl 0 (by decide) (hts _ (List.mem_of_getElem? (i := 2) rfl)) (fun _ h9 => h9) rfl dX4_explained_4 ?_
  have hPc : va_P D vwCl ([((d 1) 1, .inl (k 0, 9, .inl (S 0)))]) H := hP.sub [2] rfl
  have hDc : va_D A ([((d 1) 1, .inl (k 0, 9, .inl (S 0)))]) := hD.sub [2] (by decide +kernel) rfl
  refine cl_i0 (va_runS (As := [.ref ((d 1) 1)]) (rest := []) ⟨hx, hb, hml, hown, hts⟩ (c_X4_sum l D k ((d 1) 1) (S 0) H.size) (va_cwS 1 hts gX4_explained_X4_sum rfl rfl rfl (by decide +kernel) ⟨Nat.le_of_ble_eq_true rfl, Nat.le_of_ble_eq_true rfl⟩) ⟨pr_blind, pr_at hN hPc hK hDc⟩ rfl rfl hl.1 rfl (lv_room (Nat.le_of_ble_eq_true rfl)) dX4_explained_7 ⟨Nat.le_of_ble_eq_true rfl, Nat.le_of_ble_eq_true rfl⟩) hP hD hS hA [2] rfl (fun H locs hP hD hS => ?_)
  clear hPc hDc
  refine lv_istore_n (lv' := [(1, .int (smF (S 0) 9)), (0, .ref (d 0 0))]) hx hb dX4_explained_10 rfl hl (by decide) rfl (fun ls hl => ?_)
  refine lv_iload_n hx hb dX4_explained_11 rfl (lv_at hl 0 rfl) ?_
  refine lv_if_gt (tgt := 17) hx hb dX4_explained_12 (by decide) (fun c_1 => ?_) (fun c_1 => ?_)
  · refine lv_iload_n hx hb dX4_explained_17 rfl (lv_at hl 0 rfl) ?_
    refine lv_aload_n hx hb dX4_explained_18 rfl (lv_at hl 1 rfl) ?_
    refine va_get (D := D) (ci := 4) (v := .ref (d 1 0)) (C := RX4) (T := TX4) (N := 9) hx hb hts (fun _ h9 => (List.mem_cons_of_mem _ (List.mem_append_left _ (List.mem_append_right _ h9)))) hown hK hP 0 rfl rfl 0 (by decide) (hts _ (List.mem_of_getElem? (i := 1) rfl)) (fun _ h9 => h9) rfl dX4_explained_19 ?_
    refine va_get (D := D) (ci := 1) (v := .ref ((d 1) 5)) (C := RX1) (T := TX1) (N := 10) hx hb hts (fun _ h9 => (List.mem_cons_of_mem _ (List.mem_append_right _ h9))) hown hK hP 1 rfl rfl 4 (by decide) (hts _ (List.mem_of_getElem? (i := 3) rfl)) (fun _ h9 => h9) rfl dX4_explained_22 ?_
    have hPc : va_P D vwCl ([((d 1) 5, .inl (k 0, 9, .inl (S 4)))]) H := hP.sub [6] rfl
    have hDc : va_D A ([((d 1) 5, .inl (k 0, 9, .inl (S 4)))]) := hD.sub [6] (by decide +kernel) rfl
    refine cl_i0 (va_runS (As := [.ref ((d 1) 5)]) (rest := [.int (smF (S 0) 9)]) ⟨hx, hb, hml, hown, hts⟩ (c_X4_sum l D k ((d 1) 5) (S 4) H.size) (va_cwS 1 hts gX4_explained_X4_sum rfl rfl rfl (by decide +kernel) ⟨Nat.le_of_ble_eq_true rfl, Nat.le_of_ble_eq_true rfl⟩) ⟨pr_blind, pr_at hN hPc hK hDc⟩ rfl rfl hl.1 rfl (lv_room (Nat.le_of_ble_eq_true rfl)) dX4_explained_25 ⟨Nat.le_of_ble_eq_true rfl, Nat.le_of_ble_eq_true rfl⟩) hP hD hS hA [6] rfl (fun H locs hP hD hS => ?_)
    clear hPc hDc
    refine lv_isub hx hb dX4_explained_28 ?_
    refine lv_i2d hx hb dX4_explained_29 ?_
    refine lv_iload_n hx hb dX4_explained_30 rfl (lv_at hl 0 rfl) ?_
    refine lv_i2d hx hb dX4_explained_31 ?_
    refine lv_ddiv hx hb dX4_explained_32 (hnd (by first | exact c_1 | exact Int32.not_le.mpr c_1)) ?_
    subst hQ
    exact rt_d hx hb hr hlocks hS dX4_explained_33 (hP) (by rw [shX, if_neg (by first | exact c_1 | exact Int32.not_le.mpr c_1)]; rfl)
  · refine lv_dconst1 hx hb dX4_explained_15 ?_
    subst hQ
    exact rt_d hx hb hr hlocks hS dX4_explained_16 (hP) (by rw [shX, if_pos (by first | exact c_1 | exact Int32.not_lt.mp c_1)])
