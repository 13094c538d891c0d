theorem opnL_len (S : Nat → Nat → Int32) : (opnL S).length ≤ 511 := by
  have h1 := List.length_filter_le (fun m => opR (S 3) m 9 0) (allL S)
  have h2 := allL_len S
  unfold opnL opnF
  omega

set_option maxHeartbeats 1000000 in
set_option maxRecDepth 100000 in
theorem c_X4_cover (l : Launch) (D : va_G) (k : Nat → ClassId) (d v : Nat → Nat → Nat) (S : Nat → Nat → Int32) (Z : Nat → Nat → Nat → Int32) (ns : Nat) (q cv : Nat) (hns : ns ≤ 6) (hq : q < 9) (hcv : cv ≤ 999) : MID l yX4_cover wsX4_cover ({ frames := 4, cells := 0, slots := 0, locals := 90 }) D k [.ref (d 0 0), .int (nI q), .int (nI cv)] (wXo d (nI ns) ++ (wSt k (d 1) S ++ ([(d 3 0, .inl (k 2, 6, .inr (.inr (.inr (.inr (svA v))))))] ++ (wSt k (v 0) (Z 0) ++ (wSt k (v 1) (Z 1) ++ (wSt k (v 2) (Z 2) ++ (wSt k (v 3) (Z 3) ++ (wSt k (v 4) (Z 4) ++ (wSt k (v 5) (Z 5)))))))))) (S 0 q) (wXo d (nI (svN ns)) ++ (wSt k (d 1) (anS (gC S q (nI cv))) ++ wSv k (d 3 0) (svE v ns) (svZ Z ns S))) := by
  intro sz
  refine Met.ofW (cc := cX4_cover) (maxL := 4) (ret := (some .int)) (by decide) rfl ?_
  intro p e s m args below meth c s₁ B hml hv
  obtain ⟨rfl, hN, hsz, hP, hK, hD0⟩ := hv
  have hx := B.exec
  have hb := B.bytes
  have hr := B.returns
  have hts := atoms_spec (ws := wsX4_cover) B.pre
  have hown : s.vm.findClass RX4 = some m.cls := findClass_of_methodNamed B.named
  have hlocks := B.notSynchronized
  subst hsz
  have hD := hD0.self (sz := s.heap.size)
  generalize hAe : va_A (wXo d (nI ns) ++ (wSt k (d 1) S ++ ([(d 3 0, .inl (k 2, 6, .inr (.inr (.inr (.inr (svA v))))))] ++ (wSt k (v 0) (Z 0) ++ (wSt k (v 1) (Z 1) ++ (wSt k (v 2) (Z 2) ++ (wSt k (v 3) (Z 3) ++ (wSt k (v 4) (Z 4) ++ (wSt k (v 5) (Z 5)))))))))) s.heap.size = A at hD ⊢
  have hA : ∀ q : Nat, s.heap.size ≤ q → A q := fun q h => by rw [← hAe]; exact Or.inr h
  have hS : va_S A s.heap s.heap [] := va_S.rf
  have hl := lv_entry ([.ref (d 0 0), .int (nI q), .int (nI cv)]) (n := 4) (Nat.le_of_ble_eq_true rfl)
  rw [lg_entry_eq]
  generalize (lg_sl ([.ref (d 0 0), .int (nI q), .int (nI cv)]) ++ List.replicate (4 - (lg_sl ([.ref (d 0 0), .int (nI q), .int (nI cv)])).length) Slot.unset).toArray = ls at hl ⊢
  have hl : lv_has ls 4 [(0, .ref (d 0 0)), (1, .int (nI q)), (2, .int (nI cv))] := hl
  obtain ⟨H, hHe⟩ : ∃ H, H = s.heap := ⟨_, rfl⟩
  have hP : va_P D vwCl (wXo d (nI ns) ++ (wSt k (d 1) S ++ ([(d 3 0, .inl (k 2, 6, .inr (.inr (.inr (.inr (svA v))))))] ++ (wSt k (v 0) (Z 0) ++ (wSt k (v 1) (Z 1) ++ (wSt k (v 2) (Z 2) ++ (wSt k (v 3) (Z 3) ++ (wSt k (v 4) (Z 4) ++ (wSt k (v 5) (Z 5)))))))))) H := by rw [hHe]; exact hP
  have hS : va_S A s.heap H [] := by rw [hHe]; exact hS
  rw [← hHe]
  refine absQ (fun Q hQ => ?_)
  refine lv_iload_n hx hb dX4_cover_0 rfl (lv_at hl 1 rfl) ?_
  have hPc : va_P D vwCl ([]) H := hP.sub [] rfl
  have hDc : va_D A ([]) := hD.sub [] (by decide +kernel) rfl
  refine cl_i0 (va_runS (As := [.int (nI q)]) (rest := []) ⟨hx, hb, hml, hown, hts⟩ (c_X4_isPiece l D k (nI q) H.size) (va_cwS 1 hts gX4_cover_X4_isPiece rfl rfl rfl (by decide +kernel) ⟨Nat.le_of_ble_eq_true rfl, Nat.le_of_ble_eq_true rfl⟩) ⟨pr_blind, pr_at hN hPc hK hDc⟩ rfl rfl hl.1 rfl (lv_room (Nat.le_of_ble_eq_true rfl)) dX4_cover_1 ⟨Nat.le_of_ble_eq_true rfl, Nat.le_of_ble_eq_true rfl⟩) hP hD hS hA [] rfl (fun H locs hP hD hS => ?_)
  clear hPc hDc
  refine lv_if_ne (tgt := 17) hx hb dX4_cover_4 (by decide) (fun c_1 => ?_) (fun c_1 => ?_)
  · have c_1 := bI_ne.mp c_1
    refine lv_iload_n hx hb dX4_cover_17 rfl (lv_at hl 2 rfl) ?_
    refine lv_if_lt (tgt := 28) hx hb dX4_cover_18 (by decide) (fun c_2 => ?_) (fun c_2 => ?_)
    · have c_2 : cv < 0 := (nI_ltI (a := cv) (b := 0) (by omega) (by omega)).mp c_2
      exact absurd c_2 (by omega)
    · have c_2 : ¬ (cv < 0) := fun h9 => c_2 ((nI_ltI (a := cv) (b := 0) (by omega) (by omega)).mpr h9)
      refine lv_iload_n hx hb dX4_cover_21 rfl (lv_at hl 2 rfl) ?_
      refine lv_sipush (v := 999) hx hb dX4_cover_22 (by decide) ?_
      refine lv_icmp_le (tgt := 38) hx hb dX4_cover_25 (by decide) (fun c_3 => ?_) (fun c_3 => ?_)
      · have c_3 : cv ≤ 999 := (nI_leI (a := cv) (b := 999) (by omega) (by omega)).mp c_3
        refine lv_aload_n hx hb dX4_cover_38 rfl (lv_at hl 0 rfl) ?_
        have hPc : va_P D vwCl (wXo d (nI ns) ++ (wSt k (d 1) S ++ wSv k (d 3 0) v Z)) H := hP.sub [0, 1, 2, 3, 4, 5, 6, 7, 8, 9, 10, 11, 12, 13, 14, 15, 16, 17, 18, 19, 20, 21, 22, 23, 24, 25, 26, 27, 28, 29, 30, 31, 32, 33, 34, 35, 36, 37, 38, 39, 40, 41, 42, 43, 44, 45, 46, 47, 48, 49, 50, 51, 52, 53, 54, 55, 56, 57] rfl
        have hDc : va_D A (wXo d (nI ns) ++ (wSt k (d 1) S ++ wSv k (d 3 0) v Z)) := hD.sub [0, 1, 2, 3, 4, 5, 6, 7, 8, 9, 10, 11, 12, 13, 14, 15, 16, 17, 18, 19, 20, 21, 22, 23, 24, 25, 26, 27, 28, 29, 30, 31, 32, 33, 34, 35, 36, 37, 38, 39, 40, 41, 42, 43, 44, 45, 46, 47, 48, 49, 50, 51, 52, 53, 54, 55, 56, 57] (by decide +kernel) rfl
        refine cl_vD (va_runV (As := []) (rest := []) ⟨hx, hb, hml, hown, hts⟩ (c_X4_saveState l D k d v S Z ns hns H.size) (cwV 0 hts gX4_cover_X4_saveState rfl rfl rfl (by decide +kernel) ⟨Nat.le_of_ble_eq_true rfl, Nat.le_of_ble_eq_true rfl⟩) ⟨pr_blind, va_recv hK hP (ci := 4) (q0 := 0) rfl rfl, pr_at hN hPc hK hDc⟩ rfl rfl hl.1 rfl (lv_room (Nat.le_of_ble_eq_true rfl)) dX4_cover_39 ⟨Nat.le_of_ble_eq_true rfl, Nat.le_of_ble_eq_true rfl⟩) hP hD hS hA [0, 1, 2, 3, 4, 5, 6, 7, 8, 9, 10, 11, 12, 13, 14, 15, 16, 17, 18, 19, 20, 21, 22, 23, 24, 25, 26, 27, 28, 29, 30, 31, 32, 33, 34, 35, 36, 37, 38, 39, 40, 41, 42, 43, 44, 45, 46, 47, 48, 49, 50, 51, 52, 53, 54, 55, 56, 57] [] rfl (wr := []) rfl (by decide +kernel) (by decide +kernel) (fun H locs hP hD hS => ?_)
        have hP : va_P D vwCl (wXo d (nI (svN ns)) ++ (wSt k (d 1) S ++ ([(d 3 0, .inl (k 2, 6, .inr (.inr (.inr (.inr (svA (svE v ns)))))))] ++ (wSt k ((svE v ns) 0) ((svZ Z ns S) 0) ++ (wSt k ((svE v ns) 1) ((svZ Z ns S) 1) ++ (wSt k ((svE v ns) 2) ((svZ Z ns S) 2) ++ (wSt k ((svE v ns) 3) ((svZ Z ns S) 3) ++ (wSt k ((svE v ns) 4) ((svZ Z ns S) 4) ++ (wSt k ((svE v ns) 5) ((svZ Z ns S) 5)))))))))) H := hP
        have hD : va_D A (wXo d (nI (svN ns)) ++ (wSt k (d 1) S ++ ([(d 3 0, .inl (k 2, 6, .inr (.inr (.inr (.inr (svA (svE v ns)))))))] ++ (wSt k ((svE v ns) 0) ((svZ Z ns S) 0) ++ (wSt k ((svE v ns) 1) ((svZ Z ns S) 1) ++ (wSt k ((svE v ns) 2) ((svZ Z ns S) 2) ++ (wSt k ((svE v ns) 3) ((svZ Z ns S) 3) ++ (wSt k ((svE v ns) 4) ((svZ Z ns S) 4) ++ (wSt k ((svE v ns) 5) ((svZ Z ns S) 5)))))))))) := hD
        clear hPc hDc
        refine lv_aload_n hx hb dX4_cover_42 rfl (lv_at hl 0 rfl) ?_
        refine va_get (D := D) (ci := 4) (v := .ref (d 1 0)) (C := RX4) (T := TX4) (N := 9) hx hb hts (fun _ h9 => (List.mem_cons_of_mem _ (List.mem_append_left _ (List.mem_append_left _ (List.mem_append_left _ (List.mem_append_right _ h9)))))) hown hK hP 0 rfl rfl 0 (by decide) (hts _ (List.mem_of_getElem? (i := 5) rfl)) (fun _ h9 => h9) rfl dX4_cover_43 ?_
        refine va_get (D := D) (ci := 1) (v := .ref ((d 1) 1)) (C := RX1) (T := TX1) (N := 10) hx hb hts (fun _ h9 => (List.mem_cons_of_mem _ (List.mem_append_left _ (List.mem_append_left _ (List.mem_append_right _ h9))))) hown hK hP 1 rfl rfl 0 (by decide) (hts _ (List.mem_of_getElem? (i := 6) rfl)) (fun _ h9 => h9) rfl dX4_cover_46 ?_
        refine lv_iload_n hx hb dX4_cover_49 rfl (lv_at hl 1 rfl) ?_
        refine ar_ld hx hb hK hP 2 rfl q (nI_clamp (by omega)) (vp_in_nI (by omega) (by omega)) dX4_cover_50 ?_
        refine lv_istore_n (lv' := [(3, .int ((S 0) q)), (0, .ref (d 0 0)), (1, .int (nI q)), (2, .int (nI cv))]) hx hb dX4_cover_51 rfl hl (by decide) rfl (fun ls hl => ?_)
        refine lv_aload_n hx hb dX4_cover_52 rfl (lv_at hl 1 rfl) ?_
        refine va_get (D := D) (ci := 4) (v := .ref (d 1 0)) (C := RX4) (T := TX4) (N := 9) hx hb hts (fun _ h9 => (List.mem_cons_of_mem _ (List.mem_append_left _ (List.mem_append_left _ (List.mem_append_left _ (List.mem_append_right _ h9)))))) hown hK hP 0 rfl rfl 0 (by decide) (hts _ (List.mem_of_getElem? (i := 5) rfl)) (fun _ h9 => h9) rfl dX4_cover_53 ?_
        refine va_get (D := D) (ci := 1) (v := .ref ((d 1) 1)) (C := RX1) (T := TX1) (N := 10) hx hb hts (fun _ h9 => (List.mem_cons_of_mem _ (List.mem_append_left _ (List.mem_append_left _ (List.mem_append_right _ h9))))) hown hK hP 1 rfl rfl 0 (by decide) (hts _ (List.mem_of_getElem? (i := 6) rfl)) (fun _ h9 => h9) rfl dX4_cover_56 ?_
        refine lv_iload_n hx hb dX4_cover_59 rfl (lv_at hl 2 rfl) ?_
        refine lv_iload_n hx hb dX4_cover_60 rfl (lv_at hl 3 rfl) ?_
        refine ar_st hx hb hK hP hD hS 2 rfl q (nI_clamp (by omega)) (vp_in_nI (by omega) (by omega)) dX4_cover_61 (wn := (wXo d (nI (svN ns)) ++ ([((d 1) 0, .inr (1, [.ref ((d 1) 1), .ref ((d 1) 2), .ref ((d 1) 3), .ref ((d 1) 4), .ref ((d 1) 5), .ref ((d 1) 6), .ref ((d 1) 7), .int (S 7 0), .int (S 7 1), .int (S 7 2)])), ((d 1) 1, .inl (k 0, 9, .inl (upd (S 0) q (nI cv)))), ((d 1) 2, .inl (k 0, 9, .inl (S 1))), ((d 1) 3, .inl (k 0, 9, .inl (S 2))), ((d 1) 4, .inl (k 0, 9, .inl (S 3))), ((d 1) 5, .inl (k 0, 9, .inl (S 4))), ((d 1) 6, .inl (k 0, 12, .inl (S 5))), ((d 1) 7, .inl (k 0, 12, .inl (S 6)))] ++ ([(d 3 0, .inl (k 2, 6, .inr (.inr (.inr (.inr (svA (svE v ns)))))))] ++ (wSt k ((svE v ns) 0) ((svZ Z ns S) 0) ++ (wSt k ((svE v ns) 1) ((svZ Z ns S) 1) ++ (wSt k ((svE v ns) 2) ((svZ Z ns S) 2) ++ (wSt k ((svE v ns) 3) ((svZ Z ns S) 3) ++ (wSt k ((svE v ns) 4) ((svZ Z ns S) 4) ++ (wSt k ((svE v ns) 5) ((svZ Z ns S) 5))))))))))) rfl (fun H locs hP hD hS => ?_)
        refine lv_aload_n hx hb dX4_cover_62 rfl (lv_at hl 1 rfl) ?_
        refine va_get (D := D) (ci := 4) (v := .ref (d 1 0)) (C := RX4) (T := TX4) (N := 9) hx hb hts (fun _ h9 => (List.mem_cons_of_mem _ (List.mem_append_left _ (List.mem_append_left _ (List.mem_append_left _ (List.mem_append_right _ h9)))))) hown hK hP 0 rfl rfl 0 (by decide) (hts _ (List.mem_of_getElem? (i := 5) rfl)) (fun _ h9 => h9) rfl dX4_cover_63 ?_
        have hPc : va_P D vwCl (wSt k (d 1) (mkS (upd (S 0) q (nI cv)) (S 1) (S 2) (S 3) (S 4) (S 5) (S 6) (S 7))) H := hP.sub [1, 2, 3, 4, 5, 6, 7, 8] rfl
        have hDc : va_D A (wSt k (d 1) (mkS (upd (S 0) q (nI cv)) (S 1) (S 2) (S 3) (S 4) (S 5) (S 6) (S 7))) := hD.sub [1, 2, 3, 4, 5, 6, 7, 8] (by decide +kernel) rfl
        refine cl_v (va_runV (As := []) (rest := []) ⟨hx, hb, hml, hown, hts⟩ (c_X1_beginAnew l D k (d 1) (mkS (upd (S 0) q (nI cv)) (S 1) (S 2) (S 3) (S 4) (S 5) (S 6) (S 7))  H.size) (cwV 0 hts gX4_cover_X1_beginAnew rfl rfl rfl (by decide +kernel) ⟨Nat.le_of_ble_eq_true rfl, Nat.le_of_ble_eq_true rfl⟩) ⟨pr_blind, va_recv hK hP (ci := 1) (q0 := 1) rfl rfl, pr_at hN hPc hK hDc⟩ rfl rfl hl.1 rfl (lv_room (Nat.le_of_ble_eq_true rfl)) dX4_cover_66 ⟨Nat.le_of_ble_eq_true rfl, Nat.le_of_ble_eq_true rfl⟩) hP hD hS hA [1, 2, 3, 4, 5, 6, 7, 8] [0, 9, 10, 11, 12, 13, 14, 15, 16, 17, 18, 19, 20, 21, 22, 23, 24, 25, 26, 27, 28, 29, 30, 31, 32, 33, 34, 35, 36, 37, 38, 39, 40, 41, 42, 43, 44, 45, 46, 47, 48, 49, 50, 51, 52, 53, 54, 55, 56, 57] ((wXo d (nI (svN ns))) ++ ([(d 3 0, .inl (k 2, 6, .inr (.inr (.inr (.inr (svA (svE v ns)))))))]) ++ (wSt k ((svE v ns) 0) ((svZ Z ns S) 0)) ++ (wSt k ((svE v ns) 1) ((svZ Z ns S) 1)) ++ (wSt k ((svE v ns) 2) ((svZ Z ns S) 2)) ++ (wSt k ((svE v ns) 3) ((svZ Z ns S) 3)) ++ (wSt k ((svE v ns) 4) ((svZ Z ns S) 4)) ++ (wSt k ((svE v ns) 5) ((svZ Z ns S) 5))) [d 0 0, (d 1) 0, (d 1) 1, (d 1) 2, (d 1) 3, (d 1) 4, (d 1) 5, (d 1) 6, (d 1) 7, d 3 0, ((svE v ns) 0) 0, ((svE v ns) 0) 1, ((svE v ns) 0) 2, ((svE v ns) 0) 3, ((svE v ns) 0) 4, ((svE v ns) 0) 5, ((svE v ns) 0) 6, ((svE v ns) 0) 7, ((svE v ns) 1) 0, ((svE v ns) 1) 1, ((svE v ns) 1) 2, ((svE v ns) 1) 3, ((svE v ns) 1) 4, ((svE v ns) 1) 5, ((svE v ns) 1) 6, ((svE v ns) 1) 7, ((svE v ns) 2) 0, ((svE v ns) 2) 1, ((svE v ns) 2) 2, ((svE v ns) 2) 3, ((svE v ns) 2) 4, ((svE v ns) 2) 5, ((svE v ns) 2) 6, ((svE v ns) 2) 7, ((svE v ns) 3) 0, ((svE v ns) 3) 1, ((svE v ns) 3) 2, ((svE v ns) 3) 3, ((svE v ns) 3) 4, ((svE v ns) 3) 5, ((svE v ns) 3) 6, ((svE v ns) 3) 7, ((svE v ns) 4) 0, ((svE v ns) 4) 1, ((svE v ns) 4) 2, ((svE v ns) 4) 3, ((svE v ns) 4) 4, ((svE v ns) 4) 5, ((svE v ns) 4) 6, ((svE v ns) 4) 7, ((svE v ns) 5) 0, ((svE v ns) 5) 1, ((svE v ns) 5) 2, ((svE v ns) 5) 3, ((svE v ns) 5) 4, ((svE v ns) 5) 5, ((svE v ns) 5) 6, ((svE v ns) 5) 7] 58 rfl (wn := (wXo d (nI (svN ns)) ++ (wSt k (d 1) (anS (mkS (upd (S 0) q (nI cv)) (S 1) (S 2) (S 3) (S 4) (S 5) (S 6) (S 7))) ++ ([(d 3 0, .inl (k 2, 6, .inr (.inr (.inr (.inr (svA (svE v ns)))))))] ++ (wSt k ((svE v ns) 0) ((svZ Z ns S) 0) ++ (wSt k ((svE v ns) 1) ((svZ Z ns S) 1) ++ (wSt k ((svE v ns) 2) ((svZ Z ns S) 2) ++ (wSt k ((svE v ns) 3) ((svZ Z ns S) 3) ++ (wSt k ((svE v ns) 4) ((svZ Z ns S) 4) ++ (wSt k ((svE v ns) 5) ((svZ Z ns S) 5))))))))))) rfl rfl rfl rfl (by decide +kernel) rfl rfl (fun H locs hP hD hS => ?_)
        clear hPc hDc
        refine lv_iload_n hx hb dX4_cover_69 rfl (lv_at hl 0 rfl) ?_
        subst hQ
        exact rt_iD hx hb hr hlocks hS dX4_cover_70 (hP) (hD) (rfl)
      · have c_3 : ¬ (cv ≤ 999) := fun h9 => c_3 ((nI_leI (a := cv) (b := 999) (by omega) (by omega)).mpr h9)
        exact absurd c_3 (by omega)
  · have c_1 := bI_eq.mp c_1
    exact absurd c_1 (by rw [pcB_t (by omega)]; decide)

set_option maxHeartbeats 1000000 in
set_option maxRecDepth 100000 in
theorem c_X4_join (l : Launch) (D : va_G) (k : Nat → ClassId) (d v : Nat → Nat → Nat) (S : Nat → Nat → Int32) (Z : Nat → Nat → Nat → Int32) (ns : Nat) (q z : Nat) (hns : ns ≤ 6) (hq : q < 9) (hz : z < 9) (hqz : q < z) : MID l yX4_join wsX4_join ({ frames := 4, cells := 0, slots := 0, locals := 90 }) D k [.ref (d 0 0), .int (nI q), .int (nI z)] (wXo d (nI ns) ++ (wSt k (d 1) S ++ ([(d 3 0, .inl (k 2, 6, .inr (.inr (.inr (.inr (svA v))))))] ++ (wSt k (v 0) (Z 0) ++ (wSt k (v 1) (Z 1) ++ (wSt k (v 2) (Z 2) ++ (wSt k (v 3) (Z 3) ++ (wSt k (v 4) (Z 4) ++ (wSt k (v 5) (Z 5)))))))))) (bitv (upd (S 2) q (S 2 q ^^^ (1 <<< (nI z &&& 31))) q) (nI z)) (wXo d (nI (svN ns)) ++ (wSt k (d 1) (anS (gJ S q (S 2 q ^^^ (1 <<< (nI z &&& 31))))) ++ wSv k (d 3 0) (svE v ns) (svZ Z ns S))) := by
  intro sz
  refine Met.ofW (cc := cX4_join) (maxL := 3) (ret := (some .int)) (by decide) rfl ?_
  intro p e s m args below meth c s₁ B hml hv
  obtain ⟨rfl, hN, hsz, hP, hK, hD0⟩ := hv
  have hx := B.exec
  have hb := B.bytes
  have hr := B.returns
  have hts := atoms_spec (ws := wsX4_join) B.pre
  have hown : s.vm.findClass RX4 = some m.cls := findClass_of_methodNamed B.named
  have hlocks := B.notSynchronized
  subst hsz
  have hD := hD0.self (sz := s.heap.size)
  generalize hAe : va_A (wXo d (nI ns) ++ (wSt k (d 1) S ++ ([(d 3 0, .inl (k 2, 6, .inr (.inr (.inr (.inr (svA v))))))] ++ (wSt k (v 0) (Z 0) ++ (wSt k (v 1) (Z 1) ++ (wSt k (v 2) (Z 2) ++ (wSt k (v 3) (Z 3) ++ (wSt k (v 4) (Z 4) ++ (wSt k (v 5) (Z 5)))))))))) s.heap.size = A at hD ⊢
  have hA : ∀ q : Nat, s.heap.size ≤ q → A q := fun q h => by rw [← hAe]; exact Or.inr h
  have hS : va_S A s.heap s.heap [] := va_S.rf
  have hl := lv_entry ([.ref (d 0 0), .int (nI q), .int (nI z)]) (n := 3) (Nat.le_of_ble_eq_true rfl)
  rw [lg_entry_eq]
  generalize (lg_sl ([.ref (d 0 0), .int (nI q), .int (nI z)]) ++ List.replicate (3 - (lg_sl ([.ref (d 0 0), .int (nI q), .int (nI z)])).length) Slot.unset).toArray = ls at hl ⊢
  have hl : lv_has ls 3 [(0, .ref (d 0 0)), (1, .int (nI q)), (2, .int (nI z))] := hl
  obtain ⟨H, hHe⟩ : ∃ H, H = s.heap := ⟨_, rfl⟩
  have hP : va_P D vwCl (wXo d (nI ns) ++ (wSt k (d 1) S ++ ([(d 3 0, .inl (k 2, 6, .inr (.inr (.inr (.inr (svA v))))))] ++ (wSt k (v 0) (Z 0) ++ (wSt k (v 1) (Z 1) ++ (wSt k (v 2) (Z 2) ++ (wSt k (v 3) (Z 3) ++ (wSt k (v 4) (Z 4) ++ (wSt k (v 5) (Z 5)))))))))) H := by rw [hHe]; exact hP
  have hS : va_S A s.heap H [] := by rw [hHe]; exact hS
  rw [← hHe]
  refine absQ (fun Q hQ => ?_)
  refine lv_iload_n hx hb dX4_join_0 rfl (lv_at hl 1 rfl) ?_
  have hPc : va_P D vwCl ([]) H := hP.sub [] rfl
  have hDc : va_D A ([]) := hD.sub [] (by decide +kernel) rfl
  refine cl_i0 (va_runS (As := [.int (nI q)]) (rest := []) ⟨hx, hb, hml, hown, hts⟩ (c_X4_isPiece l D k (nI q) H.size) (va_cwS 1 hts gX4_join_X4_isPiece rfl rfl rfl (by decide +kernel) ⟨Nat.le_of_ble_eq_true rfl, Nat.le_of_ble_eq_true rfl⟩) ⟨pr_blind, pr_at hN hPc hK hDc⟩ rfl rfl hl.1 rfl (lv_room (Nat.le_of_ble_eq_true rfl)) dX4_join_1 ⟨Nat.le_of_ble_eq_true rfl, Nat.le_of_ble_eq_true rfl⟩) hP hD hS hA [] rfl (fun H locs hP hD hS => ?_)
  clear hPc hDc
  refine lv_if_eq (tgt := 14) hx hb dX4_join_4 (by decide) (fun c_1 => ?_) (fun c_1 => ?_)
  · have c_1 := bI_eq.mp c_1
    exact absurd c_1 (by rw [pcB_t (by omega)]; decide)
  · have c_1 := bI_ne.mp c_1
    refine lv_iload_n hx hb dX4_join_7 rfl (lv_at hl 2 rfl) ?_
    have hPc : va_P D vwCl ([]) H := hP.sub [] rfl
    have hDc : va_D A ([]) := hD.sub [] (by decide +kernel) rfl
    refine cl_i0 (va_runS (As := [.int (nI z)]) (rest := []) ⟨hx, hb, hml, hown, hts⟩ (c_X4_isPiece l D k (nI z) H.size) (va_cwS 1 hts gX4_join_X4_isPiece rfl rfl rfl (by decide +kernel) ⟨Nat.le_of_ble_eq_true rfl, Nat.le_of_ble_eq_true rfl⟩) ⟨pr_blind, pr_at hN hPc hK hDc⟩ rfl rfl hl.1 rfl (lv_room (Nat.le_of_ble_eq_true rfl)) dX4_join_8 ⟨Nat.le_of_ble_eq_true rfl, Nat.le_of_ble_eq_true rfl⟩) hP hD hS hA [] rfl (fun H locs hP hD hS => ?_)
    clear hPc hDc
    refine lv_if_ne (tgt := 24) hx hb dX4_join_11 (by decide) (fun c_2 => ?_) (fun c_2 => ?_)
    · have c_2 := bI_ne.mp c_2
      refine lv_iload_n hx hb dX4_join_24 rfl (lv_at hl 2 rfl) ?_
      refine lv_iload_n hx hb dX4_join_25 rfl (lv_at hl 1 rfl) ?_
      refine lv_icmp_gt (tgt := 39) hx hb dX4_join_26 (by decide) (fun c_3 => ?_) (fun c_3 => ?_)
      · have c_3 : q < z := (nI_ltI (a := q) (b := z) (by omega) (by omega)).mp c_3
        refine lv_aload_n hx hb dX4_join_39 rfl (lv_at hl 0 rfl) ?_
        have hPc : va_P D vwCl (wXo d (nI ns) ++ (wSt k (d 1) S ++ wSv k (d 3 0) v Z)) H := hP.sub [0, 1, 2, 3, 4, 5, 6, 7, 8, 9, 10, 11, 12, 13, 14, 15, 16, 17, 18, 19, 20, 21, 22, 23, 24, 25, 26, 27, 28, 29, 30, 31, 32, 33, 34, 35, 36, 37, 38, 39, 40, 41, 42, 43, 44, 45, 46, 47, 48, 49, 50, 51, 52, 53, 54, 55, 56, 57] rfl
        have hDc : va_D A (wXo d (nI ns) ++ (wSt k (d 1) S ++ wSv k (d 3 0) v Z)) := hD.sub [0, 1, 2, 3, 4, 5, 6, 7, 8, 9, 10, 11, 12, 13, 14, 15, 16, 17, 18, 19, 20, 21, 22, 23, 24, 25, 26, 27, 28, 29, 30, 31, 32, 33, 34, 35, 36, 37, 38, 39, 40, 41, 42, 43, 44, 45, 46, 47, 48, 49, 50, 51, 52, 53, 54, 55, 56, 57] (by decide +kernel) rfl
        refine cl_vD (va_runV (As := []) (rest := []) ⟨hx, hb, hml, hown, hts⟩ (c_X4_saveState l D k d v S Z ns hns H.size) (cwV 0 hts gX4_join_X4_saveState rfl rfl rfl (by decide +kernel) ⟨Nat.le_of_ble_eq_true rfl, Nat.le_of_ble_eq_true rfl⟩) ⟨pr_blind, va_recv hK hP (ci := 4) (q0 := 0) rfl rfl, pr_at hN hPc hK hDc⟩ rfl rfl hl.1 rfl (lv_room (Nat.le_of_ble_eq_true rfl)) dX4_join_40 ⟨Nat.le_of_ble_eq_true rfl, Nat.le_of_ble_eq_true rfl⟩) hP hD hS hA [0, 1, 2, 3, 4, 5, 6, 7, 8, 9, 10, 11, 12, 13, 14, 15, 16, 17, 18, 19, 20, 21, 22, 23, 24, 25, 26, 27, 28, 29, 30, 31, 32, 33, 34, 35, 36, 37, 38, 39, 40, 41, 42, 43, 44, 45, 46, 47, 48, 49, 50, 51, 52, 53, 54, 55, 56, 57] [] rfl (wr := []) rfl (by decide +kernel) (by decide +kernel) (fun H locs hP hD hS => ?_)
        have hP : va_P D vwCl (wXo d (nI (svN ns)) ++ (wSt k (d 1) S ++ ([(d 3 0, .inl (k 2, 6, .inr (.inr (.inr (.inr (svA (svE v ns)))))))] ++ (wSt k ((svE v ns) 0) ((svZ Z ns S) 0) ++ (wSt k ((svE v ns) 1) ((svZ Z ns S) 1) ++ (wSt k ((svE v ns) 2) ((svZ Z ns S) 2) ++ (wSt k ((svE v ns) 3) ((svZ Z ns S) 3) ++ (wSt k ((svE v ns) 4) ((svZ Z ns S) 4) ++ (wSt k ((svE v ns) 5) ((svZ Z ns S) 5)))))))))) H := hP
        have hD : va_D A (wXo d (nI (svN ns)) ++ (wSt k (d 1) S ++ ([(d 3 0, .inl (k 2, 6, .inr (.inr (.inr (.inr (svA (svE v ns)))))))] ++ (wSt k ((svE v ns) 0) ((svZ Z ns S) 0) ++ (wSt k ((svE v ns) 1) ((svZ Z ns S) 1) ++ (wSt k ((svE v ns) 2) ((svZ Z ns S) 2) ++ (wSt k ((svE v ns) 3) ((svZ Z ns S) 3) ++ (wSt k ((svE v ns) 4) ((svZ Z ns S) 4) ++ (wSt k ((svE v ns) 5) ((svZ Z ns S) 5)))))))))) := hD
        clear hPc hDc
        refine lv_aload_n hx hb dX4_join_43 rfl (lv_at hl 0 rfl) ?_
        refine va_get (D := D) (ci := 4) (v := .ref (d 1 0)) (C := RX4) (T := TX4) (N := 9) hx hb hts (fun _ h9 => (List.mem_cons_of_mem _ (List.mem_append_left _ (List.mem_append_left _ (List.mem_append_left _ (List.mem_append_right _ h9)))))) hown hK hP 0 rfl rfl 0 (by decide) (hts _ (List.mem_of_getElem? (i := 5) rfl)) (fun _ h9 => h9) rfl dX4_join_44 ?_
        refine va_get (D := D) (ci := 1) (v := .ref ((d 1) 3)) (C := RX1) (T := TX1) (N := 10) hx hb hts (fun _ h9 => (List.mem_cons_of_mem _ (List.mem_append_left _ (List.mem_append_left _ (List.mem_append_right _ h9))))) hown hK hP 1 rfl rfl 2 (by decide) (hts _ (List.mem_of_getElem? (i := 6) rfl)) (fun _ h9 => h9) rfl dX4_join_47 ?_
        refine lv_iload_n hx hb dX4_join_50 rfl (lv_at hl 1 rfl) ?_
        refine lv_dup2_11 hx hb dX4_join_51 rfl rfl ?_
        refine ar_ld hx hb hK hP 4 rfl q (nI_clamp (by omega)) (vp_in_nI (by omega) (by omega)) dX4_join_52 ?_
        refine lv_iconst (v := 1) hx hb dX4_join_53 (by decide) ?_
        refine lv_iload_n hx hb dX4_join_54 rfl (lv_at hl 2 rfl) ?_
        refine lv_ishl hx hb dX4_join_55 ?_
        refine lv_ixor hx hb dX4_join_56 ?_
        refine ar_st hx hb hK hP hD hS 4 rfl q (nI_clamp (by omega)) (vp_in_nI (by omega) (by omega)) dX4_join_57 (wn := (wXo d (nI (svN ns)) ++ ([((d 1) 0, .inr (1, [.ref ((d 1) 1), .ref ((d 1) 2), .ref ((d 1) 3), .ref ((d 1) 4), .ref ((d 1) 5), .ref ((d 1) 6), .ref ((d 1) 7), .int (S 7 0), .int (S 7 1), .int (S 7 2)])), ((d 1) 1, .inl (k 0, 9, .inl (S 0))), ((d 1) 2, .inl (k 0, 9, .inl (S 1))), ((d 1) 3, .inl (k 0, 9, .inl (upd (S 2) q (((S 2) q) ^^^ (1 <<< ((nI z) &&& 31)))))), ((d 1) 4, .inl (k 0, 9, .inl (S 3))), ((d 1) 5, .inl (k 0, 9, .inl (S 4))), ((d 1) 6, .inl (k 0, 12, .inl (S 5))), ((d 1) 7, .inl (k 0, 12, .inl (S 6)))] ++ ([(d 3 0, .inl (k 2, 6, .inr (.inr (.inr (.inr (svA (svE v ns)))))))] ++ (wSt k ((svE v ns) 0) ((svZ Z ns S) 0) ++ (wSt k ((svE v ns) 1) ((svZ Z ns S) 1) ++ (wSt k ((svE v ns) 2) ((svZ Z ns S) 2) ++ (wSt k ((svE v ns) 3) ((svZ Z ns S) 3) ++ (wSt k ((svE v ns) 4) ((svZ Z ns S) 4) ++ (wSt k ((svE v ns) 5) ((svZ Z ns S) 5))))))))))) rfl (fun H locs hP hD hS => ?_)
        refine lv_aload_n hx hb dX4_join_58 rfl (lv_at hl 0 rfl) ?_
        refine va_get (D := D) (ci := 4) (v := .ref (d 1 0)) (C := RX4) (T := TX4) (N := 9) hx hb hts (fun _ h9 => (List.mem_cons_of_mem _ (List.mem_append_left _ (List.mem_append_left _ (List.mem_append_left _ (List.mem_append_right _ h9)))))) hown hK hP 0 rfl rfl 0 (by decide) (hts _ (List.mem_of_getElem? (i := 5) rfl)) (fun _ h9 => h9) rfl dX4_join_59 ?_
        have hPc : va_P D vwCl (wSt k (d 1) (mkS (S 0) (S 1) (upd (S 2) q (((S 2) q) ^^^ (1 <<< ((nI z) &&& 31)))) (S 3) (S 4) (S 5) (S 6) (S 7))) H := hP.sub [1, 2, 3, 4, 5, 6, 7, 8] rfl
        have hDc : va_D A (wSt k (d 1) (mkS (S 0) (S 1) (upd (S 2) q (((S 2) q) ^^^ (1 <<< ((nI z) &&& 31)))) (S 3) (S 4) (S 5) (S 6) (S 7))) := hD.sub [1, 2, 3, 4, 5, 6, 7, 8] (by decide +kernel) rfl
        refine cl_v (va_runV (As := []) (rest := []) ⟨hx, hb, hml, hown, hts⟩ (c_X1_beginAnew l D k (d 1) (mkS (S 0) (S 1) (upd (S 2) q (((S 2) q) ^^^ (1 <<< ((nI z) &&& 31)))) (S 3) (S 4) (S 5) (S 6) (S 7))  H.size) (cwV 0 hts gX4_join_X1_beginAnew rfl rfl rfl (by decide +kernel) ⟨Nat.le_of_ble_eq_true rfl, Nat.le_of_ble_eq_true rfl⟩) ⟨pr_blind, va_recv hK hP (ci := 1) (q0 := 1) rfl rfl, pr_at hN hPc hK hDc⟩ rfl rfl hl.1 rfl (lv_room (Nat.le_of_ble_eq_true rfl)) dX4_join_62 ⟨Nat.le_of_ble_eq_true rfl, Nat.le_of_ble_eq_true rfl⟩) hP hD hS hA [1, 2, 3, 4, 5, 6, 7, 8] [0, 9, 10, 11, 12, 13, 14, 15, 16, 17, 18, 19, 20, 21, 22, 23, 24, 25, 26, 27, 28, 29, 30, 31, 32, 33, 34, 35, 36, 37, 38, 39, 40, 41, 42, 43, 44, 45, 46, 47, 48, 49, 50, 51, 52, 53, 54, 55, 56, 57] ((wXo d (nI (svN ns))) ++ ([(d 3 0, .inl (k 2, 6, .inr (.inr (.inr (.inr (svA (svE v ns)))))))]) ++ (wSt k ((svE v ns) 0) ((svZ Z ns S) 0)) ++ (wSt k ((svE v ns) 1) ((svZ Z ns S) 1)) ++ (wSt k ((svE v ns) 2) ((svZ Z ns S) 2)) ++ (wSt k ((svE v ns) 3) ((svZ Z ns S) 3)) ++ (wSt k ((svE v ns) 4) ((svZ Z ns S) 4)) ++ (wSt k ((svE v ns) 5) ((svZ Z ns S) 5))) [d 0 0, (d 1) 0, (d 1) 1, (d 1) 2, (d 1) 3, (d 1) 4, (d 1) 5, (d 1) 6, (d 1) 7, d 3 0, ((svE v ns) 0) 0, ((svE v ns) 0) 1, ((svE v ns) 0) 2, ((svE v ns) 0) 3, ((svE v ns) 0) 4, ((svE v ns) 0) 5, ((svE v ns) 0) 6, ((svE v ns) 0) 7, ((svE v ns) 1) 0, ((svE v ns) 1) 1, ((svE v ns) 1) 2, ((svE v ns) 1) 3, ((svE v ns) 1) 4, ((svE v ns) 1) 5, ((svE v ns) 1) 6, ((svE v ns) 1) 7, ((svE v ns) 2) 0, ((svE v ns) 2) 1, ((svE v ns) 2) 2, ((svE v ns) 2) 3, ((svE v ns) 2) 4, ((svE v ns) 2) 5, ((svE v ns) 2) 6, ((svE v ns) 2) 7, ((svE v ns) 3) 0, ((svE v ns) 3) 1, ((svE v ns) 3) 2, ((svE v ns) 3) 3, ((svE v ns) 3) 4, ((svE v ns) 3) 5, ((svE v ns) 3) 6, ((svE v ns) 3) 7, ((svE v ns) 4) 0, ((svE v ns) 4) 1, ((svE v ns) 4) 2, ((svE v ns) 4) 3, ((svE v ns) 4) 4, ((svE v ns) 4) 5, ((svE v ns) 4) 6, ((svE v ns) 4) 7, ((svE v ns) 5) 0, ((svE v ns) 5) 1, ((svE v ns) 5) 2, ((svE v ns) 5) 3, ((svE v ns) 5) 4, ((svE v ns) 5) 5, ((svE v ns) 5) 6, ((svE v ns) 5) 7] 58 rfl (wn := (wXo d (nI (svN ns)) ++ (wSt k (d 1) (anS (mkS (S 0) (S 1) (upd (S 2) q (((S 2) q) ^^^ (1 <<< ((nI z) &&& 31)))) (S 3) (S 4) (S 5) (S 6) (S 7))) ++ ([(d 3 0, .inl (k 2, 6, .inr (.inr (.inr (.inr (svA (svE v ns)))))))] ++ (wSt k ((svE v ns) 0) ((svZ Z ns S) 0) ++ (wSt k ((svE v ns) 1) ((svZ Z ns S) 1) ++ (wSt k ((svE v ns) 2) ((svZ Z ns S) 2) ++ (wSt k ((svE v ns) 3) ((svZ Z ns S) 3) ++ (wSt k ((svE v ns) 4) ((svZ Z ns S) 4) ++ (wSt k ((svE v ns) 5) ((svZ Z ns S) 5))))))))))) rfl rfl rfl rfl (by decide +kernel) rfl rfl (fun H locs hP hD hS => ?_)
        clear hPc hDc
        refine lv_aload_n hx hb dX4_join_65 rfl (lv_at hl 0 rfl) ?_
        refine va_get (D := D) (ci := 4) (v := .ref (d 1 0)) (C := RX4) (T := TX4) (N := 9) hx hb hts (fun _ h9 => (List.mem_cons_of_mem _ (List.mem_append_left _ (List.mem_append_left _ (List.mem_append_left _ (List.mem_append_right _ h9)))))) hown hK hP 0 rfl rfl 0 (by decide) (hts _ (List.mem_of_getElem? (i := 5) rfl)) (fun _ h9 => h9) rfl dX4_join_66 ?_
        refine va_get (D := D) (ci := 1) (v := .ref ((d 1) 3)) (C := RX1) (T := TX1) (N := 10) hx hb hts (fun _ h9 => (List.mem_cons_of_mem _ (List.mem_append_left _ (List.mem_append_left _ (List.mem_append_right _ h9))))) hown hK hP 1 rfl rfl 2 (by decide) (hts _ (List.mem_of_getElem? (i := 6) rfl)) (fun _ h9 => h9) rfl dX4_join_69 ?_
        refine lv_iload_n hx hb dX4_join_72 rfl (lv_at hl 1 rfl) ?_
        refine ar_ld hx hb hK hP 4 rfl q (nI_clamp (by omega)) (vp_in_nI (by omega) (by omega)) dX4_join_73 ?_
        refine lv_iload_n hx hb dX4_join_74 rfl (lv_at hl 2 rfl) ?_
        have hPc : va_P D vwCl ([]) H := hP.sub [] rfl
        have hDc : va_D A ([]) := hD.sub [] (by decide +kernel) rfl
        refine cl_i0 (va_runS (As := [.int (((anS (mkS (S 0) (S 1) (upd (S 2) q (((S 2) q) ^^^ (1 <<< ((nI z) &&& 31)))) (S 3) (S 4) (S 5) (S 6) (S 7))) 2) q), .int (nI z)]) (rest := []) ⟨hx, hb, hml, hown, hts⟩ (c_X4_bit l D k (((anS (mkS (S 0) (S 1) (upd (S 2) q (((S 2) q) ^^^ (1 <<< ((nI z) &&& 31)))) (S 3) (S 4) (S 5) (S 6) (S 7))) 2) q) (nI z) H.size) (va_cwS 2 hts gX4_join_X4_bit rfl rfl rfl (by decide +kernel) ⟨Nat.le_of_ble_eq_true rfl, Nat.le_of_ble_eq_true rfl⟩) ⟨pr_blind, pr_at hN hPc hK hDc⟩ rfl rfl hl.1 rfl (lv_room (Nat.le_of_ble_eq_true rfl)) dX4_join_75 ⟨Nat.le_of_ble_eq_true rfl, Nat.le_of_ble_eq_true rfl⟩) hP hD hS hA [] rfl (fun H locs hP hD hS => ?_)
        clear hPc hDc
        subst hQ
        exact rt_iD hx hb hr hlocks hS dX4_join_78 (hP) (hD) (rfl)
      · have c_3 : ¬ (q < z) := fun h9 => c_3 ((nI_ltI (a := q) (b := z) (by omega) (by omega)).mpr h9)
        exact absurd c_3 (by omega)
    · have c_2 := bI_eq.mp c_2
      exact absurd c_2 (by rw [pcB_t (by omega)]; decide)

set_option maxHeartbeats 1000000 in
set_option maxRecDepth 100000 in
theorem c_X4_mark (l : Launch) (D : va_G) (k : Nat → ClassId) (d v : Nat → Nat → Nat) (S : Nat → Nat → Int32) (Z : Nat → Nat → Nat → Int32) (ns : Nat) (q w : Nat) (hns : ns ≤ 6) (hq : q < 9) (hw : w ≤ 3) : MID l yX4_mark wsX4_mark ({ frames := 4, cells := 0, slots := 0, locals := 90 }) D k [.ref (d 0 0), .int (nI q), .int (nI w)] (wXo d (nI ns) ++ (wSt k (d 1) S ++ ([(d 3 0, .inl (k 2, 6, .inr (.inr (.inr (.inr (svA v))))))] ++ (wSt k (v 0) (Z 0) ++ (wSt k (v 1) (Z 1) ++ (wSt k (v 2) (Z 2) ++ (wSt k (v 3) (Z 3) ++ (wSt k (v 4) (Z 4) ++ (wSt k (v 5) (Z 5)))))))))) (S 1 q) (wXo d (nI (svN ns)) ++ (wSt k (d 1) (anS (gM S q (nI w))) ++ wSv k (d 3 0) (svE v ns) (svZ Z ns S))) := by
  intro sz
  refine Met.ofW (cc := cX4_mark) (maxL := 4) (ret := (some .int)) (by decide) rfl ?_
  intro p e s m args below meth c s₁ B hml hv
  obtain ⟨rfl, hN, hsz, hP, hK, hD0⟩ := hv
  have hx := B.exec
  have hb := B.bytes
  have hr := B.returns
  have hts := atoms_spec (ws := wsX4_mark) B.pre
  have hown : s.vm.findClass RX4 = some m.cls := findClass_of_methodNamed B.named
  have hlocks := B.notSynchronized
  subst hsz
  have hD := hD0.self (sz := s.heap.size)
  generalize hAe : va_A (wXo d (nI ns) ++ (wSt k (d 1) S ++ ([(d 3 0, .inl (k 2, 6, .inr (.inr (.inr (.inr (svA v))))))] ++ (wSt k (v 0) (Z 0) ++ (wSt k (v 1) (Z 1) ++ (wSt k (v 2) (Z 2) ++ (wSt k (v 3) (Z 3) ++ (wSt k (v 4) (Z 4) ++ (wSt k (v 5) (Z 5)))))))))) s.heap.size = A at hD ⊢
  have hA : ∀ q : Nat, s.heap.size ≤ q → A q := fun q h => by rw [← hAe]; exact Or.inr h
  have hS : va_S A s.heap s.heap [] := va_S.rf
  have hl := lv_entry ([.ref (d 0 0), .int (nI q), .int (nI w)]) (n := 4) (Nat.le_of_ble_eq_true rfl)
  rw [lg_entry_eq]
  generalize (lg_sl ([.ref (d 0 0), .int (nI q), .int (nI w)]) ++ List.replicate (4 - (lg_sl ([.ref (d 0 0), .int (nI q), .int (nI w)])).length) Slot.unset).toArray = ls at hl ⊢
  have hl : lv_has ls 4 [(0, .ref (d 0 0)), (1, .int (nI q)), (2, .int (nI w))] := hl
  obtain ⟨H, hHe⟩ : ∃ H, H = s.heap := ⟨_, rfl⟩
  have hP : va_P D vwCl (wXo d (nI ns) ++ (wSt k (d 1) S ++ ([(d 3 0, .inl (k 2, 6, .inr (.inr (.inr (.inr (svA v))))))] ++ (wSt k (v 0) (Z 0) ++ (wSt k (v 1) (Z 1) ++ (wSt k (v 2) (Z 2) ++ (wSt k (v 3) (Z 3) ++ (wSt k (v 4) (Z 4) ++ (wSt k (v 5) (Z 5)))))))))) H := by rw [hHe]; exact hP
  have hS : va_S A s.heap H [] := by rw [hHe]; exact hS
  rw [← hHe]
  refine absQ (fun Q hQ => ?_)
  refine lv_iload_n hx hb dX4_mark_0 rfl (lv_at hl 1 rfl) ?_
  have hPc : va_P D vwCl ([]) H := hP.sub [] rfl
  have hDc : va_D A ([]) := hD.sub [] (by decide +kernel) rfl
  refine cl_i0 (va_runS (As := [.int (nI q)]) (rest := []) ⟨hx, hb, hml, hown, hts⟩ (c_X4_isPiece l D k (nI q) H.size) (va_cwS 1 hts gX4_mark_X4_isPiece rfl rfl rfl (by decide +kernel) ⟨Nat.le_of_ble_eq_true rfl, Nat.le_of_ble_eq_true rfl⟩) ⟨pr_blind, pr_at hN hPc hK hDc⟩ rfl rfl hl.1 rfl (lv_room (Nat.le_of_ble_eq_true rfl)) dX4_mark_1 ⟨Nat.le_of_ble_eq_true rfl, Nat.le_of_ble_eq_true rfl⟩) hP hD hS hA [] rfl (fun H locs hP hD hS => ?_)
  clear hPc hDc
  refine lv_if_ne (tgt := 17) hx hb dX4_mark_4 (by decide) (fun c_1 => ?_) (fun c_1 => ?_)
  · have c_1 := bI_ne.mp c_1
    refine lv_iload_n hx hb dX4_mark_17 rfl (lv_at hl 2 rfl) ?_
    refine lv_if_lt (tgt := 26) hx hb dX4_mark_18 (by decide) (fun c_2 => ?_) (fun c_2 => ?_)
    · have c_2 : w < 0 := (nI_ltI (a := w) (b := 0) (by omega) (by omega)).mp c_2
      exact absurd c_2 (by omega)
    · have c_2 : ¬ (w < 0) := fun h9 => c_2 ((nI_ltI (a := w) (b := 0) (by omega) (by omega)).mpr h9)
      refine lv_iload_n hx hb dX4_mark_21 rfl (lv_at hl 2 rfl) ?_
      refine lv_iconst (v := 3) hx hb dX4_mark_22 (by decide) ?_
      refine lv_icmp_le (tgt := 36) hx hb dX4_mark_23 (by decide) (fun c_3 => ?_) (fun c_3 => ?_)
      · have c_3 : w ≤ 3 := (nI_leI (a := w) (b := 3) (by omega) (by omega)).mp c_3
        refine lv_aload_n hx hb dX4_mark_36 rfl (lv_at hl 0 rfl) ?_
        have hPc : va_P D vwCl (wXo d (nI ns) ++ (wSt k (d 1) S ++ wSv k (d 3 0) v Z)) H := hP.sub [0, 1, 2, 3, 4, 5, 6, 7, 8, 9, 10, 11, 12, 13, 14, 15, 16, 17, 18, 19, 20, 21, 22, 23, 24, 25, 26, 27, 28, 29, 30, 31, 32, 33, 34, 35, 36, 37, 38, 39, 40, 41, 42, 43, 44, 45, 46, 47, 48, 49, 50, 51, 52, 53, 54, 55, 56, 57] rfl
        have hDc : va_D A (wXo d (nI ns) ++ (wSt k (d 1) S ++ wSv k (d 3 0) v Z)) := hD.sub [0, 1, 2, 3, 4, 5, 6, 7, 8, 9, 10, 11, 12, 13, 14, 15, 16, 17, 18, 19, 20, 21, 22, 23, 24, 25, 26, 27, 28, 29, 30, 31, 32, 33, 34, 35, 36, 37, 38, 39, 40, 41, 42, 43, 44, 45, 46, 47, 48, 49, 50, 51, 52, 53, 54, 55, 56, 57] (by decide +kernel) rfl
        refine cl_vD (va_runV (As := []) (rest := []) ⟨hx, hb, hml, hown, hts⟩ (c_X4_saveState l D k d v S Z ns hns H.size) (cwV 0 hts gX4_mark_X4_saveState rfl rfl rfl (by decide +kernel) ⟨Nat.le_of_ble_eq_true rfl, Nat.le_of_ble_eq_true rfl⟩) ⟨pr_blind, va_recv hK hP (ci := 4) (q0 := 0) rfl rfl, pr_at hN hPc hK hDc⟩ rfl rfl hl.1 rfl (lv_room (Nat.le_of_ble_eq_true rfl)) dX4_mark_37 ⟨Nat.le_of_ble_eq_true rfl, Nat.le_of_ble_eq_true rfl⟩) hP hD hS hA [0, 1, 2, 3, 4, 5, 6, 7, 8, 9, 10, 11, 12, 13, 14, 15, 16, 17, 18, 19, 20, 21, 22, 23, 24, 25, 26, 27, 28, 29, 30, 31, 32, 33, 34, 35, 36, 37, 38, 39, 40, 41, 42, 43, 44, 45, 46, 47, 48, 49, 50, 51, 52, 53, 54, 55, 56, 57] [] rfl (wr := []) rfl (by decide +kernel) (by decide +kernel) (fun H locs hP hD hS => ?_)
        have hP : va_P D vwCl (wXo d (nI (svN ns)) ++ (wSt k (d 1) S ++ ([(d 3 0, .inl (k 2, 6, .inr (.inr (.inr (.inr (svA (svE v ns)))))))] ++ (wSt k ((svE v ns) 0) ((svZ Z ns S) 0) ++ (wSt k ((svE v ns) 1) ((svZ Z ns S) 1) ++ (wSt k ((svE v ns) 2) ((svZ Z ns S) 2) ++ (wSt k ((svE v ns) 3) ((svZ Z ns S) 3) ++ (wSt k ((svE v ns) 4) ((svZ Z ns S) 4) ++ (wSt k ((svE v ns) 5) ((svZ Z ns S) 5)))))))))) H := hP
        have hD : va_D A (wXo d (nI (svN ns)) ++ (wSt k (d 1) S ++ ([(d 3 0, .inl (k 2, 6, .inr (.inr (.inr (.inr (svA (svE v ns)))))))] ++ (wSt k ((svE v ns) 0) ((svZ Z ns S) 0) ++ (wSt k ((svE v ns) 1) ((svZ Z ns S) 1) ++ (wSt k ((svE v ns) 2) ((svZ Z ns S) 2) ++ (wSt k ((svE v ns) 3) ((svZ Z ns S) 3) ++ (wSt k ((svE v ns) 4) ((svZ Z ns S) 4) ++ (wSt k ((svE v ns) 5) ((svZ Z ns S) 5)))))))))) := hD
        clear hPc hDc
        refine lv_aload_n hx hb dX4_mark_40 rfl (lv_at hl 0 rfl) ?_
        refine va_get (D := D) (ci := 4) (v := .ref (d 1 0)) (C := RX4) (T := TX4) (N := 9) hx hb hts (fun _ h9 => (List.mem_cons_of_mem _ (List.mem_append_left _ (List.mem_append_left _ (List.mem_append_left _ (List.mem_append_right _ h9)))))) hown hK hP 0 rfl rfl 0 (by decide) (hts _ (List.mem_of_getElem? (i := 5) rfl)) (fun _ h9 => h9) rfl dX4_mark_41 ?_
        refine va_get (D := D) (ci := 1) (v := .ref ((d 1) 2)) (C := RX1) (T := TX1) (N := 10) hx hb hts (fun _ h9 => (List.mem_cons_of_mem _ (List.mem_append_left _ (List.mem_append_left _ (List.mem_append_right _ h9))))) hown hK hP 1 rfl rfl 1 (by decide) (hts _ (List.mem_of_getElem? (i := 6) rfl)) (fun _ h9 => h9) rfl dX4_mark_44 ?_
        refine lv_iload_n hx hb dX4_mark_47 rfl (lv_at hl 1 rfl) ?_
        refine ar_ld hx hb hK hP 3 rfl q (nI_clamp (by omega)) (vp_in_nI (by omega) (by omega)) dX4_mark_48 ?_
        refine lv_istore_n (lv' := [(3, .int ((S 1) q)), (0, .ref (d 0 0)), (1, .int (nI q)), (2, .int (nI w))]) hx hb dX4_mark_49 rfl hl (by decide) rfl (fun ls hl => ?_)
        refine lv_aload_n hx hb dX4_mark_50 rfl (lv_at hl 1 rfl) ?_
        refine va_get (D := D) (ci := 4) (v := .ref (d 1 0)) (C := RX4) (T := TX4) (N := 9) hx hb hts (fun _ h9 => (List.mem_cons_of_mem _ (List.mem_append_left _ (List.mem_append_left _ (List.mem_append_left _ (List.mem_append_right _ h9)))))) hown hK hP 0 rfl rfl 0 (by decide) (hts _ (List.mem_of_getElem? (i := 5) rfl)) (fun _ h9 => h9) rfl dX4_mark_51 ?_
        refine va_get (D := D) (ci := 1) (v := .ref ((d 1) 2)) (C := RX1) (T := TX1) (N := 10) hx hb hts (fun _ h9 => (List.mem_cons_of_mem _ (List.mem_append_left _ (List.mem_append_left _ (List.mem_append_right _ h9))))) hown hK hP 1 rfl rfl 1 (by decide) (hts _ (List.mem_of_getElem? (i := 6) rfl)) (fun _ h9 => h9) rfl dX4_mark_54 ?_
        refine lv_iload_n hx hb dX4_mark_57 rfl (lv_at hl 2 rfl) ?_
        refine lv_iload_n hx hb dX4_mark_58 rfl (lv_at hl 3 rfl) ?_
        refine ar_st hx hb hK hP hD hS 3 rfl q (nI_clamp (by omega)) (vp_in_nI (by omega) (by omega)) dX4_mark_59 (wn := (wXo d (nI (svN ns)) ++ ([((d 1) 0, .inr (1, [.ref ((d 1) 1), .ref ((d 1) 2), .ref ((d 1) 3), .ref ((d 1) 4), .ref ((d 1) 5), .ref ((d 1) 6), .ref ((d 1) 7), .int (S 7 0), .int (S 7 1), .int (S 7 2)])), ((d 1) 1, .inl (k 0, 9, .inl (S 0))), ((d 1) 2, .inl (k 0, 9, .inl (upd (S 1) q (nI w)))), ((d 1) 3, .inl (k 0, 9, .inl (S 2))), ((d 1) 4, .inl (k 0, 9, .inl (S 3))), ((d 1) 5, .inl (k 0, 9, .inl (S 4))), ((d 1) 6, .inl (k 0, 12, .inl (S 5))), ((d 1) 7, .inl (k 0, 12, .inl (S 6)))] ++ ([(d 3 0, .inl (k 2, 6, .inr (.inr (.inr (.inr (svA (svE v ns)))))))] ++ (wSt k ((svE v ns) 0) ((svZ Z ns S) 0) ++ (wSt k ((svE v ns) 1) ((svZ Z ns S) 1) ++ (wSt k ((svE v ns) 2) ((svZ Z ns S) 2) ++ (wSt k ((svE v ns) 3) ((svZ Z ns S) 3) ++ (wSt k ((svE v ns) 4) ((svZ Z ns S) 4) ++ (wSt k ((svE v ns) 5) ((svZ Z ns S) 5))))))))))) rfl (fun H locs hP hD hS => ?_)
        refine lv_aload_n hx hb dX4_mark_60 rfl (lv_at hl 1 rfl) ?_
        refine va_get (D := D) (ci := 4) (v := .ref (d 1 0)) (C := RX4) (T := TX4) (N := 9) hx hb hts (fun _ h9 => (List.mem_cons_of_mem _ (List.mem_append_left _ (List.mem_append_left _ (List.mem_append_left _ (List.mem_append_right _ h9)))))) hown hK hP 0 rfl rfl 0 (by decide) (hts _ (List.mem_of_getElem? (i := 5) rfl)) (fun _ h9 => h9) rfl dX4_mark_61 ?_
        have hPc : va_P D vwCl (wSt k (d 1) (mkS (S 0) (upd (S 1) q (nI w)) (S 2) (S 3) (S 4) (S 5) (S 6) (S 7))) H := hP.sub [1, 2, 3, 4, 5, 6, 7, 8] rfl
        have hDc : va_D A (wSt k (d 1) (mkS (S 0) (upd (S 1) q (nI w)) (S 2) (S 3) (S 4) (S 5) (S 6) (S 7))) := hD.sub [1, 2, 3, 4, 5, 6, 7, 8] (by decide +kernel) rfl
        refine cl_v (va_runV (As := []) (rest := []) ⟨hx, hb, hml, hown, hts⟩ (c_X1_beginAnew l D k (d 1) (mkS (S 0) (upd (S 1) q (nI w)) (S 2) (S 3) (S 4) (S 5) (S 6) (S 7))  H.size) (cwV 0 hts gX4_mark_X1_beginAnew rfl rfl rfl (by decide +kernel) ⟨Nat.le_of_ble_eq_true rfl, Nat.le_of_ble_eq_true rfl⟩) ⟨pr_blind, va_recv hK hP (ci := 1) (q0 := 1) rfl rfl, pr_at hN hPc hK hDc⟩ rfl rfl hl.1 rfl (lv_room (Nat.le_of_ble_eq_true rfl)) dX4_mark_64 ⟨Nat.le_of_ble_eq_true rfl, Nat.le_of_ble_eq_true rfl⟩) hP hD hS hA [1, 2, 3, 4, 5, 6, 7, 8] [0, 9, 10, 11, 12, 13, 14, 15, 16, 17, 18, 19, 20, 21, 22, 23, 24, 25, 26, 27, 28, 29, 30, 31, 32, 33, 34, 35, 36, 37, 38, 39, 40, 41, 42, 43, 44, 45, 46, 47, 48, 49, 50, 51, 52, 53, 54, 55, 56, 57] ((wXo d (nI (svN ns))) ++ ([(d 3 0, .inl (k 2, 6, .inr (.inr (.inr (.inr (svA (svE v ns)))))))]) ++ (wSt k ((svE v ns) 0) ((svZ Z ns S) 0)) ++ (wSt k ((svE v ns) 1) ((svZ Z ns S) 1)) ++ (wSt k ((svE v ns) 2) ((svZ Z ns S) 2)) ++ (wSt k ((svE v ns) 3) ((svZ Z ns S) 3)) ++ (wSt k ((svE v ns) 4) ((svZ Z ns S) 4)) ++ (wSt k ((svE v ns) 5) ((svZ Z ns S) 5))) [d 0 0, (d 1) 0, (d 1) 1, (d 1) 2, (d 1) 3, (d 1) 4, (d 1) 5, (d 1) 6, (d 1) 7, d 3 0, ((svE v ns) 0) 0, ((svE v ns) 0) 1, ((svE v ns) 0) 2, ((svE v ns) 0) 3, ((svE v ns) 0) 4, ((svE v ns) 0) 5, ((svE v ns) 0) 6, ((svE v ns) 0) 7, ((svE v ns) 1) 0, ((svE v ns) 1) 1, ((svE v ns) 1) 2, ((svE v ns) 1) 3, ((svE v ns) 1) 4, ((svE v ns) 1) 5, ((svE v ns) 1) 6, ((svE v ns) 1) 7, ((svE v ns) 2) 0, ((svE v ns) 2) 1, ((svE v ns) 2) 2, ((svE v ns) 2) 3, ((svE v ns) 2) 4, ((svE v ns) 2) 5, ((svE v ns) 2) 6, ((svE v ns) 2) 7, ((svE v ns) 3) 0, ((svE v ns) 3) 1, ((svE v ns) 3) 2, ((svE v ns) 3) 3, ((svE v ns) 3) 4, ((svE v ns) 3) 5, ((svE v ns) 3) 6, ((svE v ns) 3) 7, ((svE v ns) 4) 0, ((svE v ns) 4) 1, ((svE v ns) 4) 2, ((svE v ns) 4) 3, ((svE v ns) 4) 4, ((svE v ns) 4) 5, ((svE v ns) 4) 6, ((svE v ns) 4) 7, ((svE v ns) 5) 0, ((svE v ns) 5) 1, ((svE v ns) 5) 2, ((svE v ns) 5) 3, ((svE v ns) 5) 4, ((svE v ns) 5) 5, ((svE v ns) 5) 6, ((svE v ns) 5) 7] 58 rfl (wn := (wXo d (nI (svN ns)) ++ (wSt k (d 1) (anS (mkS (S 0) (upd (S 1) q (nI w)) (S 2) (S 3) (S 4) (S 5) (S 6) (S 7))) ++ ([(d 3 0, .inl (k 2, 6, .inr (.inr (.inr (.inr (svA (svE v ns)))))))] ++ (wSt k ((svE v ns) 0) ((svZ Z ns S) 0) ++ (wSt k ((svE v ns) 1) ((svZ Z ns S) 1) ++ (wSt k ((svE v ns) 2) ((svZ Z ns S) 2) ++ (wSt k ((svE v ns) 3) ((svZ Z ns S) 3) ++ (wSt k ((svE v ns) 4) ((svZ Z ns S) 4) ++ (wSt k ((svE v ns) 5) ((svZ Z ns S) 5))))))))))) rfl rfl rfl rfl (by decide +kernel) rfl rfl (fun H locs hP hD hS => ?_)
        clear hPc hDc
        refine lv_iload_n hx hb dX4_mark_67 rfl (lv_at hl 0 rfl) ?_
        subst hQ
        exact rt_iD hx hb hr hlocks hS dX4_mark_68 (hP) (hD) (rfl)
      · have c_3 : ¬ (w ≤ 3) := fun h9 => c_3 ((nI_leI (a := w) (b := 3) (by omega) (by omega)).mpr h9)
        exact absurd c_3 (by omega)
  · have c_1 := bI_eq.mp c_1
    exact absurd c_1 (by rw [pcB_t (by omega)]; decide)

set_option maxHeartbeats 1000000 in
set_option maxRecDepth 100000 in
theorem c_X4_bar (l : Launch) (D : va_G) (k : Nat → ClassId) (d v : Nat → Nat → Nat) (S : Nat → Nat → Int32) (Z : Nat → Nat → Nat → Int32) (ns : Nat) (q z : Nat) (hns : ns ≤ 6) (hq : q < 9) (hz : z < 9) (hqz : q ≠ z) : MID l yX4_bar wsX4_bar ({ frames := 4, cells := 0, slots := 0, locals := 90 }) D k [.ref (d 0 0), .int (nI q), .int (nI z)] (wXo d (nI ns) ++ (wSt k (d 1) S ++ ([(d 3 0, .inl (k 2, 6, .inr (.inr (.inr (.inr (svA v))))))] ++ (wSt k (v 0) (Z 0) ++ (wSt k (v 1) (Z 1) ++ (wSt k (v 2) (Z 2) ++ (wSt k (v 3) (Z 3) ++ (wSt k (v 4) (Z 4) ++ (wSt k (v 5) (Z 5)))))))))) (bitv (upd (upd (S 3) q (S 3 q ^^^ (1 <<< (nI z &&& 31)))) z (upd (S 3) q (S 3 q ^^^ (1 <<< (nI z &&& 31))) z ^^^ (1 <<< (nI q &&& 31))) q) (nI z)) (wXo d (nI (svN ns)) ++ (wSt k (d 1) (anS (gB (gB S q (S 3 q ^^^ (1 <<< (nI z &&& 31)))) z (upd (S 3) q (S 3 q ^^^ (1 <<< (nI z &&& 31))) z ^^^ (1 <<< (nI q &&& 31))))) ++ wSv k (d 3 0) (svE v ns) (svZ Z ns S))) := by
  intro sz
  refine Met.ofW (cc := cX4_bar) (maxL := 3) (ret := (some .int)) (by decide) rfl ?_
  intro p e s m args below meth c s₁ B hml hv
  obtain ⟨rfl, hN, hsz, hP, hK, hD0⟩ := hv
  have hx := B.exec
  have hb := B.bytes
  have hr := B.returns
  have hts := atoms_spec (ws := wsX4_bar) B.pre
  have hown : s.vm.findClass RX4 = some m.cls := findClass_of_methodNamed B.named
  have hlocks := B.notSynchronized
  subst hsz
  have hD := hD0.self (sz := s.heap.size)
  generalize hAe : va_A (wXo d (nI ns) ++ (wSt k (d 1) S ++ ([(d 3 0, .inl (k 2, 6, .inr (.inr (.inr (.inr (svA v))))))] ++ (wSt k (v 0) (Z 0) ++ (wSt k (v 1) (Z 1) ++ (wSt k (v 2) (Z 2) ++ (wSt k (v 3) (Z 3) ++ (wSt k (v 4) (Z 4) ++ (wSt k (v 5) (Z 5)))))))))) s.heap.size = A at hD ⊢
  have hA : ∀ q : Nat, s.heap.size ≤ q → A q := fun q h => by rw [← hAe]; exact Or.inr h
  have hS : va_S A s.heap s.heap [] := va_S.rf
  have hl := lv_entry ([.ref (d 0 0), .int (nI q), .int (nI z)]) (n := 3) (Nat.le_of_ble_eq_true rfl)
  rw [lg_entry_eq]
  generalize (lg_sl ([.ref (d 0 0), .int (nI q), .int (nI z)]) ++ List.replicate (3 - (lg_sl ([.ref (d 0 0), .int (nI q), .int (nI z)])).length) Slot.unset).toArray = ls at hl ⊢
  have hl : lv_has ls 3 [(0, .ref (d 0 0)), (1, .int (nI q)), (2, .int (nI z))] := hl
  obtain ⟨H, hHe⟩ : ∃ H, H = s.heap := ⟨_, rfl⟩
  have hP : va_P D vwCl (wXo d (nI ns) ++ (wSt k (d 1) S ++ ([(d 3 0, .inl (k 2, 6, .inr (.inr (.inr (.inr (svA v))))))] ++ (wSt k (v 0) (Z 0) ++ (wSt k (v 1) (Z 1) ++ (wSt k (v 2) (Z 2) ++ (wSt k (v 3) (Z 3) ++ (wSt k (v 4) (Z 4) ++ (wSt k (v 5) (Z 5)))))))))) H := by rw [hHe]; exact hP
  have hS : va_S A s.heap H [] := by rw [hHe]; exact hS
  rw [← hHe]
  refine absQ (fun Q hQ => ?_)
  refine lv_iload_n hx hb dX4_bar_0 rfl (lv_at hl 1 rfl) ?_
  have hPc : va_P D vwCl ([]) H := hP.sub [] rfl
  have hDc : va_D A ([]) := hD.sub [] (by decide +kernel) rfl
  refine cl_i0 (va_runS (As := [.int (nI q)]) (rest := []) ⟨hx, hb, hml, hown, hts⟩ (c_X4_isPiece l D k (nI q) H.size) (va_cwS 1 hts gX4_bar_X4_isPiece rfl rfl rfl (by decide +kernel) ⟨Nat.le_of_ble_eq_true rfl, Nat.le_of_ble_eq_true rfl⟩) ⟨pr_blind, pr_at hN hPc hK hDc⟩ rfl rfl hl.1 rfl (lv_room (Nat.le_of_ble_eq_true rfl)) dX4_bar_1 ⟨Nat.le_of_ble_eq_true rfl, Nat.le_of_ble_eq_true rfl⟩) hP hD hS hA [] rfl (fun H locs hP hD hS => ?_)
  clear hPc hDc
  refine lv_if_eq (tgt := 14) hx hb dX4_bar_4 (by decide) (fun c_1 => ?_) (fun c_1 => ?_)
  · have c_1 := bI_eq.mp c_1
    exact absurd c_1 (by rw [pcB_t (by omega)]; decide)
  · have c_1 := bI_ne.mp c_1
    refine lv_iload_n hx hb dX4_bar_7 rfl (lv_at hl 2 rfl) ?_
    have hPc : va_P D vwCl ([]) H := hP.sub [] rfl
    have hDc : va_D A ([]) := hD.sub [] (by decide +kernel) rfl
    refine cl_i0 (va_runS (As := [.int (nI z)]) (rest := []) ⟨hx, hb, hml, hown, hts⟩ (c_X4_isPiece l D k (nI z) H.size) (va_cwS 1 hts gX4_bar_X4_isPiece rfl rfl rfl (by decide +kernel) ⟨Nat.le_of_ble_eq_true rfl, Nat.le_of_ble_eq_true rfl⟩) ⟨pr_blind, pr_at hN hPc hK hDc⟩ rfl rfl hl.1 rfl (lv_room (Nat.le_of_ble_eq_true rfl)) dX4_bar_8 ⟨Nat.le_of_ble_eq_true rfl, Nat.le_of_ble_eq_true rfl⟩) hP hD hS hA [] rfl (fun H locs hP hD hS => ?_)
    clear hPc hDc
    refine lv_if_ne (tgt := 24) hx hb dX4_bar_11 (by decide) (fun c_2 => ?_) (fun c_2 => ?_)
    · have c_2 := bI_ne.mp c_2
      refine lv_iload_n hx hb dX4_bar_24 rfl (lv_at hl 1 rfl) ?_
      refine lv_iload_n hx hb dX4_bar_25 rfl (lv_at hl 2 rfl) ?_
      refine lv_icmp_ne (tgt := 39) hx hb dX4_bar_26 (by decide) (fun c_3 => ?_) (fun c_3 => ?_)
      · have c_3 : ¬ (q = z) := fun h9 => c_3 ((nI_eq (a := q) (b := z) (by omega) (by omega)).mpr h9)
        refine lv_aload_n hx hb dX4_bar_39 rfl (lv_at hl 0 rfl) ?_
        have hPc : va_P D vwCl (wXo d (nI ns) ++ (wSt k (d 1) S ++ wSv k (d 3 0) v Z)) H := hP.sub [0, 1, 2, 3, 4, 5, 6, 7, 8, 9, 10, 11, 12, 13, 14, 15, 16, 17, 18, 19, 20, 21, 22, 23, 24, 25, 26, 27, 28, 29, 30, 31, 32, 33, 34, 35, 36, 37, 38, 39, 40, 41, 42, 43, 44, 45, 46, 47, 48, 49, 50, 51, 52, 53, 54, 55, 56, 57] rfl
        have hDc : va_D A (wXo d (nI ns) ++ (wSt k (d 1) S ++ wSv k (d 3 0) v Z)) := hD.sub [0, 1, 2, 3, 4, 5, 6, 7, 8, 9, 10, 11, 12, 13, 14, 15, 16, 17, 18, 19, 20, 21, 22, 23, 24, 25, 26, 27, 28, 29, 30, 31, 32, 33, 34, 35, 36, 37, 38, 39, 40, 41, 42, 43, 44, 45, 46, 47, 48, 49, 50, 51, 52, 53, 54, 55, 56, 57] (by decide +kernel) rfl
        refine cl_vD (va_runV (As := []) (rest := []) ⟨hx, hb, hml, hown, hts⟩ (c_X4_saveState l D k d v S Z ns hns H.size) (cwV 0 hts gX4_bar_X4_saveState rfl rfl rfl (by decide +kernel) ⟨Nat.le_of_ble_eq_true rfl, Nat.le_of_ble_eq_true rfl⟩) ⟨pr_blind, va_recv hK hP (ci := 4) (q0 := 0) rfl rfl, pr_at hN hPc hK hDc⟩ rfl rfl hl.1 rfl (lv_room (Nat.le_of_ble_eq_true rfl)) dX4_bar_40 ⟨Nat.le_of_ble_eq_true rfl, Nat.le_of_ble_eq_true rfl⟩) hP hD hS hA [0, 1, 2, 3, 4, 5, 6, 7, 8, 9, 10, 11, 12, 13, 14, 15, 16, 17, 18, 19, 20, 21, 22, 23, 24, 25, 26, 27, 28, 29, 30, 31, 32, 33, 34, 35, 36, 37, 38, 39, 40, 41, 42, 43, 44, 45, 46, 47, 48, 49, 50, 51, 52, 53, 54, 55, 56, 57] [] rfl (wr := []) rfl (by decide +kernel) (by decide +kernel) (fun H locs hP hD hS => ?_)
        have hP : va_P D vwCl (wXo d (nI (svN ns)) ++ (wSt k (d 1) S ++ ([(d 3 0, .inl (k 2, 6, .inr (.inr (.inr (.inr (svA (svE v ns)))))))] ++ (wSt k ((svE v ns) 0) ((svZ Z ns S) 0) ++ (wSt k ((svE v ns) 1) ((svZ Z ns S) 1) ++ (wSt k ((svE v ns) 2) ((svZ Z ns S) 2) ++ (wSt k ((svE v ns) 3) ((svZ Z ns S) 3) ++ (wSt k ((svE v ns) 4) ((svZ Z ns S) 4) ++ (wSt k ((svE v ns) 5) ((svZ Z ns S) 5)))))))))) H := hP
        have hD : va_D A (wXo d (nI (svN ns)) ++ (wSt k (d 1) S ++ ([(d 3 0, .inl (k 2, 6, .inr (.inr (.inr (.inr (svA (svE v ns)))))))] ++ (wSt k ((svE v ns) 0) ((svZ Z ns S) 0) ++ (wSt k ((svE v ns) 1) ((svZ Z ns S) 1) ++ (wSt k ((svE v ns) 2) ((svZ Z ns S) 2) ++ (wSt k ((svE v ns) 3) ((svZ Z ns S) 3) ++ (wSt k ((svE v ns) 4) ((svZ Z ns S) 4) ++ (wSt k ((svE v ns) 5) ((svZ Z ns S) 5)))))))))) := hD
        clear hPc hDc
        refine lv_aload_n hx hb dX4_bar_43 rfl (lv_at hl 0 rfl) ?_
        refine va_get (D := D) (ci := 4) (v := .ref (d 1 0)) (C := RX4) (T := TX4) (N := 9) hx hb hts (fun _ h9 => (List.mem_cons_of_mem _ (List.mem_append_left _ (List.mem_append_left _ (List.mem_append_left _ (List.mem_append_right _ h9)))))) hown hK hP 0 rfl rfl 0 (by decide) (hts _ (List.mem_of_getElem? (i := 5) rfl)) (fun _ h9 => h9) rfl dX4_bar_44 ?_
        refine va_get (D := D) (ci := 1) (v := .ref ((d 1) 4)) (C := RX1) (T := TX1) (N := 10) hx hb hts (fun _ h9 => (List.mem_cons_of_mem _ (List.mem_append_left _ (List.mem_append_left _ (List.mem_append_right _ h9))))) hown hK hP 1 rfl rfl 3 (by decide) (hts _ (List.mem_of_getElem? (i := 6) rfl)) (fun _ h9 => h9) rfl dX4_bar_47 ?_
        refine lv_iload_n hx hb dX4_bar_50 rfl (lv_at hl 1 rfl) ?_
        refine lv_dup2_11 hx hb dX4_bar_51 rfl rfl ?_
        refine ar_ld hx hb hK hP 5 rfl q (nI_clamp (by omega)) (vp_in_nI (by omega) (by omega)) dX4_bar_52 ?_
        refine lv_iconst (v := 1) hx hb dX4_bar_53 (by decide) ?_
        refine lv_iload_n hx hb dX4_bar_54 rfl (lv_at hl 2 rfl) ?_
        refine lv_ishl hx hb dX4_bar_55 ?_
        refine lv_ixor hx hb dX4_bar_56 ?_
        refine ar_st hx hb hK hP hD hS 5 rfl q (nI_clamp (by omega)) (vp_in_nI (by omega) (by omega)) dX4_bar_57 (wn := (wXo d (nI (svN ns)) ++ ([((d 1) 0, .inr (1, [.ref ((d 1) 1), .ref ((d 1) 2), .ref ((d 1) 3), .ref ((d 1) 4), .ref ((d 1) 5), .ref ((d 1) 6), .ref ((d 1) 7), .int (S 7 0), .int (S 7 1), .int (S 7 2)])), ((d 1) 1, .inl (k 0, 9, .inl (S 0))), ((d 1) 2, .inl (k 0, 9, .inl (S 1))), ((d 1) 3, .inl (k 0, 9, .inl (S 2))), ((d 1) 4, .inl (k 0, 9, .inl (upd (S 3) q (((S 3) q) ^^^ (1 <<< ((nI z) &&& 31)))))), ((d 1) 5, .inl (k 0, 9, .inl (S 4))), ((d 1) 6, .inl (k 0, 12, .inl (S 5))), ((d 1) 7, .inl (k 0, 12, .inl (S 6)))] ++ ([(d 3 0, .inl (k 2, 6, .inr (.inr (.inr (.inr (svA (svE v ns)))))))] ++ (wSt k ((svE v ns) 0) ((svZ Z ns S) 0) ++ (wSt k ((svE v ns) 1) ((svZ Z ns S) 1) ++ (wSt k ((svE v ns) 2) ((svZ Z ns S) 2) ++ (wSt k ((svE v ns) 3) ((svZ Z ns S) 3) ++ (wSt k ((svE v ns) 4) ((svZ Z ns S) 4) ++ (wSt k ((svE v ns) 5) ((svZ Z ns S) 5))))))))))) rfl (fun H locs hP hD hS => ?_)
        refine lv_aload_n hx hb dX4_bar_58 rfl (lv_at hl 0 rfl) ?_
        refine va_get (D := D) (ci := 4) (v := .ref (d 1 0)) (C := RX4) (T := TX4) (N := 9) hx hb hts (fun _ h9 => (List.mem_cons_of_mem _ (List.mem_append_left _ (List.mem_append_left _ (List.mem_append_left _ (List.mem_append_right _ h9)))))) hown hK hP 0 rfl rfl 0 (by decide) (hts _ (List.mem_of_getElem? (i := 5) rfl)) (fun _ h9 => h9) rfl dX4_bar_59 ?_
        refine va_get (D := D) (ci := 1) (v := .ref ((d 1) 4)) (C := RX1) (T := TX1) (N := 10) hx hb hts (fun _ h9 => (List.mem_cons_of_mem _ (List.mem_append_left _ (List.mem_append_left _ (List.mem_append_right _ h9))))) hown hK hP 1 rfl rfl 3 (by decide) (hts _ (List.mem_of_getElem? (i := 6) rfl)) (fun _ h9 => h9) rfl dX4_bar_62 ?_
        refine lv_iload_n hx hb dX4_bar_65 rfl (lv_at hl 2 rfl) ?_
        refine lv_dup2_11 hx hb dX4_bar_66 rfl rfl ?_
        refine ar_ld hx hb hK hP 5 rfl z (nI_clamp (by omega)) (vp_in_nI (by omega) (by omega)) dX4_bar_67 ?_
        refine lv_iconst (v := 1) hx hb dX4_bar_68 (by decide) ?_
        refine lv_iload_n hx hb dX4_bar_69 rfl (lv_at hl 1 rfl) ?_
        refine lv_ishl hx hb dX4_bar_70 ?_
        refine lv_ixor hx hb dX4_bar_71 ?_
        refine ar_st hx hb hK hP hD hS 5 rfl z (nI_clamp (by omega)) (vp_in_nI (by omega) (by omega)) dX4_bar_72 (wn := (wXo d (nI (svN ns)) ++ ([((d 1) 0, .inr (1, [.ref ((d 1) 1), .ref ((d 1) 2), .ref ((d 1) 3), .ref ((d 1) 4), .ref ((d 1) 5), .ref ((d 1) 6), .ref ((d 1) 7), .int (S 7 0), .int (S 7 1), .int (S 7 2)])), ((d 1) 1, .inl (k 0, 9, .inl (S 0))), ((d 1) 2, .inl (k 0, 9, .inl (S 1))), ((d 1) 3, .inl (k 0, 9, .inl (S 2))), ((d 1) 4, .inl (k 0, 9, .inl (upd (upd (S 3) q (((S 3) q) ^^^ (1 <<< ((nI z) &&& 31)))) z (((upd (S 3) q (((S 3) q) ^^^ (1 <<< ((nI z) &&& 31)))) z) ^^^ (1 <<< ((nI q) &&& 31)))))), ((d 1) 5, .inl (k 0, 9, .inl (S 4))), ((d 1) 6, .inl (k 0, 12, .inl (S 5))), ((d 1) 7, .inl (k 0, 12, .inl (S 6)))] ++ ([(d 3 0, .inl (k 2, 6, .inr (.inr (.inr (.inr (svA (svE v ns)))))))] ++ (wSt k ((svE v ns) 0) ((svZ Z ns S) 0) ++ (wSt k ((svE v ns) 1) ((svZ Z ns S) 1) ++ (wSt k ((svE v ns) 2) ((svZ Z ns S) 2) ++ (wSt k ((svE v ns) 3) ((svZ Z ns S) 3) ++ (wSt k ((svE v ns) 4) ((svZ Z ns S) 4) ++ (wSt k ((svE v ns) 5) ((svZ Z ns S) 5))))))))))) rfl (fun H locs hP hD hS => ?_)
        refine lv_aload_n hx hb dX4_bar_73 rfl (lv_at hl 0 rfl) ?_
        refine va_get (D := D) (ci := 4) (v := .ref (d 1 0)) (C := RX4) (T := TX4) (N := 9) hx hb hts (fun _ h9 => (List.mem_cons_of_mem _ (List.mem_append_left _ (List.mem_append_left _ (List.mem_append_left _ (List.mem_append_right _ h9)))))) hown hK hP 0 rfl rfl 0 (by decide) (hts _ (List.mem_of_getElem? (i := 5) rfl)) (fun _ h9 => h9) rfl dX4_bar_74 ?_
        have hPc : va_P D vwCl (wSt k (d 1) (mkS (S 0) (S 1) (S 2) (upd (upd (S 3) q (((S 3) q) ^^^ (1 <<< ((nI z) &&& 31)))) z (((upd (S 3) q (((S 3) q) ^^^ (1 <<< ((nI z) &&& 31)))) z) ^^^ (1 <<< ((nI q) &&& 31)))) (S 4) (S 5) (S 6) (S 7))) H := hP.sub [1, 2, 3, 4, 5, 6, 7, 8] rfl
        have hDc : va_D A (wSt k (d 1) (mkS (S 0) (S 1) (S 2) (upd (upd (S 3) q (((S 3) q) ^^^ (1 <<< ((nI z) &&& 31)))) z (((upd (S 3) q (((S 3) q) ^^^ (1 <<< ((nI z) &&& 31)))) z) ^^^ (1 <<< ((nI q) &&& 31)))) (S 4) (S 5) (S 6) (S 7))) := hD.sub [1, 2, 3, 4, 5, 6, 7, 8] (by decide +kernel) rfl
        refine cl_v (va_runV (As := []) (rest := []) ⟨hx, hb, hml, hown, hts⟩ (c_X1_beginAnew l D k (d 1) (mkS (S 0) (S 1) (S 2) (upd (upd (S 3) q (((S 3) q) ^^^ (1 <<< ((nI z) &&& 31)))) z (((upd (S 3) q (((S 3) q) ^^^ (1 <<< ((nI z) &&& 31)))) z) ^^^ (1 <<< ((nI q) &&& 31)))) (S 4) (S 5) (S 6) (S 7))  H.size) (cwV 0 hts gX4_bar_X1_beginAnew rfl rfl rfl (by decide +kernel) ⟨Nat.le_of_ble_eq_true rfl, Nat.le_of_ble_eq_true rfl⟩) ⟨pr_blind, va_recv hK hP (ci := 1) (q0 := 1) rfl rfl, pr_at hN hPc hK hDc⟩ rfl rfl hl.1 rfl (lv_room (Nat.le_of_ble_eq_true rfl)) dX4_bar_77 ⟨Nat.le_of_ble_eq_true rfl, Nat.le_of_ble_eq_true rfl⟩) hP hD hS hA [1, 2, 3, 4, 5, 6, 7, 8] [0, 9, 10, 11, 12, 13, 14, 15, 16, 17, 18, 19, 20, 21, 22, 23, 24, 25, 26, 27, 28, 29, 30, 31, 32, 33, 34, 35, 36, 37, 38, 39, 40, 41, 42, 43, 44, 45, 46, 47, 48, 49, 50, 51, 52, 53, 54, 55, 56, 57] ((wXo d (nI (svN ns))) ++ ([(d 3 0, .inl (k 2, 6, .inr (.inr (.inr (.inr (svA (svE v ns)))))))]) ++ (wSt k ((svE v ns) 0) ((svZ Z ns S) 0)) ++ (wSt k ((svE v ns) 1) ((svZ Z ns S) 1)) ++ (wSt k ((svE v ns) 2) ((svZ Z ns S) 2)) ++ (wSt k ((svE v ns) 3) ((svZ Z ns S) 3)) ++ (wSt k ((svE v ns) 4) ((svZ Z ns S) 4)) ++ (wSt k ((svE v ns) 5) ((svZ Z ns S) 5))) [d 0 0, (d 1) 0, (d 1) 1, (d 1) 2, (d 1) 3, (d 1) 4, (d 1) 5, (d 1) 6, (d 1) 7, d 3 0, ((svE v ns) 0) 0, ((svE v ns) 0) 1, ((svE v ns) 0) 2, ((svE v ns) 0) 3, ((svE v ns) 0) 4, ((svE v ns) 0) 5, ((svE v ns) 0) 6, ((svE v ns) 0) 7, ((svE v ns) 1) 0, ((svE v ns) 1) 1, ((svE v ns) 1) 2, ((svE v ns) 1) 3, ((svE v ns) 1) 4, ((svE v ns) 1) 5, ((svE v ns) 1) 6, ((svE v ns) 1) 7, ((svE v ns) 2) 0, ((svE v ns) 2) 1, ((svE v ns) 2) 2, ((svE v ns) 2) 3, ((svE v ns) 2) 4, ((svE v ns) 2) 5, ((svE v ns) 2) 6, ((svE v ns) 2) 7, ((svE v ns) 3) 0, ((svE v ns) 3) 1, ((svE v ns) 3) 2, ((svE v ns) 3) 3, ((svE v ns) 3) 4, ((svE v ns) 3) 5, ((svE v ns) 3) 6, ((svE v ns) 3) 7, ((svE v ns) 4) 0, ((svE v ns) 4) 1, ((svE v ns) 4) 2, ((svE v ns) 4) 3, ((svE v ns) 4) 4, ((svE v ns) 4) 5, ((svE v ns) 4) 6, ((svE v ns) 4) 7, ((svE v ns) 5) 0, ((svE v ns) 5) 1, ((svE v ns) 5) 2, ((svE v ns) 5) 3, ((svE v ns) 5) 4, ((svE v ns) 5) 5, ((svE v ns) 5) 6, ((svE v ns) 5) 7] 58 rfl (wn := (wXo d (nI (svN ns)) ++ (wSt k (d 1) (anS (mkS (S 0) (S 1) (S 2) (upd (upd (S 3) q (((S 3) q) ^^^ (1 <<< ((nI z) &&& 31)))) z (((upd (S 3) q (((S 3) q) ^^^ (1 <<< ((nI z) &&& 31)))) z) ^^^ (1 <<< ((nI q) &&& 31)))) (S 4) (S 5) (S 6) (S 7))) ++ ([(d 3 0, .inl (k 2, 6, .inr (.inr (.inr (.inr (svA (svE v ns)))))))] ++ (wSt k ((svE v ns) 0) ((svZ Z ns S) 0) ++ (wSt k ((svE v ns) 1) ((svZ Z ns S) 1) ++ (wSt k ((svE v ns) 2) ((svZ Z ns S) 2) ++ (wSt k ((svE v ns) 3) ((svZ Z ns S) 3) ++ (wSt k ((svE v ns) 4) ((svZ Z ns S) 4) ++ (wSt k ((svE v ns) 5) ((svZ Z ns S) 5))))))))))) rfl rfl rfl rfl (by decide +kernel) rfl rfl (fun H locs hP hD hS => ?_)
        clear hPc hDc
        refine lv_aload_n hx hb dX4_bar_80 rfl (lv_at hl 0 rfl) ?_
        refine va_get (D := D) (ci := 4) (v := .ref (d 1 0)) (C := RX4) (T := TX4) (N := 9) hx hb hts (fun _ h9 => (List.mem_cons_of_mem _ (List.mem_append_left _ (List.mem_append_left _ (List.mem_append_left _ (List.mem_append_right _ h9)))))) hown hK hP 0 rfl rfl 0 (by decide) (hts _ (List.mem_of_getElem? (i := 5) rfl)) (fun _ h9 => h9) rfl dX4_bar_81 ?_
        refine va_get (D := D) (ci := 1) (v := .ref ((d 1) 4)) (C := RX1) (T := TX1) (N := 10) hx hb hts (fun _ h9 => (List.mem_cons_of_mem _ (List.mem_append_left _ (List.mem_append_left _ (List.mem_append_right _ h9))))) hown hK hP 1 rfl rfl 3 (by decide) (hts _ (List.mem_of_getElem? (i := 6) rfl)) (fun _ h9 => h9) rfl dX4_bar_84 ?_
        refine lv_iload_n hx hb dX4_bar_87 rfl (lv_at hl 1 rfl) ?_
        refine ar_ld hx hb hK hP 5 rfl q (nI_clamp (by omega)) (vp_in_nI (by omega) (by omega)) dX4_bar_88 ?_
        refine lv_iload_n hx hb dX4_bar_89 rfl (lv_at hl 2 rfl) ?_
        have hPc : va_P D vwCl ([]) H := hP.sub [] rfl
        have hDc : va_D A ([]) := hD.sub [] (by decide +kernel) rfl
        refine cl_i0 (va_runS (As := [.int (((anS (mkS (S 0) (S 1) (S 2) (upd (upd (S 3) q (((S 3) q) ^^^ (1 <<< ((nI z) &&& 31)))) z (((upd (S 3) q (((S 3) q) ^^^ (1 <<< ((nI z) &&& 31)))) z) ^^^ (1 <<< ((nI q) &&& 31)))) (S 4) (S 5) (S 6) (S 7))) 3) q), .int (nI z)]) (rest := []) ⟨hx, hb, hml, hown, hts⟩ (c_X4_bit l D k (((anS (mkS (S 0) (S 1) (S 2) (upd (upd (S 3) q (((S 3) q) ^^^ (1 <<< ((nI z) &&& 31)))) z (((upd (S 3) q (((S 3) q) ^^^ (1 <<< ((nI z) &&& 31)))) z) ^^^ (1 <<< ((nI q) &&& 31)))) (S 4) (S 5) (S 6) (S 7))) 3) q) (nI z) H.size) (va_cwS 2 hts gX4_bar_X4_bit rfl rfl rfl (by decide +kernel) ⟨Nat.le_of_ble_eq_true rfl, Nat.le_of_ble_eq_true rfl⟩) ⟨pr_blind, pr_at hN hPc hK hDc⟩ rfl rfl hl.1 rfl (lv_room (Nat.le_of_ble_eq_true rfl)) dX4_bar_90 ⟨Nat.le_of_ble_eq_true rfl, Nat.le_of_ble_eq_true rfl⟩) hP hD hS hA [] rfl (fun H locs hP hD hS => ?_)
        clear hPc hDc
        subst hQ
        exact rt_iD hx hb hr hlocks hS dX4_bar_93 (hP) (hD) (rfl)
      · have c_3 : q = z := (nI_eq (a := q) (b := z) (by omega) (by omega)).mp c_3
        exact absurd c_3 (by omega)
    · have c_2 := bI_eq.mp c_2
      exact absurd c_2 (by rw [pcB_t (by omega)]; decide)

set_option maxHeartbeats 1000000 in
set_option maxRecDepth 100000 in
theorem c_X4_begin (l : Launch) (D : va_G) (k : Nat → ClassId) (d v : Nat → Nat → Nat) (S : Nat → Nat → Int32) (Z : Nat → Nat → Nat → Int32) (ns : Nat)  (hns : ns ≤ 6)  : MID l yX4_begin wsX4_begin ({ frames := 4, cells := 0, slots := 0, locals := 90 }) D k [.ref (d 0 0)] (wXo d (nI ns) ++ (wSt k (d 1) S ++ ([(d 3 0, .inl (k 2, 6, .inr (.inr (.inr (.inr (svA v))))))] ++ (wSt k (v 0) (Z 0) ++ (wSt k (v 1) (Z 1) ++ (wSt k (v 2) (Z 2) ++ (wSt k (v 3) (Z 3) ++ (wSt k (v 4) (Z 4) ++ (wSt k (v 5) (Z 5)))))))))) (S 7 0) (wXo d (nI (svN ns)) ++ (wSt k (d 1) (anS S) ++ wSv k (d 3 0) (svE v ns) (svZ Z ns S))) := by
  intro sz
  refine Met.ofW (cc := cX4_begin) (maxL := 2) (ret := (some .int)) (by decide) rfl ?_
  intro p e s m args below meth c s₁ B hml hv
  obtain ⟨rfl, hN, hsz, hP, hK, hD0⟩ := hv
  have hx := B.exec
  have hb := B.bytes
  have hr := B.returns
  have hts := atoms_spec (ws := wsX4_begin) B.pre
  have hown : s.vm.findClass RX4 = some m.cls := findClass_of_methodNamed B.named
  have hlocks := B.notSynchronized
  subst hsz
  have hD := hD0.self (sz := s.heap.size)
  generalize hAe : va_A (wXo d (nI ns) ++ (wSt k (d 1) S ++ ([(d 3 0, .inl (k 2, 6, .inr (.inr (.inr (.inr (svA v))))))] ++ (wSt k (v 0) (Z 0) ++ (wSt k (v 1) (Z 1) ++ (wSt k (v 2) (Z 2) ++ (wSt k (v 3) (Z 3) ++ (wSt k (v 4) (Z 4) ++ (wSt k (v 5) (Z 5)))))))))) s.heap.size = A at hD ⊢
  have hA : ∀ q : Nat, s.heap.size ≤ q → A q := fun q h => by rw [← hAe]; exact Or.inr h
  have hS : va_S A s.heap s.heap [] := va_S.rf
  have hl := lv_entry ([.ref (d 0 0)]) (n := 2) (Nat.le_of_ble_eq_true rfl)
  rw [lg_entry_eq]
  generalize (lg_sl ([.ref (d 0 0)]) ++ List.replicate (2 - (lg_sl ([.ref (d 0 0)])).length) Slot.unset).toArray = ls at hl ⊢
  have hl : lv_has ls 2 [(0, .ref (d 0 0))] := hl
  obtain ⟨H, hHe⟩ : ∃ H, H = s.heap := ⟨_, rfl⟩
  have hP : va_P D vwCl (wXo d (nI ns) ++ (wSt k (d 1) S ++ ([(d 3 0, .inl (k 2, 6, .inr (.inr (.inr (.inr (svA v))))))] ++ (wSt k (v 0) (Z 0) ++ (wSt k (v 1) (Z 1) ++ (wSt k (v 2) (Z 2) ++ (wSt k (v 3) (Z 3) ++ (wSt k (v 4) (Z 4) ++ (wSt k (v 5) (Z 5)))))))))) H := by rw [hHe]; exact hP
  have hS : va_S A s.heap H [] := by rw [hHe]; exact hS
  rw [← hHe]
  refine absQ (fun Q hQ => ?_)
  refine lv_aload_n hx hb dX4_begin_0 rfl (lv_at hl 0 rfl) ?_
  have hPc : va_P D vwCl (wXo d (nI ns) ++ (wSt k (d 1) S ++ wSv k (d 3 0) v Z)) H := hP.sub [0, 1, 2, 3, 4, 5, 6, 7, 8, 9, 10, 11, 12, 13, 14, 15, 16, 17, 18, 19, 20, 21, 22, 23, 24, 25, 26, 27, 28, 29, 30, 31, 32, 33, 34, 35, 36, 37, 38, 39, 40, 41, 42, 43, 44, 45, 46, 47, 48, 49, 50, 51, 52, 53, 54, 55, 56, 57] rfl
  have hDc : va_D A (wXo d (nI ns) ++ (wSt k (d 1) S ++ wSv k (d 3 0) v Z)) := hD.sub [0, 1, 2, 3, 4, 5, 6, 7, 8, 9, 10, 11, 12, 13, 14, 15, 16, 17, 18, 19, 20, 21, 22, 23, 24, 25, 26, 27, 28, 29, 30, 31, 32, 33, 34, 35, 36, 37, 38, 39, 40, 41, 42, 43, 44, 45, 46, 47, 48, 49, 50, 51, 52, 53, 54, 55, 56, 57] (by decide +kernel) rfl
  refine cl_vD (va_runV (As := []) (rest := []) ⟨hx, hb, hml, hown, hts⟩ (c_X4_saveState l D k d v S Z ns hns H.size) (cwV 0 hts gX4_begin_X4_saveState rfl rfl rfl (by decide +kernel) ⟨Nat.le_of_ble_eq_true rfl, Nat.le_of_ble_eq_true rfl⟩) ⟨pr_blind, va_recv hK hP (ci := 4) (q0 := 0) rfl rfl, pr_at hN hPc hK hDc⟩ rfl rfl hl.1 rfl (lv_room (Nat.le_of_ble_eq_true rfl)) dX4_begin_1 ⟨Nat.le_of_ble_eq_true rfl, Nat.le_of_ble_eq_true rfl⟩) hP hD hS hA [0, 1, 2, 3, 4, 5, 6, 7, 8, 9, 10, 11, 12, 13, 14, 15, 16, 17, 18, 19, 20, 21, 22, 23, 24, 25, 26, 27, 28, 29, 30, 31, 32, 33, 34, 35, 36, 37, 38, 39, 40, 41, 42, 43, 44, 45, 46, 47, 48, 49, 50, 51, 52, 53, 54, 55, 56, 57] [] rfl (wr := []) rfl (by decide +kernel) (by decide +kernel) (fun H locs hP hD hS => ?_)
  have hP : va_P D vwCl (wXo d (nI (svN ns)) ++ (wSt k (d 1) S ++ ([(d 3 0, .inl (k 2, 6, .inr (.inr (.inr (.inr (svA (svE v ns)))))))] ++ (wSt k ((svE v ns) 0) ((svZ Z ns S) 0) ++ (wSt k ((svE v ns) 1) ((svZ Z ns S) 1) ++ (wSt k ((svE v ns) 2) ((svZ Z ns S) 2) ++ (wSt k ((svE v ns) 3) ((svZ Z ns S) 3) ++ (wSt k ((svE v ns) 4) ((svZ Z ns S) 4) ++ (wSt k ((svE v ns) 5) ((svZ Z ns S) 5)))))))))) H := hP
  have hD : va_D A (wXo d (nI (svN ns)) ++ (wSt k (d 1) S ++ ([(d 3 0, .inl (k 2, 6, .inr (.inr (.inr (.inr (svA (svE v ns)))))))] ++ (wSt k ((svE v ns) 0) ((svZ Z ns S) 0) ++ (wSt k ((svE v ns) 1) ((svZ Z ns S) 1) ++ (wSt k ((svE v ns) 2) ((svZ Z ns S) 2) ++ (wSt k ((svE v ns) 3) ((svZ Z ns S) 3) ++ (wSt k ((svE v ns) 4) ((svZ Z ns S) 4) ++ (wSt k ((svE v ns) 5) ((svZ Z ns S) 5)))))))))) := hD
  clear hPc hDc
  refine lv_aload_n hx hb dX4_begin_4 rfl (lv_at hl 0 rfl) ?_
  refine va_get (D := D) (ci := 4) (v := .ref (d 1 0)) (C := RX4) (T := TX4) (N := 9) hx hb hts (fun _ h9 => (List.mem_cons_of_mem _ (List.mem_append_left _ (List.mem_append_right _ h9)))) hown hK hP 0 rfl rfl 0 (by decide) (hts _ (List.mem_of_getElem? (i := 1) rfl)) (fun _ h9 => h9) rfl dX4_begin_5 ?_
  refine va_get (D := D) (ci := 1) (v := .int (S 7 0)) (C := RX1) (T := TX1) (N := 10) hx hb hts (fun _ h9 => (List.mem_cons_of_mem _ (List.mem_append_right _ h9))) hown hK hP 1 rfl rfl 7 (by decide) (hts _ (List.mem_of_getElem? (i := 2) rfl)) (fun _ h9 => h9) rfl dX4_begin_8 ?_
  refine lv_istore_n (lv' := [(1, .int (S 7 0)), (0, .ref (d 0 0))]) hx hb dX4_begin_11 rfl hl (by decide) rfl (fun ls hl => ?_)
  refine lv_aload_n hx hb dX4_begin_12 rfl (lv_at hl 1 rfl) ?_
  refine va_get (D := D) (ci := 4) (v := .ref (d 1 0)) (C := RX4) (T := TX4) (N := 9) hx hb hts (fun _ h9 => (List.mem_cons_of_mem _ (List.mem_append_left _ (List.mem_append_right _ h9)))) hown hK hP 0 rfl rfl 0 (by decide) (hts _ (List.mem_of_getElem? (i := 1) rfl)) (fun _ h9 => h9) rfl dX4_begin_13 ?_
  have hPc : va_P D vwCl (wSt k (d 1) S) H := hP.sub [1, 2, 3, 4, 5, 6, 7, 8] rfl
  have hDc : va_D A (wSt k (d 1) S) := hD.sub [1, 2, 3, 4, 5, 6, 7, 8] (by decide +kernel) rfl
  refine cl_v (va_runV (As := []) (rest := []) ⟨hx, hb, hml, hown, hts⟩ (c_X1_beginAnew l D k (d 1) S  H.size) (cwV 0 hts gX4_begin_X1_beginAnew rfl rfl rfl (by decide +kernel) ⟨Nat.le_of_ble_eq_true rfl, Nat.le_of_ble_eq_true rfl⟩) ⟨pr_blind, va_recv hK hP (ci := 1) (q0 := 1) rfl rfl, pr_at hN hPc hK hDc⟩ rfl rfl hl.1 rfl (lv_room (Nat.le_of_ble_eq_true rfl)) dX4_begin_16 ⟨Nat.le_of_ble_eq_true rfl, Nat.le_of_ble_eq_true rfl⟩) hP hD hS hA [1, 2, 3, 4, 5, 6, 7, 8] [0, 9, 10, 11, 12, 13, 14, 15, 16, 17, 18, 19, 20, 21, 22, 23, 24, 25, 26, 27, 28, 29, 30, 31, 32, 33, 34, 35, 36, 37, 38, 39, 40, 41, 42, 43, 44, 45, 46, 47, 48, 49, 50, 51, 52, 53, 54, 55, 56, 57] ((wXo d (nI (svN ns))) ++ ([(d 3 0, .inl (k 2, 6, .inr (.inr (.inr (.inr (svA (svE v ns)))))))]) ++ (wSt k ((svE v ns) 0) ((svZ Z ns S) 0)) ++ (wSt k ((svE v ns) 1) ((svZ Z ns S) 1)) ++ (wSt k ((svE v ns) 2) ((svZ Z ns S) 2)) ++ (wSt k ((svE v ns) 3) ((svZ Z ns S) 3)) ++ (wSt k ((svE v ns) 4) ((svZ Z ns S) 4)) ++ (wSt k ((svE v ns) 5) ((svZ Z ns S) 5))) [d 0 0, (d 1) 0, (d 1) 1, (d 1) 2, (d 1) 3, (d 1) 4, (d 1) 5, (d 1) 6, (d 1) 7, d 3 0, ((svE v ns) 0) 0, ((svE v ns) 0) 1, ((svE v ns) 0) 2, ((svE v ns) 0) 3, ((svE v ns) 0) 4, ((svE v ns) 0) 5, ((svE v ns) 0) 6, ((svE v ns) 0) 7, ((svE v ns) 1) 0, ((svE v ns) 1) 1, ((svE v ns) 1) 2, ((svE v ns) 1) 3, ((svE v ns) 1) 4, ((svE v ns) 1) 5, ((svE v ns) 1) 6, ((svE v ns) 1) 7, ((svE v ns) 2) 0, ((svE v ns) 2) 1, ((svE v ns) 2) 2, ((svE v ns) 2) 3, ((svE v ns) 2) 4, ((svE v ns) 2) 5, ((svE v ns) 2) 6, ((svE v ns) 2) 7, ((svE v ns) 3) 0, ((svE v ns) 3) 1, ((svE v ns) 3) 2, ((svE v ns) 3) 3, ((svE v ns) 3) 4, ((svE v ns) 3) 5, ((svE v ns) 3) 6, ((svE v ns) 3) 7, ((svE v ns) 4) 0, ((svE v ns) 4) 1, ((svE v ns) 4) 2, ((svE v ns) 4) 3, ((svE v ns) 4) 4, ((svE v ns) 4) 5, ((svE v ns) 4) 6, ((svE v ns) 4) 7, ((svE v ns) 5) 0, ((svE v ns) 5) 1, ((svE v ns) 5) 2, ((svE v ns) 5) 3, ((svE v ns) 5) 4, ((svE v ns) 5) 5, ((svE v ns) 5) 6, ((svE v ns) 5) 7] 58 rfl (wn := (wXo d (nI (svN ns)) ++ (wSt k (d 1) (anS S) ++ ([(d 3 0, .inl (k 2, 6, .inr (.inr (.inr (.inr (svA (svE v ns)))))))] ++ (wSt k ((svE v ns) 0) ((svZ Z ns S) 0) ++ (wSt k ((svE v ns) 1) ((svZ Z ns S) 1) ++ (wSt k ((svE v ns) 2) ((svZ Z ns S) 2) ++ (wSt k ((svE v ns) 3) ((svZ Z ns S) 3) ++ (wSt k ((svE v ns) 4) ((svZ Z ns S) 4) ++ (wSt k ((svE v ns) 5) ((svZ Z ns S) 5))))))))))) rfl rfl rfl rfl (by decide +kernel) rfl rfl (fun H locs hP hD hS => ?_)
  clear hPc hDc
  refine lv_iload_n hx hb dX4_begin_19 rfl (lv_at hl 0 rfl) ?_
  subst hQ
  exact rt_iD hx hb hr hlocks hS dX4_begin_20 (hP) (hD) (rfl)
