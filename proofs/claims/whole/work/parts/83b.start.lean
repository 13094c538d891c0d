theorem cl_vNB {p : Program} {l : Launch} {e : Env} {R : Room} {s : State} {m : MethodId} {args : Array Value} {below : List Frame} {meth : Method} {c : Code} {H H0 : Heap} {locs : List Loc} {cells slots : Nat} {Q : State → Prop} {pc : Nat} {ls : Array Slot} {rest st0 : List Value} {a : Array Value} {A0 : Nat → Prop} {mc ms : Nat} {D : va_G} {wl wc : va_W} {X : va_W → Prop} (hr : va_Run p l e R s m args below meth c H locs cells slots mc ms (F0 m pc ls st0) rest (va_Qv (fun _ : Unit => True) (PoN D (va_A wc H.size) X) (va_A wc H.size) a) (va_A wc H.size)) (hP : va_P D vwCl (wl ++ wc) H) (hD : va_D A0 (wl ++ wc)) (hS : va_S A0 H0 H locs) (hA : ∀ q, H0.size ≤ q → A0 q)
    (kk : ∀ (w : va_W), X w → ∀ (H1 : Heap) (locs1 : List Loc), va_P D vwCl (wl ++ w) H1 → va_D A0 (wl ++ w) → va_S A0 H0 H1 locs1 → W p l e R s m args below meth c H1 locs1 (cells + mc) (slots + ms) Q (F0 m (pc + 3) ls rest)) : W p l e R s m args below meth c H locs cells slots Q (F0 m pc ls st0) := by
  have hF := fr_app (va_Dsw hD) hS hA
  refine va_callv hr hS (fun q _ h => hF q h) hF (fun u t H1 locs1 ht hvm hw hB hz hk hS1 => ?_)
  obtain ⟨w, hX, hP1, hD1⟩ : ∃ w, X w ∧ va_P D vwCl w t.heap ∧ va_D (va_A wc H.size) w := hB
  rw [ht] at hP1
  obtain ⟨h1, h2⟩ := jn_app (va_Psw hP) (va_Dsw hD) hk hF hP1 hD1
  exact kk w hX H1 locs1 (va_Psw h1) (va_Dsw h2) hS1
set_option maxHeartbeats 1000000 in
set_option maxRecDepth 100000 in
theorem whole_start {p : Program} {e : Env} {s : State} {m : MethodId} {below : List Frame} {meth : Method} {c : Code} (l : Launch) (hflags : l.flags = flags0) {b L : Nat} {xs : Nat → Int32} (hL : L ≤ 1536) (C0 : lw_At p s m meth c b L xs) : W p l e room_1 s m #[Value.ref b] below meth c s.heap [] 0 0 (lw_Z below #[Value.ref b] s) (entryFrame m ([Value.ref b] : List Value).toArray 9) := by
  obtain ⟨D, k, C1⟩ := st_LC hflags hL C0
  obtain ⟨hx, hb, hr, hml, hown, hts, hX, hbl, hlocks, hK, hN, hXP, hXZ, -, hfl⟩ := id C1
  have hts0 : ∀ w ∈ lw_tbl, w.before #[Value.ref b] s = true := C0.2.2.2.2.2.1
  have hAO : va_AO RX1 s := va_AO.of (hts0 _ (tb_at 129 (by decide +kernel)))
  have hA : ∀ q : Nat, s.heap.size ≤ q → (fun q : Nat => s.heap.size ≤ q) q := fun _ h => h
  have hS : va_S (fun q : Nat => s.heap.size ≤ q) s.heap s.heap [] := va_S.rf
  have hl := lv_entry ([.ref b]) (n := 9) (Nat.le_of_ble_eq_true rfl)
  rw [lg_entry_eq]
  generalize (lg_sl ([.ref b]) ++ List.replicate (9 - (lg_sl ([.ref b])).length) Slot.unset).toArray = ls at hl ⊢
  have hl : lv_has ls 9 [(0, .ref b)] := hl
  have hP : va_P D vwCl ([] : va_W) s.heap := fun k q h => by cases h
  have hD : va_D (fun q : Nat => s.heap.size ≤ q) ([] : va_W) := ⟨fun i j x y h => (by cases h), fun k q h => (by cases h)⟩
  refine va_new (D := D) (ci := 4) (fs := [.null, .null, .null, .int 0, .null, .null, .null, .null, .null]) (C := RX4) (T := TX4) (N := 9) hx hb hts0 wl_x4 tyX4 tyX4_ok hown (hts0 _ (tb_at 65 (by decide +kernel))) (hts0 _ (tb_at 66 (by decide +kernel))) (hts0 _ (tb_at 52 (by decide +kernel))) hK hP hD hS hA rfl (fun j hj => by rcases (show j = 0 ∨ j = 1 ∨ j = 2 ∨ j = 3 ∨ j = 4 ∨ j = 5 ∨ j = 6 ∨ j = 7 ∨ j = 8 by omega) with rfl | rfl | rfl | rfl | rfl | rfl | rfl | rfl | rfl <;> rfl) (Nat.le_of_ble_eq_true rfl) (Nat.le_of_ble_eq_true rfl) dL_law_0 (fun a0 H hP hD hS => ?_)
  refine W.widen (k := 1) (n := 9) (Nat.le_of_ble_eq_true rfl) (Nat.le_of_ble_eq_true rfl) ?_
  refine lv_dup hx hb dL_law_3 rfl ?_
  have hPc := va_PR hP
  have hDc := va_DR hD
  refine cl_vNB (va_runI (As := []) (rest := [.ref a0]) ⟨hx, hb, hml, hown, hts⟩ (c_X4_init l D k a0 H.size) (cwI 0 hts gL_law_X4_init rfl rfl rfl (hts0 _ (tb_at 52 (by decide +kernel))) (hts0 _ (tb_at 67 (by decide +kernel))) (hts0 _ (tb_at 68 (by decide +kernel))) rfl (by decide +kernel) ⟨Nat.le_of_ble_eq_true rfl, Nat.le_of_ble_eq_true rfl⟩) ⟨prA_blind, fun U hU hW => by
    obtain ⟨q0, q⟩ := pr_at (av := [.ref a0]) hN hPc hK hDc U hU hW
    exact ⟨q0, va_AO.moved hW.alike hAO, q⟩⟩ rfl rfl hl.1 rfl (lv_room (Nat.le_of_ble_eq_true rfl)) dL_law_4 ⟨Nat.le_of_ble_eq_true rfl, Nat.le_of_ble_eq_true rfl⟩) hP hD hS hA (fun w hw H1 locs1 hP1 hD1 hS1 => ?_)
  clear hPc hDc hP hD hS
  obtain ⟨d, v, rfl, hw⟩ := hw
  have hP := hP1
  have hD := hD1
  have hS := hS1
  refine W.widen (k := 109) (n := 2094) (Nat.le_of_ble_eq_true rfl) (Nat.le_of_ble_eq_true rfl) ?_
  refine lv_astore_n (lv' := [(1, .ref (d 0 0)), (0, .ref b)]) hx hb dL_law_7 rfl hl (by decide) rfl (fun ls hl => ?_)
  refine va_new (D := D) (ci := 5) (fs := [.int 0, .null, .null, .null, .null, .null, .int 0, .null, .int 0, .long 0]) (C := RX5) (T := TX5) (N := 10) hx hb hts0 wl_x5 tyX5 tyX5_ok hown (hts0 _ (tb_at 684 (by decide +kernel))) (hts0 _ (tb_at 685 (by decide +kernel))) (hts0 _ (tb_at 57 (by decide +kernel))) hK hP hD hS hA rfl (fun j hj => by rcases (show j = 0 ∨ j = 1 ∨ j = 2 ∨ j = 3 ∨ j = 4 ∨ j = 5 ∨ j = 6 ∨ j = 7 ∨ j = 8 ∨ j = 9 by omega) with rfl | rfl | rfl | rfl | rfl | rfl | rfl | rfl | rfl | rfl <;> rfl) (Nat.le_of_ble_eq_true rfl) (Nat.le_of_ble_eq_true rfl) dL_law_8 (fun a1 H hP hD hS => ?_)
  refine W.widen (k := 110) (n := 2104) (Nat.le_of_ble_eq_true rfl) (Nat.le_of_ble_eq_true rfl) ?_
  refine lv_dup hx hb dL_law_11 rfl ?_
  have hPc := va_PR hP
  have hDc := va_DR hD
  refine cl_vNB (va_runI (As := []) (rest := [.ref a1]) ⟨hx, hb, hml, hown, hts⟩ (c_X5_init l D k a1 H.size) (cwI 0 hts gL_law_X5_init rfl rfl rfl (hts0 _ (tb_at 57 (by decide +kernel))) (hts0 _ (tb_at 686 (by decide +kernel))) (hts0 _ (tb_at 687 (by decide +kernel))) rfl (by decide +kernel) ⟨Nat.le_of_ble_eq_true rfl, Nat.le_of_ble_eq_true rfl⟩) ⟨pr_blind, pr_at hN hPc hK hDc⟩ rfl rfl hl.1 rfl (lv_room (Nat.le_of_ble_eq_true rfl)) dL_law_12 ⟨Nat.le_of_ble_eq_true rfl, Nat.le_of_ble_eq_true rfl⟩) hP hD hS hA (fun w2 hw2 H2 locs2 hP2 hD2 hS2 => ?_)
  clear hPc hDc hP hD hS hP1 hD1 hS1
  obtain ⟨h, rfl, hw2⟩ := hw2
  have hP := hP2
  have hD := hD2
  have hS := hS2
  refine W.widen (k := 116) (n := 2886) (Nat.le_of_ble_eq_true rfl) (Nat.le_of_ble_eq_true rfl) ?_
  refine lv_astore_n (lv' := [(2, .ref (h 0)), (1, .ref (d 0 0)), (0, .ref b)]) hx hb dL_law_15 rfl hl (by decide) rfl (fun ls hl => ?_)
  refine lv_iconst (v := 1) hx hb dL_law_16 (by decide) ?_
  refine va_newa (atype := .long) (ty := .long) (a0 := (1, .inr (.inl (fun _ => 0)))) hx hb (hts0 _ (tb_at 981 (by decide +kernel))) rfl hK (va_Psw hP) (va_Dsw hD) hS hA (fun cA => vp_cell_l ..) (by decide) (N' := 1) (by decide) (by decide) (Nat.le_of_ble_eq_true rfl) (Nat.le_of_ble_eq_true rfl) dL_law_17 (fun og cA H hK1 hP hD hS => ?_)
  have e1 : s.vm.findClass ("[" ++ (FieldType.long).toString) = some cA := (hK1.2 4 (cA, .long) rfl).2
  have e2 : s.vm.findClass ("[" ++ (FieldType.long).toString) = some (k 3) := (hK.2 3 (k 3, .long) rfl).2
  have e3 : cA = k 3 := Option.some.inj (e1.symm.trans e2)
  subst e3
  refine lv_astore_n (lv' := [(3, .ref og), (2, .ref (h 0)), (1, .ref (d 0 0)), (0, .ref b)]) hx hb dL_law_19 rfl hl (by decide) rfl (fun ls hl => ?_)
  refine lv_iconst (v := 0) hx hb dL_law_20 (by decide) ?_
  refine tp_e (y := nI (3 * 0)) (by decide +kernel) ?_
  refine lv_istore (lv' := [(4, .int (nI (3 * 0))), (3, .ref og), (2, .ref (h 0)), (1, .ref (d 0 0)), (0, .ref b)]) hx hb dL_law_21 hl (by decide) rfl (fun ls hl => ?_)
  refine W.widen (k := 117 + 0) (n := 2887 + 6 * 0) (Nat.le_of_ble_eq_true rfl) (Nat.le_of_ble_eq_true rfl) ?_
  rw [List.append_assoc] at hP hD
  have hBo := both_new k d v h
  rw [← hw, ← hw2] at hBo
  exact law_loop C1 (L + 1) 0 (by omega) (by omega) w w2 0 (fun _ => 0) H _ ls hBo (va_Psw hP) (va_Dsw hD) hS hl
