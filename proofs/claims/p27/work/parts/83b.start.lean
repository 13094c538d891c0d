theorem SR_new : SR now0 f0M := by
  have hG : GrOK now0 f0M := by
    intro q hq
    rcases (show q = 0 ∨ q = 1 ∨ q = 2 ∨ q = 3 ∨ q = 4 ∨ q = 5 ∨ q = 6 ∨ q = 7 ∨ q = 8 by omega) with rfl | rfl | rfl | rfl | rfl | rfl | rfl | rfl | rfl
    · exact ⟨⟨by decide +kernel, by decide +kernel, by decide +kernel⟩, ⟨1, by omega, by decide +kernel⟩, ⟨0, by omega, by decide +kernel, fun x _ h => by rw [Nat.zero_testBit] at h; cases h⟩, 0, by omega, by decide +kernel⟩
    · exact ⟨⟨by decide +kernel, by decide +kernel, by decide +kernel⟩, ⟨0, by omega, by decide +kernel⟩, ⟨0, by omega, by decide +kernel, fun x _ h => by rw [Nat.zero_testBit] at h; cases h⟩, 0, by omega, by decide +kernel⟩
    · exact ⟨⟨by decide +kernel, by decide +kernel, by decide +kernel⟩, ⟨0, by omega, by decide +kernel⟩, ⟨0, by omega, by decide +kernel, fun x _ h => by rw [Nat.zero_testBit] at h; cases h⟩, 0, by omega, by decide +kernel⟩
    · exact ⟨⟨by decide +kernel, by decide +kernel, by decide +kernel⟩, ⟨0, by omega, by decide +kernel⟩, ⟨0, by omega, by decide +kernel, fun x _ h => by rw [Nat.zero_testBit] at h; cases h⟩, 0, by omega, by decide +kernel⟩
    · exact ⟨⟨by decide +kernel, by decide +kernel, by decide +kernel⟩, ⟨0, by omega, by decide +kernel⟩, ⟨0, by omega, by decide +kernel, fun x _ h => by rw [Nat.zero_testBit] at h; cases h⟩, 0, by omega, by decide +kernel⟩
    · exact ⟨⟨by decide +kernel, by decide +kernel, by decide +kernel⟩, ⟨0, by omega, by decide +kernel⟩, ⟨0, by omega, by decide +kernel, fun x _ h => by rw [Nat.zero_testBit] at h; cases h⟩, 0, by omega, by decide +kernel⟩
    · exact ⟨⟨by decide +kernel, by decide +kernel, by decide +kernel⟩, ⟨0, by omega, by decide +kernel⟩, ⟨0, by omega, by decide +kernel, fun x _ h => by rw [Nat.zero_testBit] at h; cases h⟩, 0, by omega, by decide +kernel⟩
    · exact ⟨⟨by decide +kernel, by decide +kernel, by decide +kernel⟩, ⟨0, by omega, by decide +kernel⟩, ⟨0, by omega, by decide +kernel, fun x _ h => by rw [Nat.zero_testBit] at h; cases h⟩, 0, by omega, by decide +kernel⟩
    · exact ⟨⟨by decide +kernel, by decide +kernel, by decide +kernel⟩, ⟨2, by omega, by decide +kernel⟩, ⟨0, by omega, by decide +kernel, fun x _ h => by rw [Nat.zero_testBit] at h; cases h⟩, 0, by omega, by decide +kernel⟩
  have h9 : ∀ q, q < 9 → now0 0 q = f0M (0 + q) ∧ now0 4 q = f0M (9 + q) ∧ f0M (0 + q) = nI 0 ∧ f0M (9 + q) = nI 0 := by decide +kernel
  exact ⟨⟨hG, fun q hq => ⟨(h9 q hq).1, 0, by omega, (h9 q hq).2.2.1⟩, by decide +kernel, by decide +kernel⟩, fun q hq => (h9 q hq).2.1, fun q hq => ⟨0, 0, by omega, by omega, (h9 q hq).2.2.1, (h9 q hq).2.2.2⟩, 0, by omega, by decide +kernel, by decide +kernel, fun r hr => absurd hr (Nat.not_lt_zero r)⟩
theorem all_new : allL zS = [] := by decide +kernel
theorem opn_new : opnL zS = [] := by decide +kernel
theorem apL_new (f : Nat → Int32) : apL f 0 [] = f := by
  funext j
  unfold apL
  rw [if_neg (Nat.not_lt_zero j), if_neg (by show ¬ j < 0 + 0; omega)]
theorem ox_new (k : Nat → ClassId) (d v : Nat → Nat → Nat) : OX k (d 0 0) 0 now0 (fun _ => zS) zS 0 (wXo d 0 ++ (wSt k (d 1) now0 ++ (wSt k (d 2) zS ++ (wSv k (d 3 0) v (fun _ => zS) ++ (([(d 4 0, .inl (k 2, 2, .inr (.inr (.inr (.inr (snA d)))))), (d 5 0, .inl (k 1, 2, .inl (fun _ => 0)))] ++ (wSt k (d 11) zS ++ wSt k (d 12) zS)) ++ (wTx k (d 6) (d 7) (fun _ => 0) 0 zS 0 (0, 0) 0 ++ (wWy k (d 8) (d 9) zS (fun _ => 0) (fun _ => 0) (fun _ => 0) 0 0 ++ wRw k (d 10) (fun _ => 0) (fun _ => 0) 0))))))) := by
  refine ⟨d, v, zS, zS, fun _ => 0, fun _ => 0, 0, zS, 0, (0, 0), 0, zS, fun _ => 0, fun _ => 0, fun _ => 0, fun _ => 0, fun _ => 0, 0, rfl, rfl, ?_⟩
  have hw : wWays k (d 8) (d 9) zS (fun _ => 0) (fun _ => 0) (fun _ => 0) = wWy k (d 8) (d 9) zS (fun _ => 0) (fun _ => 0) (fun _ => 0) 0 0 := by
    unfold wWays
    rw [all_new, opn_new, apL_new, List.length_nil, nI_0]
  unfold wAll
  rw [hw, nI_0]
theorem LI_new : LI now0 := by
  refine ⟨f0M, SR_new, fun q z _ _ => ?_, fun nw h1 h2 => ?_⟩
  · have e : ∀ x, bN now0 x = 0 := fun x => by show (0 : Int32).toNatClampNeg = 0; rfl
    rw [e, e, Nat.zero_testBit, Nat.zero_testBit]
    exact ⟨rfl, rfl⟩
  · have h3 : (0 : Int32) = nI nw := h2
    have h4 : nw = 0 := nI_inj (by omega) (by omega) (h3.symm.trans nI_0.symm)
    subst h4
    decide +kernel
theorem cl_vNB {p : Program} {l : Launch} {e : Env} {R : Room} {s : State} {m : MethodId} {args : Array Value} {below : List Frame} {meth : Method} {c : Code} {H H0 : Heap} {locs : List Loc} {cells slots : Nat} {Q : State → Prop} {pc : Nat} {ls : Array Slot} {rest st0 : List Value} {a : Array Value} {A0 : Nat → Prop} {mc ms : Nat} {D : va_G} {wl wc : va_W} {X : va_W → Prop} (hr : va_Run p l e R s m args below meth c H locs cells slots mc ms (F0 m pc ls st0) rest (va_Qv (fun _ : Unit => True) (PoN D (va_A wc H.size) X) (va_A wc H.size) a) (va_A wc H.size)) (hP : va_P D vwCl (wl ++ wc) H) (hD : va_D A0 (wl ++ wc)) (hS : va_S A0 H0 H locs) (hA : ∀ q, H0.size ≤ q → A0 q)
    (kk : ∀ (w : va_W), X w → ∀ (H1 : Heap) (locs1 : List Loc), va_P D vwCl (wl ++ w) H1 → va_D A0 (wl ++ w) → va_S A0 H0 H1 locs1 → W p l e R s m args below meth c H1 locs1 (cells + mc) (slots + ms) Q (F0 m (pc + 3) ls rest)) : W p l e R s m args below meth c H locs cells slots Q (F0 m pc ls st0) := by
  have hF := fr_app (va_Dsw hD) hS hA
  refine va_callv hr hS (fun q _ h => hF q h) hF (fun u t H1 locs1 ht hvm hw hB hz hk hS1 => ?_)
  obtain ⟨w, hX, hP1, hD1⟩ : ∃ w, X w ∧ va_P D vwCl w t.heap ∧ va_D (va_A wc H.size) w := hB
  rw [ht] at hP1
  obtain ⟨h1, h2⟩ := jn_app (va_Psw hP) (va_Dsw hD) hk hF hP1 hD1
  exact kk w hX H1 locs1 (va_Psw h1) (va_Dsw h2) hS1
set_option maxHeartbeats 1000000 in
set_option maxRecDepth 100000 in
theorem whole_start {p : Program} {e : Env} {s : State} {m : MethodId} {below : List Frame} {meth : Method} {c : Code} (l : Launch) (hflags : l.flags = flags0) {b L : Nat} {xs : Nat → Int32} (hL : L ≤ 260) (C0 : lw_At p s m meth c b L xs) : W p l e room_1 s m #[Value.ref b] below meth c s.heap [] 0 0 (lw_Z below #[Value.ref b] s) (entryFrame m ([Value.ref b] : List Value).toArray 8) := by
  obtain ⟨hx, hb, hr, hml, hown, hts0, hX, hbl, hlocks, hgv⟩ := C0
  obtain ⟨D, k, hK⟩ := st_K hts0
  have hts : ∀ w ∈ wsL_law, w.before #[Value.ref b] s = true := fun w hw => hts0 w (wl_all w hw)
  have hN := st_NL hts0
  have C1 : LC p l s m meth c b L xs D k := ⟨hx, hb, hr, hml, hown, hts, hX, hbl, hlocks, hK, hN, hL⟩
  have hAO : va_AO RX1 s := va_AO.of (hts0 _ (tb_at 82 (by decide +kernel)))
  have hA : ∀ q : Nat, s.heap.size ≤ q → (fun q : Nat => s.heap.size ≤ q) q := fun _ h => h
  have hS : va_S (fun q : Nat => s.heap.size ≤ q) s.heap s.heap [] := va_S.rf
  have hl := lv_entry ([.ref b]) (n := 8) (Nat.le_of_ble_eq_true rfl)
  rw [lg_entry_eq]
  generalize (lg_sl ([.ref b]) ++ List.replicate (8 - (lg_sl ([.ref b])).length) Slot.unset).toArray = ls at hl ⊢
  have hl : lv_has ls 8 [(0, .ref b)] := hl
  have hP : va_P D vwCl ([] : va_W) s.heap := fun k q h => by cases h
  have hD : va_D (fun q : Nat => s.heap.size ≤ q) ([] : va_W) := ⟨fun i j x y h => (by cases h), fun k q h => (by cases h)⟩
  refine va_new (D := D) (ci := 4) (fs := [.null, .null, .null, .int 0, .null, .null, .null, .null, .null]) (C := RX4) (T := TX4) (N := 9) hx hb hts0 wl_x4 tyX4 tyX4_ok hown (hts0 _ (tb_at 22 (by decide +kernel))) (hts0 _ (tb_at 23 (by decide +kernel))) (hts0 _ (tb_at 10 (by decide +kernel))) hK hP hD hS hA rfl (fun j hj => by rcases (show j = 0 ∨ j = 1 ∨ j = 2 ∨ j = 3 ∨ j = 4 ∨ j = 5 ∨ j = 6 ∨ j = 7 ∨ j = 8 by omega) with rfl | rfl | rfl | rfl | rfl | rfl | rfl | rfl | rfl <;> rfl) (Nat.le_of_ble_eq_true rfl) (Nat.le_of_ble_eq_true rfl) dL_law_0 (fun a0 H hP hD hS => ?_)
  refine W.widen (k := 1) (n := 9) (Nat.le_of_ble_eq_true rfl) (Nat.le_of_ble_eq_true rfl) ?_
  refine lv_dup hx hb dL_law_3 rfl ?_
  have hPc := va_PR hP
  have hDc := va_DR hD
  refine cl_vNB (va_runI (As := []) (rest := [.ref a0]) ⟨hx, hb, hml, hown, hts⟩ (c_X4_init l D k a0 H.size) (cwI 0 hts gL_law_X4_init rfl rfl rfl (hts0 _ (tb_at 10 (by decide +kernel))) (hts0 _ (tb_at 24 (by decide +kernel))) (hts0 _ (tb_at 25 (by decide +kernel))) rfl (by decide +kernel) ⟨Nat.le_of_ble_eq_true rfl, Nat.le_of_ble_eq_true rfl⟩) ⟨prA_blind, fun U hU hW => by
    obtain ⟨q0, q⟩ := pr_at (av := [.ref a0]) hN hPc hK hDc U hU hW
    exact ⟨q0, va_AO.moved hW.alike hAO, q⟩⟩ rfl rfl hl.1 rfl (lv_room (Nat.le_of_ble_eq_true rfl)) dL_law_4 ⟨Nat.le_of_ble_eq_true rfl, Nat.le_of_ble_eq_true rfl⟩) hP hD hS hA (fun w hw H1 locs1 hP1 hD1 hS1 => ?_)
  clear hPc hDc hP hD hS
  obtain ⟨d, v, rfl, hw⟩ := hw
  refine W.widen (k := 109) (n := 2094) (Nat.le_of_ble_eq_true rfl) (Nat.le_of_ble_eq_true rfl) ?_
  refine lv_astore_n (lv' := [(1, .ref (d 0 0)), (0, .ref b)]) hx hb dL_law_7 rfl hl (by decide) rfl (fun ls hl => ?_)
  exact law_body C1 now0 (fun _ => zS) zS 0 w H1 locs1 ls LI_new (by rw [hw]; exact ox_new k d v) hP1 hD1 hS1 hl
