abbrev wRw (k : Nat → ClassId) (r : Nat → Nat) (bh ah : Nat → Int32) (tr : Int32) : va_W :=
  [(r 0, .inr (0, [.ref (r 1), .ref (r 2), .int tr])), (r 1, .inl (k 0, 9, .inl bh)), (r 2, .inl (k 0, 9, .inl ah))]
/-- what comes behind a piece -/
def bhO (J w : Nat → Int32) (q : Nat) : Nat → Int32
  | 0 => J q
  | t + 1 => if bitv (J q) (nI (q + 1 + t)) = 1 then bhO J w q t ||| w (q + 1 + t) else bhO J w q t
def bhN (J : Nat → Int32) : Nat → Nat → Int32
  | 0, _ => 0
  | n + 1, q => bhO J (bhN J n) q (9 - (q + 1))
def bhG (J : Nat → Int32) (q : Nat) : Int32 := bhN J 9 q
theorem bhO_cong {J w w2 : Nat → Int32} {q : Nat} : ∀ t : Nat, (∀ x, q < x → x < q + 1 + t → w x = w2 x) → bhO J w q t = bhO J w2 q t
  | 0, _ => rfl
  | t + 1, h => by rw [bhO, bhO, bhO_cong t (fun x a b => h x a (by omega)), h (q + 1 + t) (by omega) (by omega)]
theorem bhN_fuel (J : Nat → Int32) : ∀ n q : Nat, 9 - q ≤ n → q < 9 → bhN J (n + 1) q = bhN J n q
  | 0, q, h, h2 => by omega
  | n + 1, q, h, h2 => by
    show bhO J (bhN J (n + 1)) q (9 - (q + 1)) = bhO J (bhN J n) q (9 - (q + 1))
    exact bhO_cong _ (fun x a b => bhN_fuel J n x (by omega) (by omega))
theorem bhG_s (J : Nat → Int32) {q : Nat} (h : q < 9) : bhG J q = bhO J (bhG J) q (9 - (q + 1)) := by
  show bhO J (bhN J 8) q (9 - (q + 1)) = _
  exact bhO_cong _ (fun x a b => (bhN_fuel J 8 x (by omega) (by omega)).symm)
theorem bhO_s (J w : Nat → Int32) {q i : Nat} (h : q + 1 ≤ i) : bhO J w q (i + 1 - (q + 1)) = if bitv (J q) (nI i) = 1 then bhO J w q (i - (q + 1)) ||| w i else bhO J w q (i - (q + 1)) := by
  rw [show i + 1 - (q + 1) = (i - (q + 1)) + 1 from by omega, bhO, show q + 1 + (i - (q + 1)) = i from by omega]
/-- the greatest of the first t sets of which none comes behind another -/
def cbT (bh : Nat → Int32) : Nat → Int32
  | 0 => 0
  | t + 1 => if bcF (nI (t + 1)) ≤ cbT bh t then cbT bh t else if opR bh (nI (t + 1)) 9 0 = true then bcF (nI (t + 1)) else cbT bh t
theorem cbT_s (bh : Nat → Int32) {i : Nat} (h : 1 ≤ i) : cbT bh (i + 1 - 1) = if bcF (nI i) ≤ cbT bh (i - 1) then cbT bh (i - 1) else if opR bh (nI i) 9 0 = true then bcF (nI i) else cbT bh (i - 1) := by
  obtain ⟨t, rfl⟩ : ∃ t, i = t + 1 := ⟨i - 1, by omega⟩
  rfl
/-- a partner sought for a piece -/
abbrev FP : Type := Bool × (Nat → Int32) × Int32
def fpR (x q : Nat) (r : FP) (kk : (Nat → Int32) → Int32 → FP) : FP := if r.1 = true then (true, upd r.2.1 x (nI q), r.2.2) else kk r.2.1 r.2.2
def trU (tr : Int32) (x : Nat) : Int32 := tr ||| (1 <<< (nI x &&& 31))
def fpL (bh : Nat → Int32) (q : Nat) (rc : Nat → (Nat → Int32) → Int32 → FP) : Nat → Nat → (Nat → Int32) → Int32 → FP
  | 0, _, ah, tr => (false, ah, tr)
  | t + 1, x, ah, tr => if bitv (bh q &&& (tr ^^^ (-1))) (nI x) = 1 then (if ah x = -1 then (true, upd ah x (nI q), trU tr x) else fpR x q (rc (ah x).toNatClampNeg ah (trU tr x)) (fun a b => fpL bh q rc t (x + 1) a b)) else fpL bh q rc t (x + 1) ah tr
def fpF (bh : Nat → Int32) : Nat → Nat → (Nat → Int32) → Int32 → FP
  | 0, _, ah, tr => (false, ah, tr)
  | n + 1, q, ah, tr => fpL bh q (fpF bh n) 9 0 ah tr
theorem fpL_s (bh : Nat → Int32) (q : Nat) (rc : Nat → (Nat → Int32) → Int32 → FP) {x : Nat} (h : ¬ 9 ≤ x) (ah : Nat → Int32) (tr : Int32) : fpL bh q rc (9 - x) x ah tr = if bitv (bh q &&& (tr ^^^ (-1))) (nI x) = 1 then (if ah x = -1 then (true, upd ah x (nI q), trU tr x) else fpR x q (rc (ah x).toNatClampNeg ah (trU tr x)) (fun a b => fpL bh q rc (9 - (x + 1)) (x + 1) a b)) else fpL bh q rc (9 - (x + 1)) (x + 1) ah tr := by
  rw [show 9 - x = (9 - (x + 1)) + 1 from by omega, fpL]
def AhOK (ah : Nat → Int32) : Prop := ∀ x, x < 9 → ah x = -1 ∨ ∃ q, q < 9 ∧ ah x = nI q
theorem AhOK_u {ah : Nat → Int32} (h : AhOK ah) (x : Nat) {q : Nat} (hq : q < 9) : AhOK (upd ah x (nI q)) := by
  intro y hy
  unfold upd
  by_cases e : y = x
  · rw [if_pos e]; exact Or.inr ⟨q, hq, rfl⟩
  · rw [if_neg e]; exact h y hy
theorem fpL_ok (bh : Nat → Int32) (q : Nat) (hq : q < 9) (rc : Nat → (Nat → Int32) → Int32 → FP) (hr : ∀ q2 ah tr, q2 < 9 → AhOK ah → AhOK (rc q2 ah tr).2.1) : ∀ t x ah tr, x + t = 9 → AhOK ah → AhOK (fpL bh q rc t x ah tr).2.1
  | 0, x, ah, tr, _, h => h
  | t + 1, x, ah, tr, hx, h => by
    rw [fpL]
    split
    · split
      · exact AhOK_u h x hq
      · next hne =>
        obtain ⟨q2, h2, e⟩ := (h x (by omega)).resolve_left hne
        have h3 := hr q2 ah (trU tr x) h2 h
        rw [e, nI_clamp (by omega)]
        unfold fpR
        split
        · exact AhOK_u h3 x hq
        · exact fpL_ok bh q hq rc hr t (x + 1) _ _ (by omega) h3
    · exact fpL_ok bh q hq rc hr t (x + 1) _ _ (by omega) h
theorem fpF_ok (bh : Nat → Int32) : ∀ n q ah tr, q < 9 → AhOK ah → AhOK (fpF bh n q ah tr).2.1
  | 0, q, ah, tr, _, h => h
  | n + 1, q, ah, tr, hq, h => fpL_ok bh q hq _ (fun q2 ah2 tr2 h2 h3 => fpF_ok bh n q2 ah2 tr2 h2 h3) 9 0 ah tr (by omega) h
/-- pairs so far: whom each piece is behind of, and the rows that are left -/
def cpS (bh : Nat → Int32) : Nat → (Nat → Int32) × Int32
  | 0 => (fun _ => -1, 9)
  | i + 1 => ((fpF bh 9 i (cpS bh i).1 0).2.1, if (fpF bh 9 i (cpS bh i).1 0).1 = true then (cpS bh i).2 + (-1) else (cpS bh i).2)
def cpT (bh : Nat → Int32) (tr : Int32) : Nat → Int32
  | 0 => tr
  | i + 1 => (fpF bh 9 i (cpS bh i).1 0).2.2
theorem cpS_ok (bh : Nat → Int32) : ∀ i, i ≤ 9 → AhOK (cpS bh i).1
  | 0, _ => fun _ _ => Or.inl rfl
  | i + 1, h => fpF_ok bh 9 i _ 0 (by omega) (cpS_ok bh i (by omega))

set_option maxHeartbeats 1000000 in
set_option maxRecDepth 100000 in
theorem c_X0_findBehind (l : Launch) (D : va_G) (k : Nat → ClassId) (r g : Nat → Nat) (bh ah : Nat → Int32) (tr : Int32) (T : Nat → Nat → Int32)  : MV l yX0_findBehind wsX0_findBehind ({ frames := 1, cells := 0, slots := 0, locals := 21 }) D k [.ref (r 0), .ref (g 0)] (wRw k r bh ah tr ++ (wSt k g T)) (wRw k r (bhG (T 2)) ah tr ++ wSt k g T) := by
  intro sz
  refine Met.ofW (cc := cX0_findBehind) (maxL := 4) (ret := none) (by decide) rfl ?_
  intro p e s m args below meth c s₁ B hml hv
  obtain ⟨rfl, hN, hsz, hP, hK, hD0⟩ := hv
  have hx := B.exec
  have hb := B.bytes
  have hr := B.returns
  have hts := atoms_spec (ws := wsX0_findBehind) B.pre
  have hown : s.vm.findClass RX0 = some m.cls := findClass_of_methodNamed B.named
  have hlocks := B.notSynchronized
  subst hsz
  have hD := hD0.self (sz := s.heap.size)
  generalize hAe : va_A (wRw k r bh ah tr ++ (wSt k g T)) s.heap.size = A at hD ⊢
  have hA : ∀ q : Nat, s.heap.size ≤ q → A q := fun q h => by rw [← hAe]; exact Or.inr h
  have hS : va_S A s.heap s.heap [] := va_S.rf
  have hl := lv_entry ([.ref (r 0), .ref (g 0)]) (n := 4) (Nat.le_of_ble_eq_true rfl)
  rw [lg_entry_eq]
  generalize (lg_sl ([.ref (r 0), .ref (g 0)]) ++ List.replicate (4 - (lg_sl ([.ref (r 0), .ref (g 0)])).length) Slot.unset).toArray = ls at hl ⊢
  have hl : lv_has ls 4 [(0, .ref (r 0)), (1, .ref (g 0))] := hl
  obtain ⟨H, hHe⟩ : ∃ H, H = s.heap := ⟨_, rfl⟩
  have hP : va_P D vwCl (wRw k r bh ah tr ++ (wSt k g T)) H := by rw [hHe]; exact hP
  have hS : va_S A s.heap H [] := by rw [hHe]; exact hS
  rw [← hHe]
  refine absQ (fun Q hQ => ?_)
  refine lv_bipush (v := 8) hx hb dX0_findBehind_0 (by decide) ?_
  refine lv_istore_n (lv' := [(2, .int 8), (0, .ref (r 0)), (1, .ref (g 0))]) hx hb dX0_findBehind_2 rfl hl (by decide) rfl (fun ls hl => ?_)
  suffices LOOP_i : ∀ (fu_i i : Nat) (x2 : Int32) (g3 : Nat → Int32), 9 - i < fu_i → i ≤ 9 → x2 = nI (9 - i) + (-1 : Int32) → g3 = dnF (bhG (T 2)) bh i → ∀ (H : Heap) (locs : List Loc) (ls : Array Slot), va_P D vwCl ([(r 0, .inr (0, [.ref (r 1), .ref (r 2), .int tr])), (r 1, .inl (k 0, 9, .inl g3)), (r 2, .inl (k 0, 9, .inl ah))] ++ (wSt k g T)) H → va_D A ([(r 0, .inr (0, [.ref (r 1), .ref (r 2), .int tr])), (r 1, .inl (k 0, 9, .inl g3)), (r 2, .inl (k 0, 9, .inl ah))] ++ (wSt k g T)) → va_S A s.heap H locs → lv_has ls 4 [(2, .int x2), (0, .ref (r 0)), (1, .ref (g 0))] → W p l e ({ frames := 1, cells := 0, slots := 0, locals := 21 } : Room) s m ([.ref (r 0), .ref (g 0)] : List Value).toArray below meth c H locs 0 0 Q (F0 m 3 ls []) from LOOP_i (9 + 1) 0 8 bh (by omega) (by omega) (by decide) ((dnF_0 _ _).symm)  _ _ _ hP hD hS (lv_sub hl [0, 1, 2] rfl)
  clear hP hD hS hl hHe
  intro fu_i
  induction fu_i with
  | zero => intro i x2 g3 hn_i; omega
  | succ fu_i ih_i =>
    intro i x2 g3 hn_i hle_i e_x2 e_g3  H locs ls hP hD hS hl
    subst e_x2
    subst e_g3
    refine lv_iload_n hx hb dX0_findBehind_3 rfl (lv_at hl 0 rfl) ?_
    refine lv_if_lt (tgt := 70) hx hb dX0_findBehind_4 (by decide) (fun c_1 => ?_) (fun c_1 => ?_)
    · have h9 := dn_neg (show 9 - i ≤ 9 from by omega) c_1
      obtain rfl : i = 9 := by omega
      have hP : va_P D vwCl ([(r 0, .inr (0, [.ref (r 1), .ref (r 2), .int tr])), (r 1, .inl (k 0, 9, .inl (bhG (T 2)))), (r 2, .inl (k 0, 9, .inl ah))] ++ (wSt k g T)) H := va_P.ext hP hD 1 rfl (bhG (T 2)) (fun j hj => dnF_in _ _ (by omega) hj)
      have hD : va_D A ([(r 0, .inr (0, [.ref (r 1), .ref (r 2), .int tr])), (r 1, .inl (k 0, 9, .inl (bhG (T 2)))), (r 2, .inl (k 0, 9, .inl ah))] ++ (wSt k g T)) := hD.addr rfl
      subst hQ
      exact rt_v hx hb hr hlocks hS dX0_findBehind_70 (hP)
    · obtain ⟨q, hq, hx2⟩ := dn_pos (show 9 - i ≤ 9 from by omega) c_1
      rw [hx2] at hl
      have hl : lv_has ls 4 [(2, .int (nI q)), (0, .ref (r 0)), (1, .ref (g 0))] := hl
      have hq9 : q < 9 := by omega
      have hi8 : 8 - i = q := by omega
      refine lv_aload_n hx hb dX0_findBehind_7 rfl (lv_at hl 1 rfl) ?_
      refine va_get (D := D) (ci := 0) (v := .ref (r 1)) (C := RX0) (T := TX0) (N := 3) hx hb hts (fun _ h9 => (List.mem_cons_of_mem _ (List.mem_append_left _ (List.mem_append_right _ h9)))) hown hK hP 0 rfl rfl 0 (by decide) (hts _ (List.mem_of_getElem? (i := 1) rfl)) (fun _ h9 => h9) rfl dX0_findBehind_8 ?_
      refine lv_iload_n hx hb dX0_findBehind_11 rfl (lv_at hl 0 rfl) ?_
      refine lv_aload_n hx hb dX0_findBehind_12 rfl (lv_at hl 2 rfl) ?_
      refine va_get (D := D) (ci := 1) (v := .ref (g 3)) (C := RX1) (T := TX1) (N := 10) hx hb hts (fun _ h9 => (List.mem_cons_of_mem _ (List.mem_append_right _ h9))) hown hK hP 3 rfl rfl 2 (by decide) (hts _ (List.mem_of_getElem? (i := 2) rfl)) (fun _ h9 => h9) rfl dX0_findBehind_13 ?_
      refine lv_iload_n hx hb dX0_findBehind_16 rfl (lv_at hl 0 rfl) ?_
      refine ar_ld hx hb hK hP 6 rfl q (nI_clamp (by omega)) (vp_in_nI (by omega) (by omega)) dX0_findBehind_17 ?_
      refine ar_st hx hb hK hP hD hS 1 rfl q (nI_clamp (by omega)) (vp_in_nI (by omega) (by omega)) dX0_findBehind_18 (wn := ([(r 0, .inr (0, [.ref (r 1), .ref (r 2), .int tr])), (r 1, .inl (k 0, 9, .inl (upd (dnF (bhG (T 2)) bh i) q ((T 2) q)))), (r 2, .inl (k 0, 9, .inl ah))] ++ (wSt k g T))) rfl (fun H locs hP hD hS => ?_)
      refine lv_iload_n hx hb dX0_findBehind_19 rfl (lv_at hl 0 rfl) ?_
      refine lv_iconst (v := 1) hx hb dX0_findBehind_20 (by decide) ?_
      refine lv_iadd hx hb dX0_findBehind_21 ?_
      refine tp_e (y := (nI (q + 1))) (nI_add _ _) ?_
      refine lv_istore_n (lv' := [(3, .int (nI (q + 1))), (2, .int (nI q)), (0, .ref (r 0)), (1, .ref (g 0))]) hx hb dX0_findBehind_22 rfl hl (by decide) rfl (fun ls hl => ?_)
      suffices LOOP_j : ∀ (fu_j j : Nat) (g4 : Nat → Int32), 9 - j < fu_j → j ≤ 9 → g4 = upd (dnF (bhG (T 2)) bh i) q (bhO (T 2) (bhG (T 2)) q (j - (q + 1))) → (q + 1) ≤ j → ∀ (H : Heap) (locs : List Loc) (ls : Array Slot), va_P D vwCl ([(r 0, .inr (0, [.ref (r 1), .ref (r 2), .int tr])), (r 1, .inl (k 0, 9, .inl g4)), (r 2, .inl (k 0, 9, .inl ah))] ++ (wSt k g T)) H → va_D A ([(r 0, .inr (0, [.ref (r 1), .ref (r 2), .int tr])), (r 1, .inl (k 0, 9, .inl g4)), (r 2, .inl (k 0, 9, .inl ah))] ++ (wSt k g T)) → va_S A s.heap H locs → lv_has ls 4 [(3, .int (nI j)), (2, .int (nI q)), (0, .ref (r 0)), (1, .ref (g 0))] → W p l e ({ frames := 1, cells := 0, slots := 0, locals := 21 } : Room) s m ([.ref (r 0), .ref (g 0)] : List Value).toArray below meth c H locs 0 0 Q (F0 m 23 ls []) from LOOP_j (9 + 1) (q + 1) (upd (dnF (bhG (T 2)) bh i) q ((T 2) q)) (by omega) (by omega) (by rw [show q + 1 - (q + 1) = 0 from by omega, bhO]) (by omega) _ _ _ hP hD hS (lv_sub hl [0, 1, 2, 3] rfl)
      clear hP hD hS hl
      intro fu_j
      induction fu_j with
      | zero => intro j g4 hn_j; omega
      | succ fu_j ih_j =>
        intro j g4 hn_j hle_j e_g4 hlo_j H locs ls hP hD hS hl
        subst e_g4
        refine lv_iload_n hx hb dX0_findBehind_23 rfl (lv_at hl 0 rfl) ?_
        refine lv_bipush (v := 9) hx hb dX0_findBehind_24 (by decide) ?_
        refine lv_icmp_ge (tgt := 64) hx hb dX0_findBehind_26 (by decide) (fun c_2 => ?_) (fun c_2 => ?_)
        · have c_2 : 9 ≤ j := (nI_leI (a := 9) (b := j) (by omega) (by omega)).mp c_2
          have hz_j : 9 = j := by omega
          subst hz_j
          refine lv_iinc (v := (nI q) + (-1)) (lv' := [(2, .int ((nI q) + (-1))), (3, .int (nI 9)), (0, .ref (r 0)), (1, .ref (g 0))]) hx hb dX0_findBehind_64 hl (k := 1) rfl rfl (by decide) rfl (fun ls hl => ?_)
          refine lv_goto (tgt := 3) hx hb dX0_findBehind_67 (by decide) ?_
          exact ih_i (i + 1) ((nI q) + (-1)) (upd (dnF (bhG (T 2)) bh i) q (bhO (T 2) (bhG (T 2)) q (9 - (q + 1)))) (by omega) (by omega) (by rw [show 9 - (i + 1) = q from by omega]) (by rw [← bhG_s _ hq9]; exact dnF_s _ _ hq)  _ _ _ hP hD hS (lv_sub hl [0, 2, 3] rfl)
        · have c_2 : ¬ (9 ≤ j) := fun h9 => c_2 ((nI_leI (a := 9) (b := j) (by omega) (by omega)).mpr h9)
          refine lv_aload_n hx hb dX0_findBehind_29 rfl (lv_at hl 3 rfl) ?_
          refine va_get (D := D) (ci := 1) (v := .ref (g 3)) (C := RX1) (T := TX1) (N := 10) hx hb hts (fun _ h9 => (List.mem_cons_of_mem _ (List.mem_append_right _ h9))) hown hK hP 3 rfl rfl 2 (by decide) (hts _ (List.mem_of_getElem? (i := 2) rfl)) (fun _ h9 => h9) rfl dX0_findBehind_30 ?_
          refine lv_iload_n hx hb dX0_findBehind_33 rfl (lv_at hl 1 rfl) ?_
          refine ar_ld hx hb hK hP 6 rfl q (nI_clamp (by omega)) (vp_in_nI (by omega) (by omega)) dX0_findBehind_34 ?_
          refine lv_iload_n hx hb dX0_findBehind_35 rfl (lv_at hl 0 rfl) ?_
          have hPc : va_P D vwCl ([]) H := hP.sub [] rfl
          have hDc : va_D A ([]) := hD.sub [] (by decide +kernel) rfl
          refine cl_i0 (va_runSN (As := [.int ((T 2) q), .int (nI j)]) (rest := []) ⟨hx, hb, hml, hown, hts⟩ (c_X4_bit l D k ((T 2) q) (nI j) H.size) ⟨va_cnB 2 hts gX0_findBehind_X4_bit_n23 rfl rfl rfl hN.2.2.2.2.2.2.2.2.2.2.1 (hts (.initialized RX4) (List.mem_of_getElem? (i := 4) rfl)) (by decide +kernel) ⟨Nat.le_of_ble_eq_true rfl, Nat.le_of_ble_eq_true rfl⟩, hts (.static yX4_bit) (List.mem_of_getElem? (i := 3) rfl), trivial⟩ ⟨pr_blind, pr_at hN hPc hK hDc⟩ rfl rfl hl.1 rfl (lv_room (Nat.le_of_ble_eq_true rfl)) dX0_findBehind_36 ⟨Nat.le_of_ble_eq_true rfl, Nat.le_of_ble_eq_true rfl⟩) hP hD hS hA [] rfl (fun H locs hP hD hS => ?_)
          clear hPc hDc
          refine lv_iconst (v := 1) hx hb dX0_findBehind_39 (by decide) ?_
          refine lv_icmp_ne (tgt := 58) hx hb dX0_findBehind_40 (by decide) (fun c_3 => ?_) (fun c_3 => ?_)
          · refine lv_iinc (v := (nI (j + 1))) (lv' := [(3, .int (nI (j + 1))), (2, .int (nI q)), (0, .ref (r 0)), (1, .ref (g 0))]) hx hb dX0_findBehind_58 hl (k := 0) rfl (nI_1 j) (by decide) rfl (fun ls hl => ?_)
            refine lv_goto (tgt := 23) hx hb dX0_findBehind_61 (by decide) ?_
            exact ih_j (j + 1) (upd (dnF (bhG (T 2)) bh i) q (bhO (T 2) (bhG (T 2)) q (j - (q + 1)))) (by omega) (by omega) (by rw [bhO_s _ _ (show q + 1 ≤ j from by omega), if_neg c_3]) (by omega) _ _ _ hP hD hS (lv_sub hl [0, 1, 2, 3] rfl)
          · refine lv_aload_n hx hb dX0_findBehind_43 rfl (lv_at hl 2 rfl) ?_
            refine va_get (D := D) (ci := 0) (v := .ref (r 1)) (C := RX0) (T := TX0) (N := 3) hx hb hts (fun _ h9 => (List.mem_cons_of_mem _ (List.mem_append_left _ (List.mem_append_right _ h9)))) hown hK hP 0 rfl rfl 0 (by decide) (hts _ (List.mem_of_getElem? (i := 1) rfl)) (fun _ h9 => h9) rfl dX0_findBehind_44 ?_
            refine lv_iload_n hx hb dX0_findBehind_47 rfl (lv_at hl 1 rfl) ?_
            refine lv_dup2_11 hx hb dX0_findBehind_48 rfl rfl ?_
            refine ar_ld hx hb hK hP 1 rfl q (nI_clamp (by omega)) (vp_in_nI (by omega) (by omega)) dX0_findBehind_49 ?_
            refine lv_aload_n hx hb dX0_findBehind_50 rfl (lv_at hl 2 rfl) ?_
            refine va_get (D := D) (ci := 0) (v := .ref (r 1)) (C := RX0) (T := TX0) (N := 3) hx hb hts (fun _ h9 => (List.mem_cons_of_mem _ (List.mem_append_left _ (List.mem_append_right _ h9)))) hown hK hP 0 rfl rfl 0 (by decide) (hts _ (List.mem_of_getElem? (i := 1) rfl)) (fun _ h9 => h9) rfl dX0_findBehind_51 ?_
            refine lv_iload_n hx hb dX0_findBehind_54 rfl (lv_at hl 0 rfl) ?_
            refine ar_ld hx hb hK hP 1 rfl j (nI_clamp (by omega)) (vp_in_nI (by omega) (by omega)) dX0_findBehind_55 ?_
            refine lv_ior hx hb dX0_findBehind_56 ?_
            refine ar_st hx hb hK hP hD hS 1 rfl q (nI_clamp (by omega)) (vp_in_nI (by omega) (by omega)) dX0_findBehind_57 (wn := ([(r 0, .inr (0, [.ref (r 1), .ref (r 2), .int tr])), (r 1, .inl (k 0, 9, .inl (upd (upd (dnF (bhG (T 2)) bh i) q (bhO (T 2) (bhG (T 2)) q (j - (q + 1)))) q (((upd (dnF (bhG (T 2)) bh i) q (bhO (T 2) (bhG (T 2)) q (j - (q + 1)))) q) ||| ((upd (dnF (bhG (T 2)) bh i) q (bhO (T 2) (bhG (T 2)) q (j - (q + 1)))) j))))), (r 2, .inl (k 0, 9, .inl ah))] ++ (wSt k g T))) rfl (fun H locs hP hD hS => ?_)
            refine lv_iinc (v := (nI (j + 1))) (lv' := [(3, .int (nI (j + 1))), (2, .int (nI q)), (0, .ref (r 0)), (1, .ref (g 0))]) hx hb dX0_findBehind_58 hl (k := 0) rfl (nI_1 j) (by decide) rfl (fun ls hl => ?_)
            refine lv_goto (tgt := 23) hx hb dX0_findBehind_61 (by decide) ?_
            exact ih_j (j + 1) (upd (upd (dnF (bhG (T 2)) bh i) q (bhO (T 2) (bhG (T 2)) q (j - (q + 1)))) q (((upd (dnF (bhG (T 2)) bh i) q (bhO (T 2) (bhG (T 2)) q (j - (q + 1)))) q) ||| ((upd (dnF (bhG (T 2)) bh i) q (bhO (T 2) (bhG (T 2)) q (j - (q + 1)))) j))) (by omega) (by omega) (by rw [up_up, up_eq, up_ne _ _ (show j ≠ q from by omega), dnF_in _ _ (show 9 - i ≤ j from by omega) (by omega), bhO_s _ _ (show q + 1 ≤ j from by omega), if_pos c_3]) (by omega) _ _ _ hP hD hS (lv_sub hl [0, 1, 2, 3] rfl)

set_option maxHeartbeats 1000000 in
set_option maxRecDepth 100000 in
theorem c_X0_hasNoneBehind (l : Launch) (D : va_G) (k : Nat → ClassId) (r : Nat → Nat) (bh ah : Nat → Int32) (tr : Int32) (mask : Int32)  : MI l yX0_hasNoneBehind wsX0_hasNoneBehind ({ frames := 1, cells := 0, slots := 0, locals := 21 }) D k [.ref (r 0), .int mask] (wRw k r bh ah tr) (bI (opR bh mask 9 0)) (wRw k r bh ah tr) := by
  intro sz
  refine Met.ofW (cc := cX0_hasNoneBehind) (maxL := 3) (ret := (some .boolean)) (by decide) rfl ?_
  intro p e s m args below meth c s₁ B hml hv
  obtain ⟨rfl, hN, hsz, hP, hK, hD0⟩ := hv
  have hx := B.exec
  have hb := B.bytes
  have hr := B.returns
  have hts := atoms_spec (ws := wsX0_hasNoneBehind) B.pre
  have hown : s.vm.findClass RX0 = some m.cls := findClass_of_methodNamed B.named
  have hlocks := B.notSynchronized
  subst hsz
  have hD := hD0.self (sz := s.heap.size)
  generalize hAe : va_A (wRw k r bh ah tr) s.heap.size = A at hD ⊢
  have hA : ∀ q : Nat, s.heap.size ≤ q → A q := fun q h => by rw [← hAe]; exact Or.inr h
  have hS : va_S A s.heap s.heap [] := va_S.rf
  have hl := lv_entry ([.ref (r 0), .int mask]) (n := 3) (Nat.le_of_ble_eq_true rfl)
  rw [lg_entry_eq]
  generalize (lg_sl ([.ref (r 0), .int mask]) ++ List.replicate (3 - (lg_sl ([.ref (r 0), .int mask])).length) Slot.unset).toArray = ls at hl ⊢
  have hl : lv_has ls 3 [(0, .ref (r 0)), (1, .int mask)] := hl
  obtain ⟨H, hHe⟩ : ∃ H, H = s.heap := ⟨_, rfl⟩
  have hP : va_P D vwCl (wRw k r bh ah tr) H := by rw [hHe]; exact hP
  have hS : va_S A s.heap H [] := by rw [hHe]; exact hS
  rw [← hHe]
  refine absQ (fun Q hQ => ?_)
  refine lv_iconst (v := 0) hx hb dX0_hasNoneBehind_0 (by decide) ?_
  refine lv_istore_n (lv' := [(2, .int 0), (0, .ref (r 0)), (1, .int mask)]) hx hb dX0_hasNoneBehind_1 rfl hl (by decide) rfl (fun ls hl => ?_)
  suffices LOOP_i : ∀ (fu_i i : Nat) , 9 - i < fu_i → i ≤ 9 → opR bh mask (9 - i) i = opR bh mask 9 0 → ∀ (H : Heap) (locs : List Loc) (ls : Array Slot), va_P D vwCl (wRw k r bh ah tr) H → va_D A (wRw k r bh ah tr) → va_S A s.heap H locs → lv_has ls 3 [(2, .int (nI i)), (0, .ref (r 0)), (1, .int mask)] → W p l e ({ frames := 1, cells := 0, slots := 0, locals := 21 } : Room) s m ([.ref (r 0), .int mask] : List Value).toArray below meth c H locs 0 0 Q (F0 m 2 ls []) from LOOP_i (9 + 1) 0  (by omega) (by omega)  (rfl) _ _ _ hP hD hS (lv_sub hl [0, 1, 2] rfl)
  clear hP hD hS hl hHe
  intro fu_i
  induction fu_i with
  | zero => intro i  hn_i; omega
  | succ fu_i ih_i =>
    intro i  hn_i hle_i  hv H locs ls hP hD hS hl
    refine lv_iload_n hx hb dX0_hasNoneBehind_2 rfl (lv_at hl 0 rfl) ?_
    refine lv_bipush (v := 9) hx hb dX0_hasNoneBehind_3 (by decide) ?_
    refine lv_icmp_ge (tgt := 36) hx hb dX0_hasNoneBehind_5 (by decide) (fun c_1 => ?_) (fun c_1 => ?_)
    · have c_1 : 9 ≤ i := (nI_leI (a := 9) (b := i) (by omega) (by omega)).mp c_1
      have hz_i : 9 = i := by omega
      subst hz_i
      refine lv_iconst (v := 1) hx hb dX0_hasNoneBehind_36 (by decide) ?_
      subst hQ
      exact rt_z hx hb hr hlocks hS dX0_hasNoneBehind_37 (hP) (rfl) (by rw [← hv]; rfl)
    · have c_1 : ¬ (9 ≤ i) := fun h9 => c_1 ((nI_leI (a := 9) (b := i) (by omega) (by omega)).mpr h9)
      refine lv_iload_n hx hb dX0_hasNoneBehind_8 rfl (lv_at hl 2 rfl) ?_
      refine lv_iload_n hx hb dX0_hasNoneBehind_9 rfl (lv_at hl 0 rfl) ?_
      have hPc : va_P D vwCl ([]) H := hP.sub [] rfl
      have hDc : va_D A ([]) := hD.sub [] (by decide +kernel) rfl
      refine cl_i0 (va_runSN (As := [.int mask, .int (nI i)]) (rest := []) ⟨hx, hb, hml, hown, hts⟩ (c_X4_bit l D k mask (nI i) H.size) ⟨va_cnB 2 hts gX0_hasNoneBehind_X4_bit_n23 rfl rfl rfl hN.2.2.2.2.2.2.2.2.2.2.1 (hts (.initialized RX4) (List.mem_of_getElem? (i := 3) rfl)) (by decide +kernel) ⟨Nat.le_of_ble_eq_true rfl, Nat.le_of_ble_eq_true rfl⟩, hts (.static yX4_bit) (List.mem_of_getElem? (i := 2) rfl), trivial⟩ ⟨pr_blind, pr_at hN hPc hK hDc⟩ rfl rfl hl.1 rfl (lv_room (Nat.le_of_ble_eq_true rfl)) dX0_hasNoneBehind_10 ⟨Nat.le_of_ble_eq_true rfl, Nat.le_of_ble_eq_true rfl⟩) hP hD hS hA [] rfl (fun H locs hP hD hS => ?_)
      clear hPc hDc
      refine lv_iconst (v := 1) hx hb dX0_hasNoneBehind_13 (by decide) ?_
      refine lv_icmp_ne (tgt := 30) hx hb dX0_hasNoneBehind_14 (by decide) (fun c_2 => ?_) (fun c_2 => ?_)
      · refine lv_iinc (v := (nI (i + 1))) (lv' := [(2, .int (nI (i + 1))), (0, .ref (r 0)), (1, .int mask)]) hx hb dX0_hasNoneBehind_30 hl (k := 0) rfl (nI_1 i) (by decide) rfl (fun ls hl => ?_)
        refine lv_goto (tgt := 2) hx hb dX0_hasNoneBehind_33 (by decide) ?_
        exact ih_i (i + 1)  (by omega) (by omega)  (by rw [← hv, opR_s _ _ c_1]; simp [c_1, c_2]) _ _ _ hP hD hS (lv_sub hl [0, 1, 2] rfl)
      · refine lv_aload_n hx hb dX0_hasNoneBehind_17 rfl (lv_at hl 1 rfl) ?_
        refine va_get (D := D) (ci := 0) (v := .ref (r 1)) (C := RX0) (T := TX0) (N := 3) hx hb hts (fun _ h9 => (List.mem_cons_of_mem _ (List.mem_append_right _ h9))) hown hK hP 0 rfl rfl 0 (by decide) (hts _ (List.mem_of_getElem? (i := 1) rfl)) (fun _ h9 => h9) rfl dX0_hasNoneBehind_18 ?_
        refine lv_iload_n hx hb dX0_hasNoneBehind_21 rfl (lv_at hl 0 rfl) ?_
        refine ar_ld hx hb hK hP 1 rfl i (nI_clamp (by omega)) (vp_in_nI (by omega) (by omega)) dX0_hasNoneBehind_22 ?_
        refine lv_iload_n hx hb dX0_hasNoneBehind_23 rfl (lv_at hl 2 rfl) ?_
        refine lv_iand hx hb dX0_hasNoneBehind_24 ?_
        refine lv_if_eq (tgt := 30) hx hb dX0_hasNoneBehind_25 (by decide) (fun c_3 => ?_) (fun c_3 => ?_)
        · refine lv_iinc (v := (nI (i + 1))) (lv' := [(2, .int (nI (i + 1))), (0, .ref (r 0)), (1, .int mask)]) hx hb dX0_hasNoneBehind_30 hl (k := 0) rfl (nI_1 i) (by decide) rfl (fun ls hl => ?_)
          refine lv_goto (tgt := 2) hx hb dX0_hasNoneBehind_33 (by decide) ?_
          exact ih_i (i + 1)  (by omega) (by omega)  (by rw [← hv, opR_s _ _ c_1]; simp [c_1, c_2, c_3]) _ _ _ hP hD hS (lv_sub hl [0, 1, 2] rfl)
        · refine lv_iconst (v := 0) hx hb dX0_hasNoneBehind_28 (by decide) ?_
          subst hQ
          exact rt_z hx hb hr hlocks hS dX0_hasNoneBehind_29 (hP) (rfl) (by rw [← hv, opR_s _ _ c_1]; simp [bI, c_1, c_2, c_3])
