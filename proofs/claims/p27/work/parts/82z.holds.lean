set_option maxHeartbeats 8000000 in
set_option maxRecDepth 100000 in
theorem c_L_holds (l : Launch) (D : va_G) (k : Nat → ClassId) (x0 ns : Nat) (S : Nat → Nat → Int32) (Z : Nat → Nat → Nat → Int32) (Y0 : Nat → Nat → Int32) (k0 : Int32) (X : va_W) (f : Nat → Int32) (hSR : SR S f) (hBR : BR S) (hEX : EX S) (hO : OX k x0 ns S Z Y0 k0 X) : MO l yL_holds wsL_holds ({ frames := 31, cells := 7, slots := 63, locals := 839 }) D k [.ref x0] X (fun r X2 => r = 1 ∧ OX k x0 ns S Z Y0 k0 X2) := by
  intro sz
  refine Met.ofW (cc := cL_holds) (maxL := 22) (ret := (some .boolean)) (by decide) rfl ?_
  intro p e s m args below meth c s₁ B hml hv
  obtain ⟨rfl, hN, hsz, hP, hK, hD0⟩ := hv
  have hx := B.exec
  have hb := B.bytes
  have hr := B.returns
  have hts := atoms_spec (ws := wsL_holds) B.pre
  have hown : s.vm.findClass RL = some m.cls := findClass_of_methodNamed B.named
  have hlocks := B.notSynchronized
  subst hsz
  have hD := hD0.self (sz := s.heap.size)
  generalize hAe : va_A X s.heap.size = A at hD ⊢
  have hA : ∀ q : Nat, s.heap.size ≤ q → A q := fun q h => by rw [← hAe]; exact Or.inr h
  have hS : va_S A s.heap s.heap [] := va_S.rf
  have hl := lv_entry ([.ref x0]) (n := 22) (Nat.le_of_ble_eq_true rfl)
  rw [lg_entry_eq]
  generalize (lg_sl ([.ref x0]) ++ List.replicate (22 - (lg_sl ([.ref x0])).length) Slot.unset).toArray = ls at hl ⊢
  have hl : lv_has ls 22 [(0, .ref x0)] := hl
  obtain ⟨H, hHe⟩ : ∃ H, H = s.heap := ⟨_, rfl⟩
  have hP : va_P D vwCl X H := by rw [hHe]; exact hP
  have hS : va_S A s.heap H [] := by rw [hHe]; exact hS
  rw [← hHe]
  refine absQ (fun Q hQ => ?_)
  have hG := hSR.1.1
  obtain ⟨nw, hnw⟩ := hSR.2.2.2
  have hn : S 7 0 = nI nw := hnw.2.1
  have hn2 : nw ≤ 12 := hnw.1
  have hsl : smF ((taL (opnL S) 13 0 S).2 4) 9 ≤ smF (S 4) 9 := by
    obtain ⟨_, -, -, -, -, -, -, h9, -⟩ := ta_all 13 0 S nw ⟨f, hSR, hBR, hEX⟩ hn hn2 (by omega)
    exact RLe_le h9
  have hP : va_P D vwCl ([] ++ (X)) H := hP
  have hD : va_D A ([] ++ (X)) := hD
  refine lv_bipush (v := 9) hx hb dL_holds_0 (by decide) ?_
  refine nw_i (k := k) hx hb (hts _ (List.mem_of_getElem? (i := 1) rfl)) hK hP hD hS hA 9 (by decide) rfl (Nat.le_of_ble_eq_true rfl) (Nat.le_of_ble_eq_true rfl) (Nat.le_of_ble_eq_true rfl) dL_holds_2 (fun n_1 H hP hD hS => ?_)
  refine W.widen (k := 1) (n := 9) (Nat.le_of_ble_eq_true rfl) (Nat.le_of_ble_eq_true rfl) ?_
  have hP := va_Psw hP
  have hD := va_Dsw hD
  have hP : va_P D vwCl ([(n_1, .inl (k 0, 9, .inl (fun _ => 0)))] ++ (X)) H := hP
  have hD : va_D A ([(n_1, .inl (k 0, 9, .inl (fun _ => 0)))] ++ (X)) := hD
  refine lv_astore_n (lv' := [(1, .ref n_1), (0, .ref x0)]) hx hb dL_holds_4 rfl hl (by decide) rfl (fun ls hl => ?_)
  refine lv_bipush (v := 9) hx hb dL_holds_5 (by decide) ?_
  refine nw_i (k := k) hx hb (hts _ (List.mem_of_getElem? (i := 1) rfl)) hK hP hD hS hA 9 (by decide) rfl (Nat.le_of_ble_eq_true rfl) (Nat.le_of_ble_eq_true rfl) (Nat.le_of_ble_eq_true rfl) dL_holds_7 (fun n_2 H hP hD hS => ?_)
  refine W.widen (k := 2) (n := 18) (Nat.le_of_ble_eq_true rfl) (Nat.le_of_ble_eq_true rfl) ?_
  have hP := va_Psw hP
  have hD := va_Dsw hD
  have hP : va_P D vwCl ([(n_2, .inl (k 0, 9, .inl (fun _ => 0))), (n_1, .inl (k 0, 9, .inl (fun _ => 0)))] ++ (X)) H := hP
  have hD : va_D A ([(n_2, .inl (k 0, 9, .inl (fun _ => 0))), (n_1, .inl (k 0, 9, .inl (fun _ => 0)))] ++ (X)) := hD
  refine lv_astore_n (lv' := [(2, .ref n_2), (1, .ref n_1), (0, .ref x0)]) hx hb dL_holds_9 rfl hl (by decide) rfl (fun ls hl => ?_)
  refine lv_bipush (v := 9) hx hb dL_holds_10 (by decide) ?_
  refine nw_i (k := k) hx hb (hts _ (List.mem_of_getElem? (i := 1) rfl)) hK hP hD hS hA 9 (by decide) rfl (Nat.le_of_ble_eq_true rfl) (Nat.le_of_ble_eq_true rfl) (Nat.le_of_ble_eq_true rfl) dL_holds_12 (fun n_3 H hP hD hS => ?_)
  refine W.widen (k := 3) (n := 27) (Nat.le_of_ble_eq_true rfl) (Nat.le_of_ble_eq_true rfl) ?_
  have hP := va_Psw hP
  have hD := va_Dsw hD
  have hP : va_P D vwCl ([(n_3, .inl (k 0, 9, .inl (fun _ => 0))), (n_2, .inl (k 0, 9, .inl (fun _ => 0))), (n_1, .inl (k 0, 9, .inl (fun _ => 0)))] ++ (X)) H := hP
  have hD : va_D A ([(n_3, .inl (k 0, 9, .inl (fun _ => 0))), (n_2, .inl (k 0, 9, .inl (fun _ => 0))), (n_1, .inl (k 0, 9, .inl (fun _ => 0)))] ++ (X)) := hD
  refine lv_astore_n (lv' := [(3, .ref n_3), (2, .ref n_2), (1, .ref n_1), (0, .ref x0)]) hx hb dL_holds_14 rfl hl (by decide) rfl (fun ls hl => ?_)
  refine lv_bipush (v := 9) hx hb dL_holds_15 (by decide) ?_
  refine nw_i (k := k) hx hb (hts _ (List.mem_of_getElem? (i := 1) rfl)) hK hP hD hS hA 9 (by decide) rfl (Nat.le_of_ble_eq_true rfl) (Nat.le_of_ble_eq_true rfl) (Nat.le_of_ble_eq_true rfl) dL_holds_17 (fun n_4 H hP hD hS => ?_)
  refine W.widen (k := 4) (n := 36) (Nat.le_of_ble_eq_true rfl) (Nat.le_of_ble_eq_true rfl) ?_
  have hP := va_Psw hP
  have hD := va_Dsw hD
  have hP : va_P D vwCl ([(n_4, .inl (k 0, 9, .inl (fun _ => 0))), (n_3, .inl (k 0, 9, .inl (fun _ => 0))), (n_2, .inl (k 0, 9, .inl (fun _ => 0))), (n_1, .inl (k 0, 9, .inl (fun _ => 0)))] ++ (X)) H := hP
  have hD : va_D A ([(n_4, .inl (k 0, 9, .inl (fun _ => 0))), (n_3, .inl (k 0, 9, .inl (fun _ => 0))), (n_2, .inl (k 0, 9, .inl (fun _ => 0))), (n_1, .inl (k 0, 9, .inl (fun _ => 0)))] ++ (X)) := hD
  refine lv_astore (lv' := [(4, .ref n_4), (3, .ref n_3), (2, .ref n_2), (1, .ref n_1), (0, .ref x0)]) hx hb dL_holds_19 hl (by decide) rfl (fun ls hl => ?_)
  refine lv_bipush (v := 9) hx hb dL_holds_21 (by decide) ?_
  refine nw_i (k := k) hx hb (hts _ (List.mem_of_getElem? (i := 1) rfl)) hK hP hD hS hA 9 (by decide) rfl (Nat.le_of_ble_eq_true rfl) (Nat.le_of_ble_eq_true rfl) (Nat.le_of_ble_eq_true rfl) dL_holds_23 (fun n_5 H hP hD hS => ?_)
  refine W.widen (k := 5) (n := 45) (Nat.le_of_ble_eq_true rfl) (Nat.le_of_ble_eq_true rfl) ?_
  have hP := va_Psw hP
  have hD := va_Dsw hD
  have hP : va_P D vwCl ([(n_5, .inl (k 0, 9, .inl (fun _ => 0))), (n_4, .inl (k 0, 9, .inl (fun _ => 0))), (n_3, .inl (k 0, 9, .inl (fun _ => 0))), (n_2, .inl (k 0, 9, .inl (fun _ => 0))), (n_1, .inl (k 0, 9, .inl (fun _ => 0)))] ++ (X)) H := hP
  have hD : va_D A ([(n_5, .inl (k 0, 9, .inl (fun _ => 0))), (n_4, .inl (k 0, 9, .inl (fun _ => 0))), (n_3, .inl (k 0, 9, .inl (fun _ => 0))), (n_2, .inl (k 0, 9, .inl (fun _ => 0))), (n_1, .inl (k 0, 9, .inl (fun _ => 0)))] ++ (X)) := hD
  refine lv_astore (lv' := [(5, .ref n_5), (4, .ref n_4), (3, .ref n_3), (2, .ref n_2), (1, .ref n_1), (0, .ref x0)]) hx hb dL_holds_25 hl (by decide) rfl (fun ls hl => ?_)
  refine lv_bipush (v := 9) hx hb dL_holds_27 (by decide) ?_
  refine nw_i (k := k) hx hb (hts _ (List.mem_of_getElem? (i := 1) rfl)) hK hP hD hS hA 9 (by decide) rfl (Nat.le_of_ble_eq_true rfl) (Nat.le_of_ble_eq_true rfl) (Nat.le_of_ble_eq_true rfl) dL_holds_29 (fun n_6 H hP hD hS => ?_)
  refine W.widen (k := 6) (n := 54) (Nat.le_of_ble_eq_true rfl) (Nat.le_of_ble_eq_true rfl) ?_
  have hP := va_Psw hP
  have hD := va_Dsw hD
  have hP : va_P D vwCl ([(n_6, .inl (k 0, 9, .inl (fun _ => 0))), (n_5, .inl (k 0, 9, .inl (fun _ => 0))), (n_4, .inl (k 0, 9, .inl (fun _ => 0))), (n_3, .inl (k 0, 9, .inl (fun _ => 0))), (n_2, .inl (k 0, 9, .inl (fun _ => 0))), (n_1, .inl (k 0, 9, .inl (fun _ => 0)))] ++ (X)) H := hP
  have hD : va_D A ([(n_6, .inl (k 0, 9, .inl (fun _ => 0))), (n_5, .inl (k 0, 9, .inl (fun _ => 0))), (n_4, .inl (k 0, 9, .inl (fun _ => 0))), (n_3, .inl (k 0, 9, .inl (fun _ => 0))), (n_2, .inl (k 0, 9, .inl (fun _ => 0))), (n_1, .inl (k 0, 9, .inl (fun _ => 0)))] ++ (X)) := hD
  refine lv_astore (lv' := [(6, .ref n_6), (5, .ref n_5), (4, .ref n_4), (3, .ref n_3), (2, .ref n_2), (1, .ref n_1), (0, .ref x0)]) hx hb dL_holds_31 hl (by decide) rfl (fun ls hl => ?_)
  refine lv_bipush (v := 9) hx hb dL_holds_33 (by decide) ?_
  refine nw_i (k := k) hx hb (hts _ (List.mem_of_getElem? (i := 1) rfl)) hK hP hD hS hA 9 (by decide) rfl (Nat.le_of_ble_eq_true rfl) (Nat.le_of_ble_eq_true rfl) (Nat.le_of_ble_eq_true rfl) dL_holds_35 (fun n_7 H hP hD hS => ?_)
  refine W.widen (k := 7) (n := 63) (Nat.le_of_ble_eq_true rfl) (Nat.le_of_ble_eq_true rfl) ?_
  have hP := va_Psw hP
  have hD := va_Dsw hD
  have hP : va_P D vwCl ([(n_7, .inl (k 0, 9, .inl (fun _ => 0))), (n_6, .inl (k 0, 9, .inl (fun _ => 0))), (n_5, .inl (k 0, 9, .inl (fun _ => 0))), (n_4, .inl (k 0, 9, .inl (fun _ => 0))), (n_3, .inl (k 0, 9, .inl (fun _ => 0))), (n_2, .inl (k 0, 9, .inl (fun _ => 0))), (n_1, .inl (k 0, 9, .inl (fun _ => 0)))] ++ (X)) H := hP
  have hD : va_D A ([(n_7, .inl (k 0, 9, .inl (fun _ => 0))), (n_6, .inl (k 0, 9, .inl (fun _ => 0))), (n_5, .inl (k 0, 9, .inl (fun _ => 0))), (n_4, .inl (k 0, 9, .inl (fun _ => 0))), (n_3, .inl (k 0, 9, .inl (fun _ => 0))), (n_2, .inl (k 0, 9, .inl (fun _ => 0))), (n_1, .inl (k 0, 9, .inl (fun _ => 0)))] ++ (X)) := hD
  refine lv_astore (lv' := [(7, .ref n_7), (6, .ref n_6), (5, .ref n_5), (4, .ref n_4), (3, .ref n_3), (2, .ref n_2), (1, .ref n_1), (0, .ref x0)]) hx hb dL_holds_37 hl (by decide) rfl (fun ls hl => ?_)
  refine lv_iconst (v := 0) hx hb dL_holds_39 (by decide) ?_
  refine lv_istore (lv' := [(8, .int 0), (7, .ref n_7), (6, .ref n_6), (5, .ref n_5), (4, .ref n_4), (3, .ref n_3), (2, .ref n_2), (1, .ref n_1), (0, .ref x0)]) hx hb dL_holds_40 hl (by decide) rfl (fun ls hl => ?_)
  refine lv_iconst (v := 0) hx hb dL_holds_42 (by decide) ?_
  refine lv_istore (lv' := [(9, .int 0), (8, .int 0), (7, .ref n_7), (6, .ref n_6), (5, .ref n_5), (4, .ref n_4), (3, .ref n_3), (2, .ref n_2), (1, .ref n_1), (0, .ref x0)]) hx hb dL_holds_43 hl (by decide) rfl (fun ls hl => ?_)
  refine lv_iconst (v := 0) hx hb dL_holds_45 (by decide) ?_
  refine lv_istore (lv' := [(10, .int 0), (9, .int 0), (8, .int 0), (7, .ref n_7), (6, .ref n_6), (5, .ref n_5), (4, .ref n_4), (3, .ref n_3), (2, .ref n_2), (1, .ref n_1), (0, .ref x0)]) hx hb dL_holds_46 hl (by decide) rfl (fun ls hl => ?_)
  refine lv_iconst (v := 1) hx hb dL_holds_48 (by decide) ?_
  refine lv_istore (lv' := [(11, .int 1), (10, .int 0), (9, .int 0), (8, .int 0), (7, .ref n_7), (6, .ref n_6), (5, .ref n_5), (4, .ref n_4), (3, .ref n_3), (2, .ref n_2), (1, .ref n_1), (0, .ref x0)]) hx hb dL_holds_49 hl (by decide) rfl (fun ls hl => ?_)
  refine lv_bipush (v := 8) hx hb dL_holds_51 (by decide) ?_
  refine lv_istore (lv' := [(12, .int 8), (11, .int 1), (10, .int 0), (9, .int 0), (8, .int 0), (7, .ref n_7), (6, .ref n_6), (5, .ref n_5), (4, .ref n_4), (3, .ref n_3), (2, .ref n_2), (1, .ref n_1), (0, .ref x0)]) hx hb dL_holds_53 hl (by decide) rfl (fun ls hl => ?_)
  suffices LOOP_i : ∀ (fu_i i : Nat) (x12 : Int32) (g2 : Nat → Int32) (g3 : Nat → Int32) (g4 : Nat → Int32) (x9 : Int32) (x10 : Int32) (g1 : Nat → Int32) (g5 : Nat → Int32) (x8 : Int32) (Xa : va_W), 9 - i < fu_i → i ≤ 9 → x12 = nI (9 - i) + (-1 : Int32) → g2 = dnF (S 1) (fun _ => 0) i → g3 = dnF (S 3) (fun _ => 0) i → g4 = dnF (S 4) (fun _ => 0) i → x9 = dsF (S 0) i → x10 = dsF (S 4) i → g1 = dnF (S 2) (fun _ => 0) i → g5 = dnF (bhG (S 2)) (fun _ => 0) i → x8 = dsF (mnS S) i → (OX k x0 ns S Z Y0 k0 Xa) → ∀ (H : Heap) (locs : List Loc) (ls : Array Slot), va_P D vwCl ([(n_7, .inl (k 0, 9, .inl (fun _ => 0))), (n_6, .inl (k 0, 9, .inl (fun _ => 0))), (n_5, .inl (k 0, 9, .inl g5)), (n_4, .inl (k 0, 9, .inl g4)), (n_3, .inl (k 0, 9, .inl g3)), (n_2, .inl (k 0, 9, .inl g2)), (n_1, .inl (k 0, 9, .inl g1))] ++ (Xa)) H → va_D A ([(n_7, .inl (k 0, 9, .inl (fun _ => 0))), (n_6, .inl (k 0, 9, .inl (fun _ => 0))), (n_5, .inl (k 0, 9, .inl g5)), (n_4, .inl (k 0, 9, .inl g4)), (n_3, .inl (k 0, 9, .inl g3)), (n_2, .inl (k 0, 9, .inl g2)), (n_1, .inl (k 0, 9, .inl g1))] ++ (Xa)) → va_S A s.heap H locs → lv_has ls 22 [(12, .int x12), (11, .int 1), (10, .int x10), (9, .int x9), (8, .int x8), (7, .ref n_7), (6, .ref n_6), (5, .ref n_5), (4, .ref n_4), (3, .ref n_3), (2, .ref n_2), (1, .ref n_1), (0, .ref x0)] → W p l e ({ frames := 31, cells := 7, slots := 63, locals := 839 } : Room) s m ([.ref x0] : List Value).toArray below meth c H locs 7 63 Q (F0 m 55 ls []) from LOOP_i (9 + 1) 0 8 (fun _ => 0) (fun _ => 0) (fun _ => 0) 0 0 (fun _ => 0) (fun _ => 0) 0 X (by omega) (by omega) (by decide) ((dnF_0 _ _).symm) ((dnF_0 _ _).symm) ((dnF_0 _ _).symm) (rfl) (rfl) ((dnF_0 _ _).symm) ((dnF_0 _ _).symm) (rfl) (hO) _ _ _ hP hD hS (lv_sub hl [0, 1, 2, 3, 4, 5, 6, 7, 8, 9, 10, 11, 12] rfl)
  clear hP hD hS hl hHe
  intro fu_i
  induction fu_i with
  | zero => intro i x12 g2 g3 g4 x9 x10 g1 g5 x8 Xa hn_i; omega
  | succ fu_i ih_i =>
    intro i x12 g2 g3 g4 x9 x10 g1 g5 x8 Xa hn_i hle_i e_x12 e_g2 e_g3 e_g4 e_x9 e_x10 e_g1 e_g5 e_x8 hOa H locs ls hP hD hS hl
    subst e_x12
    subst e_g2
    subst e_g3
    subst e_g4
    subst e_x9
    subst e_x10
    subst e_g1
    subst e_g5
    subst e_x8
    refine lv_iload hx hb dL_holds_55 (lv_at hl 0 rfl) ?_
    refine lv_if_lt (tgt := 350) hx hb dL_holds_57 (by decide) (fun c_8 => ?_) (fun c_8 => ?_)
    · have h9 := dn_neg (show 9 - i ≤ 9 from by omega) c_8
      obtain rfl : i = 9 := by omega
      have hP : va_P D vwCl ([(n_7, .inl (k 0, 9, .inl (fun _ => 0))), (n_6, .inl (k 0, 9, .inl (fun _ => 0))), (n_5, .inl (k 0, 9, .inl (bhG (S 2)))), (n_4, .inl (k 0, 9, .inl (dnF (S 4) (fun _ => 0) 9))), (n_3, .inl (k 0, 9, .inl (dnF (S 3) (fun _ => 0) 9))), (n_2, .inl (k 0, 9, .inl (dnF (S 1) (fun _ => 0) 9))), (n_1, .inl (k 0, 9, .inl (dnF (S 2) (fun _ => 0) 9)))] ++ (Xa)) H := va_P.ext hP hD 2 rfl (bhG (S 2)) (fun j hj => dnF_9 _ _ hj)
      have hD : va_D A ([(n_7, .inl (k 0, 9, .inl (fun _ => 0))), (n_6, .inl (k 0, 9, .inl (fun _ => 0))), (n_5, .inl (k 0, 9, .inl (bhG (S 2)))), (n_4, .inl (k 0, 9, .inl (dnF (S 4) (fun _ => 0) 9))), (n_3, .inl (k 0, 9, .inl (dnF (S 3) (fun _ => 0) 9))), (n_2, .inl (k 0, 9, .inl (dnF (S 1) (fun _ => 0) 9))), (n_1, .inl (k 0, 9, .inl (dnF (S 2) (fun _ => 0) 9)))] ++ (Xa)) := hD.addr rfl
      have hP : va_P D vwCl ([(n_7, .inl (k 0, 9, .inl (fun _ => 0))), (n_6, .inl (k 0, 9, .inl (fun _ => 0))), (n_5, .inl (k 0, 9, .inl (bhG (S 2)))), (n_4, .inl (k 0, 9, .inl (S 4))), (n_3, .inl (k 0, 9, .inl (dnF (S 3) (fun _ => 0) 9))), (n_2, .inl (k 0, 9, .inl (dnF (S 1) (fun _ => 0) 9))), (n_1, .inl (k 0, 9, .inl (dnF (S 2) (fun _ => 0) 9)))] ++ (Xa)) H := va_P.ext hP hD 3 rfl (S 4) (fun j hj => dnF_9 _ _ hj)
      have hD : va_D A ([(n_7, .inl (k 0, 9, .inl (fun _ => 0))), (n_6, .inl (k 0, 9, .inl (fun _ => 0))), (n_5, .inl (k 0, 9, .inl (bhG (S 2)))), (n_4, .inl (k 0, 9, .inl (S 4))), (n_3, .inl (k 0, 9, .inl (dnF (S 3) (fun _ => 0) 9))), (n_2, .inl (k 0, 9, .inl (dnF (S 1) (fun _ => 0) 9))), (n_1, .inl (k 0, 9, .inl (dnF (S 2) (fun _ => 0) 9)))] ++ (Xa)) := hD.addr rfl
      have hP : va_P D vwCl ([(n_7, .inl (k 0, 9, .inl (fun _ => 0))), (n_6, .inl (k 0, 9, .inl (fun _ => 0))), (n_5, .inl (k 0, 9, .inl (bhG (S 2)))), (n_4, .inl (k 0, 9, .inl (S 4))), (n_3, .inl (k 0, 9, .inl (S 3))), (n_2, .inl (k 0, 9, .inl (dnF (S 1) (fun _ => 0) 9))), (n_1, .inl (k 0, 9, .inl (dnF (S 2) (fun _ => 0) 9)))] ++ (Xa)) H := va_P.ext hP hD 4 rfl (S 3) (fun j hj => dnF_9 _ _ hj)
      have hD : va_D A ([(n_7, .inl (k 0, 9, .inl (fun _ => 0))), (n_6, .inl (k 0, 9, .inl (fun _ => 0))), (n_5, .inl (k 0, 9, .inl (bhG (S 2)))), (n_4, .inl (k 0, 9, .inl (S 4))), (n_3, .inl (k 0, 9, .inl (S 3))), (n_2, .inl (k 0, 9, .inl (dnF (S 1) (fun _ => 0) 9))), (n_1, .inl (k 0, 9, .inl (dnF (S 2) (fun _ => 0) 9)))] ++ (Xa)) := hD.addr rfl
      have hP : va_P D vwCl ([(n_7, .inl (k 0, 9, .inl (fun _ => 0))), (n_6, .inl (k 0, 9, .inl (fun _ => 0))), (n_5, .inl (k 0, 9, .inl (bhG (S 2)))), (n_4, .inl (k 0, 9, .inl (S 4))), (n_3, .inl (k 0, 9, .inl (S 3))), (n_2, .inl (k 0, 9, .inl (S 1))), (n_1, .inl (k 0, 9, .inl (dnF (S 2) (fun _ => 0) 9)))] ++ (Xa)) H := va_P.ext hP hD 5 rfl (S 1) (fun j hj => dnF_9 _ _ hj)
      have hD : va_D A ([(n_7, .inl (k 0, 9, .inl (fun _ => 0))), (n_6, .inl (k 0, 9, .inl (fun _ => 0))), (n_5, .inl (k 0, 9, .inl (bhG (S 2)))), (n_4, .inl (k 0, 9, .inl (S 4))), (n_3, .inl (k 0, 9, .inl (S 3))), (n_2, .inl (k 0, 9, .inl (S 1))), (n_1, .inl (k 0, 9, .inl (dnF (S 2) (fun _ => 0) 9)))] ++ (Xa)) := hD.addr rfl
      have hP : va_P D vwCl ([(n_7, .inl (k 0, 9, .inl (fun _ => 0))), (n_6, .inl (k 0, 9, .inl (fun _ => 0))), (n_5, .inl (k 0, 9, .inl (bhG (S 2)))), (n_4, .inl (k 0, 9, .inl (S 4))), (n_3, .inl (k 0, 9, .inl (S 3))), (n_2, .inl (k 0, 9, .inl (S 1))), (n_1, .inl (k 0, 9, .inl (S 2)))] ++ (Xa)) H := va_P.ext hP hD 6 rfl (S 2) (fun j hj => dnF_9 _ _ hj)
      have hD : va_D A ([(n_7, .inl (k 0, 9, .inl (fun _ => 0))), (n_6, .inl (k 0, 9, .inl (fun _ => 0))), (n_5, .inl (k 0, 9, .inl (bhG (S 2)))), (n_4, .inl (k 0, 9, .inl (S 4))), (n_3, .inl (k 0, 9, .inl (S 3))), (n_2, .inl (k 0, 9, .inl (S 1))), (n_1, .inl (k 0, 9, .inl (S 2)))] ++ (Xa)) := hD.addr rfl
      refine lv_iconst (v := 0) hx hb dL_holds_350 (by decide) ?_
      refine lv_istore (lv' := [(12, .int 0), (11, .int 1), (10, .int (dsF (S 4) 9)), (9, .int (dsF (S 0) 9)), (8, .int (dsF (mnS S) 9)), (7, .ref n_7), (6, .ref n_6), (5, .ref n_5), (4, .ref n_4), (3, .ref n_3), (2, .ref n_2), (1, .ref n_1), (0, .ref x0)]) hx hb dL_holds_351 hl (by decide) rfl (fun ls hl => ?_)
      refine lv_iconst (v := 0) hx hb dL_holds_353 (by decide) ?_
      refine lv_istore (lv' := [(13, .int 0), (12, .int 0), (11, .int 1), (10, .int (dsF (S 4) 9)), (9, .int (dsF (S 0) 9)), (8, .int (dsF (mnS S) 9)), (7, .ref n_7), (6, .ref n_6), (5, .ref n_5), (4, .ref n_4), (3, .ref n_3), (2, .ref n_2), (1, .ref n_1), (0, .ref x0)]) hx hb dL_holds_354 hl (by decide) rfl (fun ls hl => ?_)
      refine lv_iconst (v := 0) hx hb dL_holds_356 (by decide) ?_
      refine lv_istore (lv' := [(14, .int 0), (13, .int 0), (12, .int 0), (11, .int 1), (10, .int (dsF (S 4) 9)), (9, .int (dsF (S 0) 9)), (8, .int (dsF (mnS S) 9)), (7, .ref n_7), (6, .ref n_6), (5, .ref n_5), (4, .ref n_4), (3, .ref n_3), (2, .ref n_2), (1, .ref n_1), (0, .ref x0)]) hx hb dL_holds_357 hl (by decide) rfl (fun ls hl => ?_)
      refine lv_iconst (v := 0) hx hb dL_holds_359 (by decide) ?_
      refine lv_istore (lv' := [(15, .int 0), (14, .int 0), (13, .int 0), (12, .int 0), (11, .int 1), (10, .int (dsF (S 4) 9)), (9, .int (dsF (S 0) 9)), (8, .int (dsF (mnS S) 9)), (7, .ref n_7), (6, .ref n_6), (5, .ref n_5), (4, .ref n_4), (3, .ref n_3), (2, .ref n_2), (1, .ref n_1), (0, .ref x0)]) hx hb dL_holds_360 hl (by decide) rfl (fun ls hl => ?_)
      refine lv_iconst (v := 0) hx hb dL_holds_362 (by decide) ?_
      refine lv_istore (lv' := [(16, .int 0), (15, .int 0), (14, .int 0), (13, .int 0), (12, .int 0), (11, .int 1), (10, .int (dsF (S 4) 9)), (9, .int (dsF (S 0) 9)), (8, .int (dsF (mnS S) 9)), (7, .ref n_7), (6, .ref n_6), (5, .ref n_5), (4, .ref n_4), (3, .ref n_3), (2, .ref n_2), (1, .ref n_1), (0, .ref x0)]) hx hb dL_holds_363 hl (by decide) rfl (fun ls hl => ?_)
      refine lv_iconst (v := 1) hx hb dL_holds_365 (by decide) ?_
      refine lv_istore (lv' := [(17, .int 1), (16, .int 0), (15, .int 0), (14, .int 0), (13, .int 0), (12, .int 0), (11, .int 1), (10, .int (dsF (S 4) 9)), (9, .int (dsF (S 0) 9)), (8, .int (dsF (mnS S) 9)), (7, .ref n_7), (6, .ref n_6), (5, .ref n_5), (4, .ref n_4), (3, .ref n_3), (2, .ref n_2), (1, .ref n_1), (0, .ref x0)]) hx hb dL_holds_366 hl (by decide) rfl (fun ls hl => ?_)
      suffices LOOP_t : ∀ (fu_t t : Nat) (g8 : Nat → Int32) (g9 : Nat → Int32) (y12 : Int32) (y13 : Int32) (y14 : Int32) (y15 : Int32) (y16 : Int32), 512 - t < fu_t → t ≤ 512 → g8 = inW f false (t - 1) → g9 = inW f true (t - 1) → y12 = wyF f 0 false (t - 1) → y13 = wyF f 0 true (t - 1) → y14 = rwT f (t - 1) → y15 = (bsF f S (t - 1)).1 → y16 = (bsF f S (t - 1)).2 → (1 ≤ t) → ∀ (H : Heap) (locs : List Loc) (ls : Array Slot), va_P D vwCl ([(n_7, .inl (k 0, 9, .inl g9)), (n_6, .inl (k 0, 9, .inl g8)), (n_5, .inl (k 0, 9, .inl (bhG (S 2)))), (n_4, .inl (k 0, 9, .inl (S 4))), (n_3, .inl (k 0, 9, .inl (S 3))), (n_2, .inl (k 0, 9, .inl (S 1))), (n_1, .inl (k 0, 9, .inl (S 2)))] ++ (Xa)) H → va_D A ([(n_7, .inl (k 0, 9, .inl g9)), (n_6, .inl (k 0, 9, .inl g8)), (n_5, .inl (k 0, 9, .inl (bhG (S 2)))), (n_4, .inl (k 0, 9, .inl (S 4))), (n_3, .inl (k 0, 9, .inl (S 3))), (n_2, .inl (k 0, 9, .inl (S 1))), (n_1, .inl (k 0, 9, .inl (S 2)))] ++ (Xa)) → va_S A s.heap H locs → lv_has ls 22 [(17, .int (nI t)), (16, .int y16), (15, .int y15), (14, .int y14), (13, .int y13), (12, .int y12), (11, .int 1), (10, .int (dsF (S 4) 9)), (9, .int (dsF (S 0) 9)), (8, .int (dsF (mnS S) 9)), (7, .ref n_7), (6, .ref n_6), (5, .ref n_5), (4, .ref n_4), (3, .ref n_3), (2, .ref n_2), (1, .ref n_1), (0, .ref x0)] → W p l e ({ frames := 31, cells := 7, slots := 63, locals := 839 } : Room) s m ([.ref x0] : List Value).toArray below meth c H locs 7 63 Q (F0 m 368 ls []) from LOOP_t (512 + 1) 1 (fun _ => 0) (fun _ => 0) 0 0 0 0 0 (by omega) (by omega) (rfl) (rfl) (rfl) (rfl) (rfl) (rfl) (rfl) (by omega) _ _ _ hP hD hS (lv_sub hl [0, 1, 2, 3, 4, 5, 6, 7, 8, 9, 10, 11, 12, 13, 14, 15, 16, 17] rfl)
      clear hP hD hS hl
      intro fu_t
      induction fu_t with
      | zero => intro t g8 g9 y12 y13 y14 y15 y16 hn_t; omega
      | succ fu_t ih_t =>
        intro t g8 g9 y12 y13 y14 y15 y16 hn_t hle_t e_g8 e_g9 e_y12 e_y13 e_y14 e_y15 e_y16 hlo_t H locs ls hP hD hS hl
        subst e_g8
        subst e_g9
        subst e_y12
        subst e_y13
        subst e_y14
        subst e_y15
        subst e_y16
        refine lv_iload hx hb dL_holds_368 (lv_at hl 0 rfl) ?_
        refine lv_sipush (v := 512) hx hb dL_holds_370 (by decide) ?_
        refine lv_icmp_ge (tgt := 610) hx hb dL_holds_373 (by decide) (fun c_9 => ?_) (fun c_9 => ?_)
        · have c_9 : 512 ≤ t := (nI_leI (a := 512) (b := t) (by omega) (by omega)).mp c_9
          have hz_t : 512 = t := by omega
          subst hz_t
          refine lv_iconst (v := (-1)) hx hb dL_holds_610 (by decide) ?_
          refine lv_istore (lv' := [(17, .int (-1)), (16, .int ((bsF f S (512 - 1)).2)), (15, .int ((bsF f S (512 - 1)).1)), (14, .int (rwT f (512 - 1))), (13, .int (wyF f 0 true (512 - 1))), (12, .int (wyF f 0 false (512 - 1))), (11, .int 1), (10, .int (dsF (S 4) 9)), (9, .int (dsF (S 0) 9)), (8, .int (dsF (mnS S) 9)), (7, .ref n_7), (6, .ref n_6), (5, .ref n_5), (4, .ref n_4), (3, .ref n_3), (2, .ref n_2), (1, .ref n_1), (0, .ref x0)]) hx hb dL_holds_611 hl (by decide) rfl (fun ls hl => ?_)
          refine lv_bipush (v := 8) hx hb dL_holds_613 (by decide) ?_
          refine lv_istore (lv' := [(18, .int 8), (17, .int (-1)), (16, .int ((bsF f S (512 - 1)).2)), (15, .int ((bsF f S (512 - 1)).1)), (14, .int (rwT f (512 - 1))), (13, .int (wyF f 0 true (512 - 1))), (12, .int (wyF f 0 false (512 - 1))), (11, .int 1), (10, .int (dsF (S 4) 9)), (9, .int (dsF (S 0) 9)), (8, .int (dsF (mnS S) 9)), (7, .ref n_7), (6, .ref n_6), (5, .ref n_5), (4, .ref n_4), (3, .ref n_3), (2, .ref n_2), (1, .ref n_1), (0, .ref x0)]) hx hb dL_holds_615 hl (by decide) rfl (fun ls hl => ?_)
          suffices LOOP_u : ∀ (fu_u u : Nat) (w18 : Int32) (w17 : Int32) (Xe : va_W), 9 - u < fu_u → u ≤ 9 → w18 = nI (9 - u) + (-1 : Int32) → w17 = mdF (CO f) u → (OX k x0 ns S Z Y0 k0 Xe) → ∀ (H : Heap) (locs : List Loc) (ls : Array Slot), va_P D vwCl ([(n_7, .inl (k 0, 9, .inl (inW f true (512 - 1)))), (n_6, .inl (k 0, 9, .inl (inW f false (512 - 1)))), (n_5, .inl (k 0, 9, .inl (bhG (S 2)))), (n_4, .inl (k 0, 9, .inl (S 4))), (n_3, .inl (k 0, 9, .inl (S 3))), (n_2, .inl (k 0, 9, .inl (S 1))), (n_1, .inl (k 0, 9, .inl (S 2)))] ++ (Xe)) H → va_D A ([(n_7, .inl (k 0, 9, .inl (inW f true (512 - 1)))), (n_6, .inl (k 0, 9, .inl (inW f false (512 - 1)))), (n_5, .inl (k 0, 9, .inl (bhG (S 2)))), (n_4, .inl (k 0, 9, .inl (S 4))), (n_3, .inl (k 0, 9, .inl (S 3))), (n_2, .inl (k 0, 9, .inl (S 1))), (n_1, .inl (k 0, 9, .inl (S 2)))] ++ (Xe)) → va_S A s.heap H locs → lv_has ls 22 [(18, .int w18), (17, .int w17), (16, .int ((bsF f S (512 - 1)).2)), (15, .int ((bsF f S (512 - 1)).1)), (14, .int (rwT f (512 - 1))), (13, .int (wyF f 0 true (512 - 1))), (12, .int (wyF f 0 false (512 - 1))), (11, .int 1), (10, .int (dsF (S 4) 9)), (9, .int (dsF (S 0) 9)), (8, .int (dsF (mnS S) 9)), (7, .ref n_7), (6, .ref n_6), (5, .ref n_5), (4, .ref n_4), (3, .ref n_3), (2, .ref n_2), (1, .ref n_1), (0, .ref x0)] → W p l e ({ frames := 31, cells := 7, slots := 63, locals := 839 } : Room) s m ([.ref x0] : List Value).toArray below meth c H locs 7 63 Q (F0 m 617 ls []) from LOOP_u (9 + 1) 0 8 (-1) Xa (by omega) (by omega) (by decide) (rfl) (hOa) _ _ _ hP hD hS (lv_sub hl [0, 1, 2, 3, 4, 5, 6, 7, 8, 9, 10, 11, 12, 13, 14, 15, 16, 17, 18] rfl)
          clear hP hD hS hl
          intro fu_u
          induction fu_u with
          | zero => intro u w18 w17 Xe hn_u; omega
          | succ fu_u ih_u =>
            intro u w18 w17 Xe hn_u hle_u e_w18 e_w17 hOe H locs ls hP hD hS hl
            subst e_w18
            subst e_w17
            refine lv_iload hx hb dL_holds_617 (lv_at hl 0 rfl) ?_
            refine lv_if_lt (tgt := 692) hx hb dL_holds_619 (by decide) (fun c_10 => ?_) (fun c_10 => ?_)
            · have h9 := dn_neg (show 9 - u ≤ 9 from by omega) c_10
              obtain rfl : u = 9 := by omega
              refine lv_iload hx hb dL_holds_692 (lv_at hl 7 rfl) ?_
              refine lv_if_eq (tgt := 793) hx hb dL_holds_694 (by decide) (fun c_11 => ?_) (fun c_11 => ?_)
              · exact absurd c_11 (by decide)
              · refine lv_iload hx hb dL_holds_697 (lv_at hl 10 rfl) ?_
                refine lv_aload_n hx hb dL_holds_699 rfl (lv_at hl 18 rfl) ?_
                refine lv_iconst (v := 0) hx hb dL_holds_700 (by decide) ?_
                obtain ⟨X_12, hO_13, hM9⟩ := o_count_0 (l := l) (D := D) hSR hOe
                refine lo_I (n := 1) (As := [.int 0]) (rest := [.int (dsF (mnS S) 9)]) hx hb hml hown hts hK hN hM9 (OX.at0 hOe) gL_holds_X4_count rfl (by decide +kernel) (by decide) dL_holds_701 rfl rfl (Nat.le_of_ble_eq_true rfl) hl.1 (Nat.le_of_ble_eq_true rfl) (Nat.le_of_ble_eq_true rfl) (Nat.le_of_ble_eq_true rfl) (Nat.le_of_ble_eq_true rfl) hP hD hS hA (fun H locs hP hD hS => ?_)
                clear hM9
                refine lv_icmp_ne (tgt := 793) hx hb dL_holds_704 (by decide) (fun c_14 => ?_) (fun c_14 => ?_)
                · exact absurd (many_e hG) c_14
                · refine lv_iload hx hb dL_holds_707 (lv_at hl 9 rfl) ?_
                  refine lv_aload_n hx hb dL_holds_709 rfl (lv_at hl 18 rfl) ?_
                  refine lv_iconst (v := 1) hx hb dL_holds_710 (by decide) ?_
                  obtain ⟨X_15, hO_16, hM9⟩ := o_count_1 (l := l) (D := D) hSR hO_13
                  refine lo_I (n := 1) (As := [.int 1]) (rest := [.int (dsF (S 0) 9)]) hx hb hml hown hts hK hN hM9 (OX.at0 hO_13) gL_holds_X4_count rfl (by decide +kernel) (by decide) dL_holds_711 rfl rfl (Nat.le_of_ble_eq_true rfl) hl.1 (Nat.le_of_ble_eq_true rfl) (Nat.le_of_ble_eq_true rfl) (Nat.le_of_ble_eq_true rfl) (Nat.le_of_ble_eq_true rfl) hP hD hS hA (fun H locs hP hD hS => ?_)
                  clear hM9
                  refine lv_icmp_ne (tgt := 793) hx hb dL_holds_714 (by decide) (fun c_17 => ?_) (fun c_17 => ?_)
                  · exact absurd (dsF_9 _) c_17
                  · refine lv_iload hx hb dL_holds_717 (lv_at hl 8 rfl) ?_
                    refine lv_aload_n hx hb dL_holds_719 rfl (lv_at hl 18 rfl) ?_
                    refine lv_iconst (v := 2) hx hb dL_holds_720 (by decide) ?_
                    obtain ⟨X_18, hO_19, hM9⟩ := o_count_2 (l := l) (D := D) hSR hO_16
                    refine lo_I (n := 1) (As := [.int 2]) (rest := [.int (dsF (S 4) 9)]) hx hb hml hown hts hK hN hM9 (OX.at0 hO_16) gL_holds_X4_count rfl (by decide +kernel) (by decide) dL_holds_721 rfl rfl (Nat.le_of_ble_eq_true rfl) hl.1 (Nat.le_of_ble_eq_true rfl) (Nat.le_of_ble_eq_true rfl) (Nat.le_of_ble_eq_true rfl) (Nat.le_of_ble_eq_true rfl) hP hD hS hA (fun H locs hP hD hS => ?_)
                    clear hM9
                    refine lv_icmp_ne (tgt := 793) hx hb dL_holds_724 (by decide) (fun c_20 => ?_) (fun c_20 => ?_)
                    · exact absurd (dsF_9 _) c_20
                    · refine lv_iload hx hb dL_holds_727 (lv_at hl 6 rfl) ?_
                      refine lv_aload_n hx hb dL_holds_729 rfl (lv_at hl 18 rfl) ?_
                      refine lv_iconst (v := 4) hx hb dL_holds_730 (by decide) ?_
                      obtain ⟨X_21, hO_22, hM9⟩ := o_count_4 (l := l) (D := D) hSR hO_19
                      refine lo_I (n := 1) (As := [.int 4]) (rest := [.int (wyF f 0 false (512 - 1))]) hx hb hml hown hts hK hN hM9 (OX.at0 hO_19) gL_holds_X4_count rfl (by decide +kernel) (by decide) dL_holds_731 rfl rfl (Nat.le_of_ble_eq_true rfl) hl.1 (Nat.le_of_ble_eq_true rfl) (Nat.le_of_ble_eq_true rfl) (Nat.le_of_ble_eq_true rfl) (Nat.le_of_ble_eq_true rfl) hP hD hS hA (fun H locs hP hD hS => ?_)
                      clear hM9
                      refine lv_icmp_ne (tgt := 793) hx hb dL_holds_734 (by decide) (fun c_23 => ?_) (fun c_23 => ?_)
                      · exact absurd (rfl) c_23
                      · refine lv_iload hx hb dL_holds_737 (lv_at hl 6 rfl) ?_
                        refine lv_aload_n hx hb dL_holds_739 rfl (lv_at hl 18 rfl) ?_
                        refine lv_iconst (v := 5) hx hb dL_holds_740 (by decide) ?_
                        obtain ⟨X_24, hO_25, hM9⟩ := o_count_5 (l := l) (D := D) hSR hO_22
                        refine lo_I (n := 1) (As := [.int 5]) (rest := [.int (wyF f 0 false (512 - 1))]) hx hb hml hown hts hK hN hM9 (OX.at0 hO_22) gL_holds_X4_count rfl (by decide +kernel) (by decide) dL_holds_741 rfl rfl (Nat.le_of_ble_eq_true rfl) hl.1 (Nat.le_of_ble_eq_true rfl) (Nat.le_of_ble_eq_true rfl) (Nat.le_of_ble_eq_true rfl) (Nat.le_of_ble_eq_true rfl) hP hD hS hA (fun H locs hP hD hS => ?_)
                        clear hM9
                        refine lv_icmp_ne (tgt := 793) hx hb dL_holds_744 (by decide) (fun c_26 => ?_) (fun c_26 => ?_)
                        · exact absurd c_23 c_26
                        · refine lv_iload hx hb dL_holds_747 (lv_at hl 5 rfl) ?_
                          refine lv_aload_n hx hb dL_holds_749 rfl (lv_at hl 18 rfl) ?_
                          refine lv_bipush (v := 6) hx hb dL_holds_750 (by decide) ?_
                          obtain ⟨X_27, hO_28, hM9⟩ := o_count_6 (l := l) (D := D) hSR hO_25
                          refine lo_I (n := 1) (As := [.int 6]) (rest := [.int (wyF f 0 true (512 - 1))]) hx hb hml hown hts hK hN hM9 (OX.at0 hO_25) gL_holds_X4_count rfl (by decide +kernel) (by decide) dL_holds_752 rfl rfl (Nat.le_of_ble_eq_true rfl) hl.1 (Nat.le_of_ble_eq_true rfl) (Nat.le_of_ble_eq_true rfl) (Nat.le_of_ble_eq_true rfl) (Nat.le_of_ble_eq_true rfl) hP hD hS hA (fun H locs hP hD hS => ?_)
                          clear hM9
                          refine lv_icmp_ne (tgt := 793) hx hb dL_holds_755 (by decide) (fun c_29 => ?_) (fun c_29 => ?_)
                          · exact absurd (rfl) c_29
                          · refine lv_iload hx hb dL_holds_758 (lv_at hl 4 rfl) ?_
                            refine lv_aload_n hx hb dL_holds_760 rfl (lv_at hl 18 rfl) ?_
                            refine lv_bipush (v := 7) hx hb dL_holds_761 (by decide) ?_
                            obtain ⟨X_30, hO_31, hM9⟩ := o_count_7 (l := l) (D := D) hSR hO_28
                            refine lo_I (n := 1) (As := [.int 7]) (rest := [.int (rwT f (512 - 1))]) hx hb hml hown hts hK hN hM9 (OX.at0 hO_28) gL_holds_X4_count rfl (by decide +kernel) (by decide) dL_holds_763 rfl rfl (Nat.le_of_ble_eq_true rfl) hl.1 (Nat.le_of_ble_eq_true rfl) (Nat.le_of_ble_eq_true rfl) (Nat.le_of_ble_eq_true rfl) (Nat.le_of_ble_eq_true rfl) hP hD hS hA (fun H locs hP hD hS => ?_)
                            clear hM9
                            refine lv_icmp_ne (tgt := 793) hx hb dL_holds_766 (by decide) (fun c_32 => ?_) (fun c_32 => ?_)
                            · exact absurd (rfl) c_32
                            · refine lv_iload hx hb dL_holds_769 (lv_at hl 4 rfl) ?_
                              refine lv_aload_n hx hb dL_holds_771 rfl (lv_at hl 18 rfl) ?_
                              refine lv_bipush (v := 8) hx hb dL_holds_772 (by decide) ?_
                              obtain ⟨X_33, hO_34, hM9⟩ := o_count_8 (l := l) (D := D) hSR hO_31
                              refine lo_I (n := 1) (As := [.int 8]) (rest := [.int (rwT f (512 - 1))]) hx hb hml hown hts hK hN hM9 (OX.at0 hO_31) gL_holds_X4_count rfl (by decide +kernel) (by decide) dL_holds_774 rfl rfl (Nat.le_of_ble_eq_true rfl) hl.1 (Nat.le_of_ble_eq_true rfl) (Nat.le_of_ble_eq_true rfl) (Nat.le_of_ble_eq_true rfl) (Nat.le_of_ble_eq_true rfl) hP hD hS hA (fun H locs hP hD hS => ?_)
                              clear hM9
                              refine lv_icmp_ne (tgt := 793) hx hb dL_holds_777 (by decide) (fun c_35 => ?_) (fun c_35 => ?_)
                              · exact absurd c_32 c_35
                              · refine lv_iload hx hb dL_holds_780 (lv_at hl 1 rfl) ?_
                                refine lv_aload_n hx hb dL_holds_782 rfl (lv_at hl 18 rfl) ?_
                                obtain ⟨X_36, hO_37, hM9⟩ := o_mainPiece (l := l) (D := D) hSR hO_34
                                refine lo_I (n := 0) (As := []) (rest := [.int (mdF (CO f) 9)]) hx hb hml hown hts hK hN hM9 (OX.at0 hO_34) gL_holds_X4_mainPiece rfl (by decide +kernel) (by decide) dL_holds_783 rfl rfl (Nat.le_of_ble_eq_true rfl) hl.1 (Nat.le_of_ble_eq_true rfl) (Nat.le_of_ble_eq_true rfl) (Nat.le_of_ble_eq_true rfl) (Nat.le_of_ble_eq_true rfl) hP hD hS hA (fun H locs hP hD hS => ?_)
                                clear hM9
                                refine lv_icmp_ne (tgt := 793) hx hb dL_holds_786 (by decide) (fun c_38 => ?_) (fun c_38 => ?_)
                                · exact absurd (main_eq hG) c_38
                                · refine lv_iconst (v := 1) hx hb dL_holds_789 (by decide) ?_
                                  refine lv_goto (tgt := 794) hx hb dL_holds_790 (by decide) ?_
                                  refine lv_istore (lv' := [(11, .int 1), (18, .int (nI (9 - 9) + (-1 : Int32))), (17, .int (mdF (CO f) 9)), (16, .int ((bsF f S (512 - 1)).2)), (15, .int ((bsF f S (512 - 1)).1)), (14, .int (rwT f (512 - 1))), (13, .int (wyF f 0 true (512 - 1))), (12, .int (wyF f 0 false (512 - 1))), (10, .int (dsF (S 4) 9)), (9, .int (dsF (S 0) 9)), (8, .int (dsF (mnS S) 9)), (7, .ref n_7), (6, .ref n_6), (5, .ref n_5), (4, .ref n_4), (3, .ref n_3), (2, .ref n_2), (1, .ref n_1), (0, .ref x0)]) hx hb dL_holds_794 hl (by decide) rfl (fun ls hl => ?_)
                                  refine lv_iload hx hb dL_holds_796 (lv_at hl 0 rfl) ?_
                                  refine lv_if_eq (tgt := 870) hx hb dL_holds_798 (by decide) (fun c_39 => ?_) (fun c_39 => ?_)
                                  · exact absurd c_39 (by decide)
                                  · refine lv_aload_n hx hb dL_holds_801 rfl (lv_at hl 18 rfl) ?_
                                    refine lv_iconst (v := 0) hx hb dL_holds_802 (by decide) ?_
                                    obtain ⟨X_40, hO_41, hM9⟩ := o_heaviest_0 (l := l) (D := D) hSR hO_37
                                    refine lo_I (n := 1) (As := [.int 0]) (rest := []) hx hb hml hown hts hK hN hM9 (OX.at0 hO_37) gL_holds_X4_heaviest rfl (by decide +kernel) (by decide) dL_holds_803 rfl rfl (Nat.le_of_ble_eq_true rfl) hl.1 (Nat.le_of_ble_eq_true rfl) (Nat.le_of_ble_eq_true rfl) (Nat.le_of_ble_eq_true rfl) (Nat.le_of_ble_eq_true rfl) hP hD hS hA (fun H locs hP hD hS => ?_)
                                    clear hM9
                                    refine lv_iload hx hb dL_holds_806 (lv_at hl 4 rfl) ?_
                                    refine lv_if_ne (tgt := 815) hx hb dL_holds_808 (by decide) (fun c_42 => ?_) (fun c_42 => ?_)
                                    · obtain ⟨hz1, hz2⟩ := (best2 hSR).2 c_42
                                      refine lv_iload hx hb dL_holds_815 (lv_at hl 3 rfl) ?_
                                      refine lv_icmp_ne (tgt := 870) hx hb dL_holds_817 (by decide) (fun c_43 => ?_) (fun c_43 => ?_)
                                      · exact absurd (hz1) c_43
                                      · refine lv_aload_n hx hb dL_holds_820 rfl (lv_at hl 18 rfl) ?_
                                        refine lv_iconst (v := 1) hx hb dL_holds_821 (by decide) ?_
                                        obtain ⟨X_44, hO_45, hM9⟩ := o_heaviest_1 (l := l) (D := D) hSR hO_41
                                        refine lo_I (n := 1) (As := [.int 1]) (rest := []) hx hb hml hown hts hK hN hM9 (OX.at0 hO_41) gL_holds_X4_heaviest rfl (by decide +kernel) (by decide) dL_holds_822 rfl rfl (Nat.le_of_ble_eq_true rfl) hl.1 (Nat.le_of_ble_eq_true rfl) (Nat.le_of_ble_eq_true rfl) (Nat.le_of_ble_eq_true rfl) (Nat.le_of_ble_eq_true rfl) hP hD hS hA (fun H locs hP hD hS => ?_)
                                        clear hM9
                                        refine lv_iload hx hb dL_holds_825 (lv_at hl 4 rfl) ?_
                                        refine lv_if_ne (tgt := 834) hx hb dL_holds_827 (by decide) (fun c_46 => ?_) (fun c_46 => ?_)
                                        · refine lv_iload hx hb dL_holds_834 (lv_at hl 4 rfl) ?_
                                          refine lv_icmp_ne (tgt := 870) hx hb dL_holds_836 (by decide) (fun c_47 => ?_) (fun c_47 => ?_)
                                          · exact absurd (hz2) c_47
                                          · refine lv_aload_n hx hb dL_holds_839 rfl (lv_at hl 18 rfl) ?_
                                            obtain ⟨X_48, hO_49, hM9⟩ := o_explained (l := l) (D := D) hSR hO_45
                                            refine lo_D (n := 0) (As := []) (rest := []) hx hb hml hown hts hK hN hM9 (OX.at0 hO_45) gL_holds_X4_explained rfl (by decide +kernel) (by decide) dL_holds_840 rfl rfl (Nat.le_of_ble_eq_true rfl) hl.1 (Nat.le_of_ble_eq_true rfl) (Nat.le_of_ble_eq_true rfl) (Nat.le_of_ble_eq_true rfl) (Nat.le_of_ble_eq_true rfl) hP hD hS hA (fun H locs hP hD hS => ?_)
                                            clear hM9
                                            refine lv_iload hx hb dL_holds_843 (lv_at hl 9 rfl) ?_
                                            refine lv_if_ne (tgt := 852) hx hb dL_holds_845 (by decide) (fun c_50 => ?_) (fun c_50 => ?_)
                                            · have hcv := c_50
                                              refine lv_iload hx hb dL_holds_852 (lv_at hl 9 rfl) ?_
                                              refine lv_iload hx hb dL_holds_854 (lv_at hl 8 rfl) ?_
                                              refine lv_isub hx hb dL_holds_856 ?_
                                              refine lv_i2d hx hb dL_holds_857 ?_
                                              refine lv_iload hx hb dL_holds_858 (lv_at hl 9 rfl) ?_
                                              refine lv_i2d hx hb dL_holds_860 ?_
                                              refine lv_ddiv hx hb dL_holds_861 (by rw [dsF_9, dsF_9]; rw [dsF_9] at hcv; exact (expl_eq hSR).1 hcv) ?_
                                              refine lv_dcmp hx hb dL_holds_862 ?_
                                              refine lv_if_ne (tgt := 870) hx hb dL_holds_863 (by decide) (fun c_51 => ?_) (fun c_51 => ?_)
                                              · exact absurd (ex_1 hSR hcv) c_51
                                              · refine lv_iconst (v := 1) hx hb dL_holds_866 (by decide) ?_
                                                refine lv_goto (tgt := 871) hx hb dL_holds_867 (by decide) ?_
                                                refine lv_istore (lv' := [(11, .int 1), (18, .int (nI (9 - 9) + (-1 : Int32))), (17, .int (mdF (CO f) 9)), (16, .int ((bsF f S (512 - 1)).2)), (15, .int ((bsF f S (512 - 1)).1)), (14, .int (rwT f (512 - 1))), (13, .int (wyF f 0 true (512 - 1))), (12, .int (wyF f 0 false (512 - 1))), (10, .int (dsF (S 4) 9)), (9, .int (dsF (S 0) 9)), (8, .int (dsF (mnS S) 9)), (7, .ref n_7), (6, .ref n_6), (5, .ref n_5), (4, .ref n_4), (3, .ref n_3), (2, .ref n_2), (1, .ref n_1), (0, .ref x0)]) hx hb dL_holds_871 hl (by decide) rfl (fun ls hl => ?_)
                                                have hol := oL_511 f
                                                rw [show wyF f 0 true (512 - 1) = nI (oL f).length from open_n hG] at hl
                                                have hl : lv_has ls 22 [(11, .int 1), (18, .int (nI (9 - 9) + (-1 : Int32))), (17, .int (mdF (CO f) 9)), (16, .int ((bsF f S (512 - 1)).2)), (15, .int ((bsF f S (512 - 1)).1)), (14, .int (rwT f (512 - 1))), (13, .int (nI ((oL f).length))), (12, .int (wyF f 0 false (512 - 1))), (10, .int (dsF (S 4) 9)), (9, .int (dsF (S 0) 9)), (8, .int (dsF (mnS S) 9)), (7, .ref n_7), (6, .ref n_6), (5, .ref n_5), (4, .ref n_4), (3, .ref n_3), (2, .ref n_2), (1, .ref n_1), (0, .ref x0)] := hl
                                                refine lv_iconst (v := 0) hx hb dL_holds_873 (by decide) ?_
                                                refine lv_istore (lv' := [(18, .int 0), (11, .int 1), (17, .int (mdF (CO f) 9)), (16, .int ((bsF f S (512 - 1)).2)), (15, .int ((bsF f S (512 - 1)).1)), (14, .int (rwT f (512 - 1))), (13, .int (nI ((oL f).length))), (12, .int (wyF f 0 false (512 - 1))), (10, .int (dsF (S 4) 9)), (9, .int (dsF (S 0) 9)), (8, .int (dsF (mnS S) 9)), (7, .ref n_7), (6, .ref n_6), (5, .ref n_5), (4, .ref n_4), (3, .ref n_3), (2, .ref n_2), (1, .ref n_1), (0, .ref x0)]) hx hb dL_holds_874 hl (by decide) rfl (fun ls hl => ?_)
                                                suffices LOOP_r : ∀ (fu_r r : Nat) (Xf : va_W), 40 - r < fu_r → r ≤ 40 → (OX k x0 ns S Z Y0 k0 Xf) → ∀ (H : Heap) (locs : List Loc) (ls : Array Slot), va_P D vwCl ([(n_7, .inl (k 0, 9, .inl (inW f true (512 - 1)))), (n_6, .inl (k 0, 9, .inl (inW f false (512 - 1)))), (n_5, .inl (k 0, 9, .inl (bhG (S 2)))), (n_4, .inl (k 0, 9, .inl (S 4))), (n_3, .inl (k 0, 9, .inl (S 3))), (n_2, .inl (k 0, 9, .inl (S 1))), (n_1, .inl (k 0, 9, .inl (S 2)))] ++ (Xf)) H → va_D A ([(n_7, .inl (k 0, 9, .inl (inW f true (512 - 1)))), (n_6, .inl (k 0, 9, .inl (inW f false (512 - 1)))), (n_5, .inl (k 0, 9, .inl (bhG (S 2)))), (n_4, .inl (k 0, 9, .inl (S 4))), (n_3, .inl (k 0, 9, .inl (S 3))), (n_2, .inl (k 0, 9, .inl (S 1))), (n_1, .inl (k 0, 9, .inl (S 2)))] ++ (Xf)) → va_S A s.heap H locs → lv_has ls 22 [(18, .int (nI r)), (11, .int 1), (17, .int (mdF (CO f) 9)), (16, .int ((bsF f S (512 - 1)).2)), (15, .int ((bsF f S (512 - 1)).1)), (14, .int (rwT f (512 - 1))), (13, .int (nI ((oL f).length))), (12, .int (wyF f 0 false (512 - 1))), (10, .int (dsF (S 4) 9)), (9, .int (dsF (S 0) 9)), (8, .int (dsF (mnS S) 9)), (7, .ref n_7), (6, .ref n_6), (5, .ref n_5), (4, .ref n_4), (3, .ref n_3), (2, .ref n_2), (1, .ref n_1), (0, .ref x0)] → W p l e ({ frames := 31, cells := 7, slots := 63, locals := 839 } : Room) s m ([.ref x0] : List Value).toArray below meth c H locs 7 63 Q (F0 m 876 ls []) from LOOP_r (40 + 1) 0 X_48 (by omega) (by omega)  (hO_49) _ _ _ hP hD hS (lv_sub hl [0, 1, 2, 3, 4, 5, 6, 7, 8, 9, 10, 11, 12, 13, 14, 15, 16, 17, 18] rfl)
                                                clear hP hD hS hl
                                                intro fu_r
                                                induction fu_r with
                                                | zero => intro r Xf hn_r; omega
                                                | succ fu_r ih_r =>
                                                  intro r Xf hn_r hle_r  hOf H locs ls hP hD hS hl
                                                  refine lv_iload hx hb dL_holds_876 (lv_at hl 0 rfl) ?_
                                                  refine lv_iload hx hb dL_holds_878 (lv_at hl 6 rfl) ?_
                                                  refine lv_icmp_ge (tgt := 949) hx hb dL_holds_880 (by decide) (fun c_52 => ?_) (fun c_52 => ?_)
                                                  · have c_52 : (oL f).length ≤ r := (nI_leI (a := (oL f).length) (b := r) (by omega) (by omega)).mp c_52
                                                    refine lv_iconst (v := 0) hx hb dL_holds_949 (by decide) ?_
                                                    refine lv_istore (lv' := [(18, .int 0), (11, .int 1), (17, .int (mdF (CO f) 9)), (16, .int ((bsF f S (512 - 1)).2)), (15, .int ((bsF f S (512 - 1)).1)), (14, .int (rwT f (512 - 1))), (13, .int (nI ((oL f).length))), (12, .int (wyF f 0 false (512 - 1))), (10, .int (dsF (S 4) 9)), (9, .int (dsF (S 0) 9)), (8, .int (dsF (mnS S) 9)), (7, .ref n_7), (6, .ref n_6), (5, .ref n_5), (4, .ref n_4), (3, .ref n_3), (2, .ref n_2), (1, .ref n_1), (0, .ref x0)]) hx hb dL_holds_950 hl (by decide) rfl (fun ls hl => ?_)
                                                    refine lv_iconst (v := 0) hx hb dL_holds_952 (by decide) ?_
                                                    refine lv_istore (lv' := [(19, .int 0), (18, .int 0), (11, .int 1), (17, .int (mdF (CO f) 9)), (16, .int ((bsF f S (512 - 1)).2)), (15, .int ((bsF f S (512 - 1)).1)), (14, .int (rwT f (512 - 1))), (13, .int (nI ((oL f).length))), (12, .int (wyF f 0 false (512 - 1))), (10, .int (dsF (S 4) 9)), (9, .int (dsF (S 0) 9)), (8, .int (dsF (mnS S) 9)), (7, .ref n_7), (6, .ref n_6), (5, .ref n_5), (4, .ref n_4), (3, .ref n_3), (2, .ref n_2), (1, .ref n_1), (0, .ref x0)]) hx hb dL_holds_953 hl (by decide) rfl (fun ls hl => ?_)
                                                    suffices LOOP_w : ∀ (fu_w w : Nat) (v18 : Int32) (Xg : va_W), nw - w < fu_w → w ≤ nw → v18 = exF S w → (OX k x0 ns S Z Y0 k0 Xg) → ∀ (H : Heap) (locs : List Loc) (ls : Array Slot), va_P D vwCl ([(n_7, .inl (k 0, 9, .inl (inW f true (512 - 1)))), (n_6, .inl (k 0, 9, .inl (inW f false (512 - 1)))), (n_5, .inl (k 0, 9, .inl (bhG (S 2)))), (n_4, .inl (k 0, 9, .inl (S 4))), (n_3, .inl (k 0, 9, .inl (S 3))), (n_2, .inl (k 0, 9, .inl (S 1))), (n_1, .inl (k 0, 9, .inl (S 2)))] ++ (Xg)) H → va_D A ([(n_7, .inl (k 0, 9, .inl (inW f true (512 - 1)))), (n_6, .inl (k 0, 9, .inl (inW f false (512 - 1)))), (n_5, .inl (k 0, 9, .inl (bhG (S 2)))), (n_4, .inl (k 0, 9, .inl (S 4))), (n_3, .inl (k 0, 9, .inl (S 3))), (n_2, .inl (k 0, 9, .inl (S 1))), (n_1, .inl (k 0, 9, .inl (S 2)))] ++ (Xg)) → va_S A s.heap H locs → lv_has ls 22 [(19, .int (nI w)), (18, .int v18), (11, .int 1), (17, .int (mdF (CO f) 9)), (16, .int ((bsF f S (512 - 1)).2)), (15, .int ((bsF f S (512 - 1)).1)), (14, .int (rwT f (512 - 1))), (13, .int (nI ((oL f).length))), (12, .int (wyF f 0 false (512 - 1))), (10, .int (dsF (S 4) 9)), (9, .int (dsF (S 0) 9)), (8, .int (dsF (mnS S) 9)), (7, .ref n_7), (6, .ref n_6), (5, .ref n_5), (4, .ref n_4), (3, .ref n_3), (2, .ref n_2), (1, .ref n_1), (0, .ref x0)] → W p l e ({ frames := 31, cells := 7, slots := 63, locals := 839 } : Room) s m ([.ref x0] : List Value).toArray below meth c H locs 7 63 Q (F0 m 955 ls []) from LOOP_w (nw + 1) 0 0 Xf (by omega) (by omega) (rfl) (hOf) _ _ _ hP hD hS (lv_sub hl [0, 1, 2, 3, 4, 5, 6, 7, 8, 9, 10, 11, 12, 13, 14, 15, 16, 17, 18, 19] rfl)
                                                    clear hP hD hS hl
                                                    intro fu_w
                                                    induction fu_w with
                                                    | zero => intro w v18 Xg hn_w; omega
                                                    | succ fu_w ih_w =>
                                                      intro w v18 Xg hn_w hle_w e_v18 hOg H locs ls hP hD hS hl
                                                      subst e_v18
                                                      refine lv_iload hx hb dL_holds_955 (lv_at hl 0 rfl) ?_
                                                      refine lv_aload_n hx hb dL_holds_957 rfl (lv_at hl 19 rfl) ?_
                                                      refine lv_iconst (v := 3) hx hb dL_holds_958 (by decide) ?_
                                                      obtain ⟨X_53, hO_54, hM9⟩ := o_count_3 (l := l) (D := D) hSR hOg
                                                      refine lo_I (n := 1) (As := [.int 3]) (rest := [.int (nI w)]) hx hb hml hown hts hK hN hM9 (OX.at0 hOg) gL_holds_X4_count rfl (by decide +kernel) (by decide) dL_holds_959 rfl rfl (Nat.le_of_ble_eq_true rfl) hl.1 (Nat.le_of_ble_eq_true rfl) (Nat.le_of_ble_eq_true rfl) (Nat.le_of_ble_eq_true rfl) (Nat.le_of_ble_eq_true rfl) hP hD hS hA (fun H locs hP hD hS => ?_)
                                                      clear hM9
                                                      refine tp_e (y := (nI nw)) hn ?_
                                                      refine lv_icmp_ge (tgt := 991) hx hb dL_holds_962 (by decide) (fun c_55 => ?_) (fun c_55 => ?_)
                                                      · have c_55 : nw ≤ w := (nI_leI (a := nw) (b := w) (by omega) (by omega)).mp c_55
                                                        have hz_w : nw = w := by omega
                                                        subst hz_w
                                                        refine lv_iload hx hb dL_holds_991 (lv_at hl 2 rfl) ?_
                                                        refine lv_if_eq (tgt := 1029) hx hb dL_holds_993 (by decide) (fun c_56 => ?_) (fun c_56 => ?_)
                                                        · exact absurd c_56 (by decide)
                                                        · refine lv_aload_n hx hb dL_holds_996 rfl (lv_at hl 19 rfl) ?_
                                                          refine lv_iload hx hb dL_holds_997 (lv_at hl 7 rfl) ?_
                                                          obtain ⟨X_57, hO_58, hM9⟩ := o_openWay (l := l) (D := D) hSR hO_54 (r := ((oL f).length)) (by omega)
                                                          refine lo_I (n := 1) (As := [.int (nI ((oL f).length))]) (rest := []) hx hb hml hown hts hK hN hM9 (OX.at0 hO_54) gL_holds_X4_openWay rfl (by decide +kernel) (by decide) dL_holds_999 rfl rfl (Nat.le_of_ble_eq_true rfl) hl.1 (Nat.le_of_ble_eq_true rfl) (Nat.le_of_ble_eq_true rfl) (Nat.le_of_ble_eq_true rfl) (Nat.le_of_ble_eq_true rfl) hP hD hS hA (fun H locs hP hD hS => ?_)
                                                          clear hM9
                                                          refine lv_iconst (v := (-1)) hx hb dL_holds_1002 (by decide) ?_
                                                          refine lv_icmp_ne (tgt := 1029) hx hb dL_holds_1003 (by decide) (fun c_59 => ?_) (fun c_59 => ?_)
                                                          · exact absurd (dif_len f) c_59
                                                          · refine lv_iload hx hb dL_holds_1006 (lv_at hl 1 rfl) ?_
                                                            refine lv_iload hx hb dL_holds_1008 (lv_at hl 10 rfl) ?_
                                                            refine lv_iload hx hb dL_holds_1010 (lv_at hl 9 rfl) ?_
                                                            refine lv_isub hx hb dL_holds_1012 ?_
                                                            refine lv_icmp_ne (tgt := 1029) hx hb dL_holds_1013 (by decide) (fun c_60 => ?_) (fun c_60 => ?_)
                                                            · exact absurd (by rw [dsF_9, dsF_9]; exact hEX nw hn2 hn) c_60
                                                            · refine lv_aload_n hx hb dL_holds_1016 rfl (lv_at hl 19 rfl) ?_
                                                              obtain ⟨X_61, hO_62, hM9⟩ := o_ifSplit (l := l) (D := D) hSR hO_58 (nw := nw) hn hn2
                                                              refine lo_I (n := 0) (As := []) (rest := []) hx hb hml hown hts hK hN hM9 (OX.at0 hO_58) gL_holds_X4_ifSplit rfl (by decide +kernel) (by decide) dL_holds_1017 rfl rfl (Nat.le_of_ble_eq_true rfl) hl.1 (Nat.le_of_ble_eq_true rfl) (Nat.le_of_ble_eq_true rfl) (Nat.le_of_ble_eq_true rfl) (Nat.le_of_ble_eq_true rfl) hP hD hS hA (fun H locs hP hD hS => ?_)
                                                              clear hM9
                                                              refine lv_topi (fun sv esv => ?_)
                                                              have hsv : sv ≤ dsF (S 4) 9 := by rw [dsF_9, esv]; exact hsl
                                                              clear esv
                                                              refine lv_iload hx hb dL_holds_1020 (lv_at hl 9 rfl) ?_
                                                              refine lv_icmp_gt (tgt := 1029) hx hb dL_holds_1022 (by decide) (fun c_63 => ?_) (fun c_63 => ?_)
                                                              · exact absurd c_63 (Int32.not_lt.mpr hsv)
                                                              · refine lv_iconst (v := 1) hx hb dL_holds_1025 (by decide) ?_
                                                                refine lv_goto (tgt := 1030) hx hb dL_holds_1026 (by decide) ?_
                                                                exact rt_zq (X' := X_61) hQ rfl rfl hx hb hr hlocks hS dL_holds_1030 (va_PR hP) (va_DR hD) rfl (⟨rfl, hO_62⟩)
                                                      · have c_55 : ¬ (nw ≤ w) := fun h9 => c_55 ((nI_leI (a := nw) (b := w) (by omega) (by omega)).mpr h9)
                                                        refine lv_iload hx hb dL_holds_965 (lv_at hl 1 rfl) ?_
                                                        refine lv_aload_n hx hb dL_holds_967 rfl (lv_at hl 19 rfl) ?_
                                                        refine lv_iload hx hb dL_holds_968 (lv_at hl 0 rfl) ?_
                                                        refine lv_iconst (v := 0) hx hb dL_holds_970 (by decide) ?_
                                                        obtain ⟨X_64, hO_65, hM9⟩ := o_noted_0 (l := l) (D := D) hSR hO_54 (r := w) (nw := nw) (by omega) hn hn2
                                                        refine lo_I (n := 2) (As := [.int (nI w), .int 0]) (rest := [.int (exF S w)]) hx hb hml hown hts hK hN hM9 (OX.at0 hO_54) gL_holds_X4_noted rfl (by decide +kernel) (by decide) dL_holds_971 rfl rfl (Nat.le_of_ble_eq_true rfl) hl.1 (Nat.le_of_ble_eq_true rfl) (Nat.le_of_ble_eq_true rfl) (Nat.le_of_ble_eq_true rfl) (Nat.le_of_ble_eq_true rfl) hP hD hS hA (fun H locs hP hD hS => ?_)
                                                        clear hM9
                                                        refine tp_e (y := (S 5 w)) (if_neg (show ¬ nw ≤ w from by omega)) ?_
                                                        refine lv_aload_n hx hb dL_holds_974 rfl (lv_at hl 19 rfl) ?_
                                                        refine lv_iload hx hb dL_holds_975 (lv_at hl 0 rfl) ?_
                                                        refine lv_iconst (v := 2) hx hb dL_holds_977 (by decide) ?_
                                                        obtain ⟨X_66, hO_67, hM9⟩ := o_noted_2 (l := l) (D := D) hSR hO_65 (r := w) (nw := nw) (by omega) hn hn2
                                                        refine lo_I (n := 2) (As := [.int (nI w), .int 2]) (rest := [.int (S 5 w), .int (exF S w)]) hx hb hml hown hts hK hN hM9 (OX.at0 hO_65) gL_holds_X4_noted rfl (by decide +kernel) (by decide) dL_holds_978 rfl rfl (Nat.le_of_ble_eq_true rfl) hl.1 (Nat.le_of_ble_eq_true rfl) (Nat.le_of_ble_eq_true rfl) (Nat.le_of_ble_eq_true rfl) (Nat.le_of_ble_eq_true rfl) hP hD hS hA (fun H locs hP hD hS => ?_)
                                                        clear hM9
                                                        refine tp_e (y := (bcF (S 6 w))) (if_neg (show ¬ nw ≤ w from by omega)) ?_
                                                        refine lv_imul hx hb dL_holds_981 ?_
                                                        refine lv_iadd hx hb dL_holds_982 ?_
                                                        refine lv_istore (lv' := [(18, .int ((exF S w) + ((S 5 w) * (bcF (S 6 w))))), (19, .int (nI w)), (11, .int 1), (17, .int (mdF (CO f) 9)), (16, .int ((bsF f S (512 - 1)).2)), (15, .int ((bsF f S (512 - 1)).1)), (14, .int (rwT f (512 - 1))), (13, .int (nI ((oL f).length))), (12, .int (wyF f 0 false (512 - 1))), (10, .int (dsF (S 4) 9)), (9, .int (dsF (S 0) 9)), (8, .int (dsF (mnS S) 9)), (7, .ref n_7), (6, .ref n_6), (5, .ref n_5), (4, .ref n_4), (3, .ref n_3), (2, .ref n_2), (1, .ref n_1), (0, .ref x0)]) hx hb dL_holds_983 hl (by decide) rfl (fun ls hl => ?_)
                                                        refine lv_iinc (v := (nI (w + 1))) (lv' := [(19, .int (nI (w + 1))), (18, .int ((exF S w) + ((S 5 w) * (bcF (S 6 w))))), (11, .int 1), (17, .int (mdF (CO f) 9)), (16, .int ((bsF f S (512 - 1)).2)), (15, .int ((bsF f S (512 - 1)).1)), (14, .int (rwT f (512 - 1))), (13, .int (nI ((oL f).length))), (12, .int (wyF f 0 false (512 - 1))), (10, .int (dsF (S 4) 9)), (9, .int (dsF (S 0) 9)), (8, .int (dsF (mnS S) 9)), (7, .ref n_7), (6, .ref n_6), (5, .ref n_5), (4, .ref n_4), (3, .ref n_3), (2, .ref n_2), (1, .ref n_1), (0, .ref x0)]) hx hb dL_holds_985 hl (k := 1) rfl (nI_1 w) (by decide) rfl (fun ls hl => ?_)
                                                        refine lv_goto (tgt := 955) hx hb dL_holds_988 (by decide) ?_
                                                        exact ih_w (w + 1) ((exF S w) + ((S 5 w) * (bcF (S 6 w)))) X_66 (by omega) (by omega) (rfl) (hO_67) _ _ _ hP hD hS (lv_sub hl [0, 1, 2, 3, 4, 5, 6, 7, 8, 9, 10, 11, 12, 13, 14, 15, 16, 17, 18, 19] rfl)
                                                  · have c_52 : ¬ ((oL f).length ≤ r) := fun h9 => c_52 ((nI_leI (a := (oL f).length) (b := r) (by omega) (by omega)).mpr h9)
                                                    refine lv_iload hx hb dL_holds_883 (lv_at hl 0 rfl) ?_
                                                    refine lv_bipush (v := 40) hx hb dL_holds_885 (by decide) ?_
                                                    refine lv_icmp_ge (tgt := 949) hx hb dL_holds_887 (by decide) (fun c_68 => ?_) (fun c_68 => ?_)
                                                    · have c_68 : 40 ≤ r := (nI_leI (a := 40) (b := r) (by omega) (by omega)).mp c_68
                                                      have hz_r : 40 = r := by omega
                                                      subst hz_r
                                                      refine lv_iconst (v := 0) hx hb dL_holds_949 (by decide) ?_
                                                      refine lv_istore (lv' := [(18, .int 0), (11, .int 1), (17, .int (mdF (CO f) 9)), (16, .int ((bsF f S (512 - 1)).2)), (15, .int ((bsF f S (512 - 1)).1)), (14, .int (rwT f (512 - 1))), (13, .int (nI ((oL f).length))), (12, .int (wyF f 0 false (512 - 1))), (10, .int (dsF (S 4) 9)), (9, .int (dsF (S 0) 9)), (8, .int (dsF (mnS S) 9)), (7, .ref n_7), (6, .ref n_6), (5, .ref n_5), (4, .ref n_4), (3, .ref n_3), (2, .ref n_2), (1, .ref n_1), (0, .ref x0)]) hx hb dL_holds_950 hl (by decide) rfl (fun ls hl => ?_)
                                                      refine lv_iconst (v := 0) hx hb dL_holds_952 (by decide) ?_
                                                      refine lv_istore (lv' := [(19, .int 0), (18, .int 0), (11, .int 1), (17, .int (mdF (CO f) 9)), (16, .int ((bsF f S (512 - 1)).2)), (15, .int ((bsF f S (512 - 1)).1)), (14, .int (rwT f (512 - 1))), (13, .int (nI ((oL f).length))), (12, .int (wyF f 0 false (512 - 1))), (10, .int (dsF (S 4) 9)), (9, .int (dsF (S 0) 9)), (8, .int (dsF (mnS S) 9)), (7, .ref n_7), (6, .ref n_6), (5, .ref n_5), (4, .ref n_4), (3, .ref n_3), (2, .ref n_2), (1, .ref n_1), (0, .ref x0)]) hx hb dL_holds_953 hl (by decide) rfl (fun ls hl => ?_)
                                                      suffices LOOP_w : ∀ (fu_w w : Nat) (v18 : Int32) (Xg : va_W), nw - w < fu_w → w ≤ nw → v18 = exF S w → (OX k x0 ns S Z Y0 k0 Xg) → ∀ (H : Heap) (locs : List Loc) (ls : Array Slot), va_P D vwCl ([(n_7, .inl (k 0, 9, .inl (inW f true (512 - 1)))), (n_6, .inl (k 0, 9, .inl (inW f false (512 - 1)))), (n_5, .inl (k 0, 9, .inl (bhG (S 2)))), (n_4, .inl (k 0, 9, .inl (S 4))), (n_3, .inl (k 0, 9, .inl (S 3))), (n_2, .inl (k 0, 9, .inl (S 1))), (n_1, .inl (k 0, 9, .inl (S 2)))] ++ (Xg)) H → va_D A ([(n_7, .inl (k 0, 9, .inl (inW f true (512 - 1)))), (n_6, .inl (k 0, 9, .inl (inW f false (512 - 1)))), (n_5, .inl (k 0, 9, .inl (bhG (S 2)))), (n_4, .inl (k 0, 9, .inl (S 4))), (n_3, .inl (k 0, 9, .inl (S 3))), (n_2, .inl (k 0, 9, .inl (S 1))), (n_1, .inl (k 0, 9, .inl (S 2)))] ++ (Xg)) → va_S A s.heap H locs → lv_has ls 22 [(19, .int (nI w)), (18, .int v18), (11, .int 1), (17, .int (mdF (CO f) 9)), (16, .int ((bsF f S (512 - 1)).2)), (15, .int ((bsF f S (512 - 1)).1)), (14, .int (rwT f (512 - 1))), (13, .int (nI ((oL f).length))), (12, .int (wyF f 0 false (512 - 1))), (10, .int (dsF (S 4) 9)), (9, .int (dsF (S 0) 9)), (8, .int (dsF (mnS S) 9)), (7, .ref n_7), (6, .ref n_6), (5, .ref n_5), (4, .ref n_4), (3, .ref n_3), (2, .ref n_2), (1, .ref n_1), (0, .ref x0)] → W p l e ({ frames := 31, cells := 7, slots := 63, locals := 839 } : Room) s m ([.ref x0] : List Value).toArray below meth c H locs 7 63 Q (F0 m 955 ls []) from LOOP_w (nw + 1) 0 0 Xf (by omega) (by omega) (rfl) (hOf) _ _ _ hP hD hS (lv_sub hl [0, 1, 2, 3, 4, 5, 6, 7, 8, 9, 10, 11, 12, 13, 14, 15, 16, 17, 18, 19] rfl)
                                                      clear hP hD hS hl
                                                      intro fu_w
                                                      induction fu_w with
                                                      | zero => intro w v18 Xg hn_w; omega
                                                      | succ fu_w ih_w =>
                                                        intro w v18 Xg hn_w hle_w e_v18 hOg H locs ls hP hD hS hl
                                                        subst e_v18
                                                        refine lv_iload hx hb dL_holds_955 (lv_at hl 0 rfl) ?_
                                                        refine lv_aload_n hx hb dL_holds_957 rfl (lv_at hl 19 rfl) ?_
                                                        refine lv_iconst (v := 3) hx hb dL_holds_958 (by decide) ?_
                                                        obtain ⟨X_69, hO_70, hM9⟩ := o_count_3 (l := l) (D := D) hSR hOg
                                                        refine lo_I (n := 1) (As := [.int 3]) (rest := [.int (nI w)]) hx hb hml hown hts hK hN hM9 (OX.at0 hOg) gL_holds_X4_count rfl (by decide +kernel) (by decide) dL_holds_959 rfl rfl (Nat.le_of_ble_eq_true rfl) hl.1 (Nat.le_of_ble_eq_true rfl) (Nat.le_of_ble_eq_true rfl) (Nat.le_of_ble_eq_true rfl) (Nat.le_of_ble_eq_true rfl) hP hD hS hA (fun H locs hP hD hS => ?_)
                                                        clear hM9
                                                        refine tp_e (y := (nI nw)) hn ?_
                                                        refine lv_icmp_ge (tgt := 991) hx hb dL_holds_962 (by decide) (fun c_71 => ?_) (fun c_71 => ?_)
                                                        · have c_71 : nw ≤ w := (nI_leI (a := nw) (b := w) (by omega) (by omega)).mp c_71
                                                          have hz_w : nw = w := by omega
                                                          subst hz_w
                                                          refine lv_iload hx hb dL_holds_991 (lv_at hl 2 rfl) ?_
                                                          refine lv_if_eq (tgt := 1029) hx hb dL_holds_993 (by decide) (fun c_72 => ?_) (fun c_72 => ?_)
                                                          · exact absurd c_72 (by decide)
                                                          · refine lv_aload_n hx hb dL_holds_996 rfl (lv_at hl 19 rfl) ?_
                                                            refine lv_iload hx hb dL_holds_997 (lv_at hl 7 rfl) ?_
                                                            obtain ⟨X_73, hO_74, hM9⟩ := o_openWay (l := l) (D := D) hSR hO_70 (r := ((oL f).length)) (by omega)
                                                            refine lo_I (n := 1) (As := [.int (nI ((oL f).length))]) (rest := []) hx hb hml hown hts hK hN hM9 (OX.at0 hO_70) gL_holds_X4_openWay rfl (by decide +kernel) (by decide) dL_holds_999 rfl rfl (Nat.le_of_ble_eq_true rfl) hl.1 (Nat.le_of_ble_eq_true rfl) (Nat.le_of_ble_eq_true rfl) (Nat.le_of_ble_eq_true rfl) (Nat.le_of_ble_eq_true rfl) hP hD hS hA (fun H locs hP hD hS => ?_)
                                                            clear hM9
                                                            refine lv_iconst (v := (-1)) hx hb dL_holds_1002 (by decide) ?_
                                                            refine lv_icmp_ne (tgt := 1029) hx hb dL_holds_1003 (by decide) (fun c_75 => ?_) (fun c_75 => ?_)
                                                            · exact absurd (dif_len f) c_75
                                                            · refine lv_iload hx hb dL_holds_1006 (lv_at hl 1 rfl) ?_
                                                              refine lv_iload hx hb dL_holds_1008 (lv_at hl 10 rfl) ?_
                                                              refine lv_iload hx hb dL_holds_1010 (lv_at hl 9 rfl) ?_
                                                              refine lv_isub hx hb dL_holds_1012 ?_
                                                              refine lv_icmp_ne (tgt := 1029) hx hb dL_holds_1013 (by decide) (fun c_76 => ?_) (fun c_76 => ?_)
                                                              · exact absurd (by rw [dsF_9, dsF_9]; exact hEX nw hn2 hn) c_76
                                                              · refine lv_aload_n hx hb dL_holds_1016 rfl (lv_at hl 19 rfl) ?_
                                                                obtain ⟨X_77, hO_78, hM9⟩ := o_ifSplit (l := l) (D := D) hSR hO_74 (nw := nw) hn hn2
                                                                refine lo_I (n := 0) (As := []) (rest := []) hx hb hml hown hts hK hN hM9 (OX.at0 hO_74) gL_holds_X4_ifSplit rfl (by decide +kernel) (by decide) dL_holds_1017 rfl rfl (Nat.le_of_ble_eq_true rfl) hl.1 (Nat.le_of_ble_eq_true rfl) (Nat.le_of_ble_eq_true rfl) (Nat.le_of_ble_eq_true rfl) (Nat.le_of_ble_eq_true rfl) hP hD hS hA (fun H locs hP hD hS => ?_)
                                                                clear hM9
                                                                refine lv_topi (fun sv esv => ?_)
                                                                have hsv : sv ≤ dsF (S 4) 9 := by rw [dsF_9, esv]; exact hsl
                                                                clear esv
                                                                refine lv_iload hx hb dL_holds_1020 (lv_at hl 9 rfl) ?_
                                                                refine lv_icmp_gt (tgt := 1029) hx hb dL_holds_1022 (by decide) (fun c_79 => ?_) (fun c_79 => ?_)
                                                                · exact absurd c_79 (Int32.not_lt.mpr hsv)
                                                                · refine lv_iconst (v := 1) hx hb dL_holds_1025 (by decide) ?_
                                                                  refine lv_goto (tgt := 1030) hx hb dL_holds_1026 (by decide) ?_
                                                                  exact rt_zq (X' := X_77) hQ rfl rfl hx hb hr hlocks hS dL_holds_1030 (va_PR hP) (va_DR hD) rfl (⟨rfl, hO_78⟩)
                                                        · have c_71 : ¬ (nw ≤ w) := fun h9 => c_71 ((nI_leI (a := nw) (b := w) (by omega) (by omega)).mpr h9)
                                                          refine lv_iload hx hb dL_holds_965 (lv_at hl 1 rfl) ?_
                                                          refine lv_aload_n hx hb dL_holds_967 rfl (lv_at hl 19 rfl) ?_
                                                          refine lv_iload hx hb dL_holds_968 (lv_at hl 0 rfl) ?_
                                                          refine lv_iconst (v := 0) hx hb dL_holds_970 (by decide) ?_
                                                          obtain ⟨X_80, hO_81, hM9⟩ := o_noted_0 (l := l) (D := D) hSR hO_70 (r := w) (nw := nw) (by omega) hn hn2
                                                          refine lo_I (n := 2) (As := [.int (nI w), .int 0]) (rest := [.int (exF S w)]) hx hb hml hown hts hK hN hM9 (OX.at0 hO_70) gL_holds_X4_noted rfl (by decide +kernel) (by decide) dL_holds_971 rfl rfl (Nat.le_of_ble_eq_true rfl) hl.1 (Nat.le_of_ble_eq_true rfl) (Nat.le_of_ble_eq_true rfl) (Nat.le_of_ble_eq_true rfl) (Nat.le_of_ble_eq_true rfl) hP hD hS hA (fun H locs hP hD hS => ?_)
                                                          clear hM9
                                                          refine tp_e (y := (S 5 w)) (if_neg (show ¬ nw ≤ w from by omega)) ?_
                                                          refine lv_aload_n hx hb dL_holds_974 rfl (lv_at hl 19 rfl) ?_
                                                          refine lv_iload hx hb dL_holds_975 (lv_at hl 0 rfl) ?_
                                                          refine lv_iconst (v := 2) hx hb dL_holds_977 (by decide) ?_
                                                          obtain ⟨X_82, hO_83, hM9⟩ := o_noted_2 (l := l) (D := D) hSR hO_81 (r := w) (nw := nw) (by omega) hn hn2
                                                          refine lo_I (n := 2) (As := [.int (nI w), .int 2]) (rest := [.int (S 5 w), .int (exF S w)]) hx hb hml hown hts hK hN hM9 (OX.at0 hO_81) gL_holds_X4_noted rfl (by decide +kernel) (by decide) dL_holds_978 rfl rfl (Nat.le_of_ble_eq_true rfl) hl.1 (Nat.le_of_ble_eq_true rfl) (Nat.le_of_ble_eq_true rfl) (Nat.le_of_ble_eq_true rfl) (Nat.le_of_ble_eq_true rfl) hP hD hS hA (fun H locs hP hD hS => ?_)
                                                          clear hM9
                                                          refine tp_e (y := (bcF (S 6 w))) (if_neg (show ¬ nw ≤ w from by omega)) ?_
                                                          refine lv_imul hx hb dL_holds_981 ?_
                                                          refine lv_iadd hx hb dL_holds_982 ?_
                                                          refine lv_istore (lv' := [(18, .int ((exF S w) + ((S 5 w) * (bcF (S 6 w))))), (19, .int (nI w)), (11, .int 1), (17, .int (mdF (CO f) 9)), (16, .int ((bsF f S (512 - 1)).2)), (15, .int ((bsF f S (512 - 1)).1)), (14, .int (rwT f (512 - 1))), (13, .int (nI ((oL f).length))), (12, .int (wyF f 0 false (512 - 1))), (10, .int (dsF (S 4) 9)), (9, .int (dsF (S 0) 9)), (8, .int (dsF (mnS S) 9)), (7, .ref n_7), (6, .ref n_6), (5, .ref n_5), (4, .ref n_4), (3, .ref n_3), (2, .ref n_2), (1, .ref n_1), (0, .ref x0)]) hx hb dL_holds_983 hl (by decide) rfl (fun ls hl => ?_)
                                                          refine lv_iinc (v := (nI (w + 1))) (lv' := [(19, .int (nI (w + 1))), (18, .int ((exF S w) + ((S 5 w) * (bcF (S 6 w))))), (11, .int 1), (17, .int (mdF (CO f) 9)), (16, .int ((bsF f S (512 - 1)).2)), (15, .int ((bsF f S (512 - 1)).1)), (14, .int (rwT f (512 - 1))), (13, .int (nI ((oL f).length))), (12, .int (wyF f 0 false (512 - 1))), (10, .int (dsF (S 4) 9)), (9, .int (dsF (S 0) 9)), (8, .int (dsF (mnS S) 9)), (7, .ref n_7), (6, .ref n_6), (5, .ref n_5), (4, .ref n_4), (3, .ref n_3), (2, .ref n_2), (1, .ref n_1), (0, .ref x0)]) hx hb dL_holds_985 hl (k := 1) rfl (nI_1 w) (by decide) rfl (fun ls hl => ?_)
                                                          refine lv_goto (tgt := 955) hx hb dL_holds_988 (by decide) ?_
                                                          exact ih_w (w + 1) ((exF S w) + ((S 5 w) * (bcF (S 6 w)))) X_82 (by omega) (by omega) (rfl) (hO_83) _ _ _ hP hD hS (lv_sub hl [0, 1, 2, 3, 4, 5, 6, 7, 8, 9, 10, 11, 12, 13, 14, 15, 16, 17, 18, 19] rfl)
                                                    · have c_68 : ¬ (40 ≤ r) := fun h9 => c_68 ((nI_leI (a := 40) (b := r) (by omega) (by omega)).mpr h9)
                                                      refine lv_iload hx hb dL_holds_890 (lv_at hl 1 rfl) ?_
                                                      refine lv_if_eq (tgt := 949) hx hb dL_holds_892 (by decide) (fun c_84 => ?_) (fun c_84 => ?_)
                                                      · exact absurd c_84 (by decide)
                                                      · refine lv_aload_n hx hb dL_holds_895 rfl (lv_at hl 18 rfl) ?_
                                                        refine lv_iload hx hb dL_holds_896 (lv_at hl 0 rfl) ?_
                                                        obtain ⟨X_85, hO_86, hM9⟩ := o_openWay (l := l) (D := D) hSR hOf (r := r) (by omega)
                                                        refine lo_I (n := 1) (As := [.int (nI r)]) (rest := []) hx hb hml hown hts hK hN hM9 (OX.at0 hOf) gL_holds_X4_openWay rfl (by decide +kernel) (by decide) dL_holds_898 rfl rfl (Nat.le_of_ble_eq_true rfl) hl.1 (Nat.le_of_ble_eq_true rfl) (Nat.le_of_ble_eq_true rfl) (Nat.le_of_ble_eq_true rfl) (Nat.le_of_ble_eq_true rfl) hP hD hS hA (fun H locs hP hD hS => ?_)
                                                        clear hM9
                                                        have hr : r < (oL f).length := by omega
                                                        obtain ⟨z, hz⟩ : ∃ z, z = (oL f)[r] := ⟨_, rfl⟩
                                                        have hz1 : 1 ≤ z ∧ z < 512 ∧ ioB f (nI z) = true := by rw [hz]; exact oL_in.mp (List.getElem_mem hr)
                                                        refine tp_e (y := (nI z)) (by rw [dif_pos hr, hz]) ?_
                                                        refine lv_istore (lv' := [(19, .int (nI z)), (18, .int (nI r)), (11, .int 1), (17, .int (mdF (CO f) 9)), (16, .int ((bsF f S (512 - 1)).2)), (15, .int ((bsF f S (512 - 1)).1)), (14, .int (rwT f (512 - 1))), (13, .int (nI ((oL f).length))), (12, .int (wyF f 0 false (512 - 1))), (10, .int (dsF (S 4) 9)), (9, .int (dsF (S 0) 9)), (8, .int (dsF (mnS S) 9)), (7, .ref n_7), (6, .ref n_6), (5, .ref n_5), (4, .ref n_4), (3, .ref n_3), (2, .ref n_2), (1, .ref n_1), (0, .ref x0)]) hx hb dL_holds_901 hl (by decide) rfl (fun ls hl => ?_)
                                                        refine lv_aload_n hx hb dL_holds_903 rfl (lv_at hl 18 rfl) ?_
                                                        refine lv_aload_n hx hb dL_holds_904 rfl (lv_at hl 17 rfl) ?_
                                                        refine lv_aload_n hx hb dL_holds_905 rfl (lv_at hl 16 rfl) ?_
                                                        refine lv_iload hx hb dL_holds_906 (lv_at hl 0 rfl) ?_
                                                        have hPc : va_P D vwCl ([(n_1, .inl (k 0, 9, .inl (S 2))), (n_2, .inl (k 0, 9, .inl (S 1))), (n_3, .inl (k 0, 9, .inl (S 3)))]) H := hP.sub [6, 5, 4] rfl
                                                        have hDc : va_D A ([(n_1, .inl (k 0, 9, .inl (S 2))), (n_2, .inl (k 0, 9, .inl (S 1))), (n_3, .inl (k 0, 9, .inl (S 3)))]) := hD.sub [6, 5, 4] (by decide +kernel) rfl
                                                        refine cl_i0 (va_runS (As := [.ref n_1, .ref n_2, .ref n_3, .int (nI z)]) (rest := []) ⟨hx, hb, hml, hown, hts⟩ (c_L_way l D k n_1 n_2 n_3 S f z hG hz1.1 hz1.2.1 H.size) (va_cwS 4 hts gL_holds_L_way rfl rfl rfl (by decide +kernel) ⟨Nat.le_of_ble_eq_true rfl, Nat.le_of_ble_eq_true rfl⟩) ⟨pr_blind, pr_at hN hPc hK hDc⟩ rfl rfl hl.1 rfl (lv_room (Nat.le_of_ble_eq_true rfl)) dL_holds_908 ⟨Nat.le_of_ble_eq_true rfl, Nat.le_of_ble_eq_true rfl⟩) hP hD hS hA [6, 5, 4] rfl (fun H locs hP hD hS => ?_)
                                                        clear hPc hDc
                                                        refine lv_iconst (v := 2) hx hb dL_holds_911 (by decide) ?_
                                                        refine lv_icmp_ne (tgt := 940) hx hb dL_holds_912 (by decide) (fun c_87 => ?_) (fun c_87 => ?_)
                                                        · exact absurd (by unfold wyV; rw [if_pos hz1.2.2]) c_87
                                                        · refine lv_iload hx hb dL_holds_915 (lv_at hl 1 rfl) ?_
                                                          refine lv_if_eq (tgt := 936) hx hb dL_holds_917 (by decide) (fun c_88 => ?_) (fun c_88 => ?_)
                                                          · have c_88 : r = 0 := (nI_eq (a := r) (b := 0) (by omega) (by omega)).mp c_88
                                                            refine lv_iconst (v := 1) hx hb dL_holds_936 (by decide) ?_
                                                            refine lv_goto (tgt := 941) hx hb dL_holds_937 (by decide) ?_
                                                            refine lv_istore (lv' := [(11, .int 1), (19, .int (nI z)), (18, .int (nI r)), (17, .int (mdF (CO f) 9)), (16, .int ((bsF f S (512 - 1)).2)), (15, .int ((bsF f S (512 - 1)).1)), (14, .int (rwT f (512 - 1))), (13, .int (nI ((oL f).length))), (12, .int (wyF f 0 false (512 - 1))), (10, .int (dsF (S 4) 9)), (9, .int (dsF (S 0) 9)), (8, .int (dsF (mnS S) 9)), (7, .ref n_7), (6, .ref n_6), (5, .ref n_5), (4, .ref n_4), (3, .ref n_3), (2, .ref n_2), (1, .ref n_1), (0, .ref x0)]) hx hb dL_holds_941 hl (by decide) rfl (fun ls hl => ?_)
                                                            refine lv_iinc (v := (nI (r + 1))) (lv' := [(18, .int (nI (r + 1))), (11, .int 1), (19, .int (nI z)), (17, .int (mdF (CO f) 9)), (16, .int ((bsF f S (512 - 1)).2)), (15, .int ((bsF f S (512 - 1)).1)), (14, .int (rwT f (512 - 1))), (13, .int (nI ((oL f).length))), (12, .int (wyF f 0 false (512 - 1))), (10, .int (dsF (S 4) 9)), (9, .int (dsF (S 0) 9)), (8, .int (dsF (mnS S) 9)), (7, .ref n_7), (6, .ref n_6), (5, .ref n_5), (4, .ref n_4), (3, .ref n_3), (2, .ref n_2), (1, .ref n_1), (0, .ref x0)]) hx hb dL_holds_943 hl (k := 2) rfl (nI_1 r) (by decide) rfl (fun ls hl => ?_)
                                                            refine lv_goto (tgt := 876) hx hb dL_holds_946 (by decide) ?_
                                                            exact ih_r (r + 1) X_85 (by omega) (by omega)  (hO_86) _ _ _ hP hD hS (lv_sub hl [0, 1, 3, 4, 5, 6, 7, 8, 9, 10, 11, 12, 13, 14, 15, 16, 17, 18, 19] rfl)
                                                          · have c_88 : ¬ (r = 0) := fun h9 => c_88 ((nI_eq (a := r) (b := 0) (by omega) (by omega)).mpr h9)
                                                            refine lv_aload_n hx hb dL_holds_920 rfl (lv_at hl 19 rfl) ?_
                                                            refine lv_iload hx hb dL_holds_921 (lv_at hl 1 rfl) ?_
                                                            refine lv_iconst (v := 1) hx hb dL_holds_923 (by decide) ?_
                                                            refine lv_isub hx hb dL_holds_924 ?_
                                                            refine tp_e (y := (nI (r - 1))) (nI_subn (a := r) (b := 1) (by omega)) ?_
                                                            obtain ⟨X_89, hO_90, hM9⟩ := o_openWay (l := l) (D := D) hSR hO_86 (r := (r - 1)) (by omega)
                                                            refine lo_I (n := 1) (As := [.int (nI (r - 1))]) (rest := []) hx hb hml hown hts hK hN hM9 (OX.at0 hO_86) gL_holds_X4_openWay rfl (by decide +kernel) (by decide) dL_holds_925 rfl rfl (Nat.le_of_ble_eq_true rfl) hl.1 (Nat.le_of_ble_eq_true rfl) (Nat.le_of_ble_eq_true rfl) (Nat.le_of_ble_eq_true rfl) (Nat.le_of_ble_eq_true rfl) hP hD hS hA (fun H locs hP hD hS => ?_)
                                                            clear hM9
                                                            obtain ⟨z2, hz2⟩ : ∃ z2, z2 = (oL f)[r - 1] := ⟨_, rfl⟩
                                                            have hst := oL_st f (show r - 1 < r from by omega) hr hz2 hz
                                                            refine tp_e (y := (nI z2)) (by rw [dif_pos (show r - 1 < (oL f).length from by omega), hz2]) ?_
                                                            refine lv_iload hx hb dL_holds_928 (lv_at hl 0 rfl) ?_
                                                            have hPc : va_P D vwCl ([]) H := hP.sub [] rfl
                                                            have hDc : va_D A ([]) := hD.sub [] (by decide +kernel) rfl
                                                            refine cl_i0 (va_runS (As := [.int (nI z2), .int (nI z)]) (rest := []) ⟨hx, hb, hml, hown, hts⟩ (c_L_isAhead l D k z2 z hst.2.2.1 hst.2.2.2 hst.2.1 H.size) (va_cwS 2 hts gL_holds_L_isAhead rfl rfl rfl (by decide +kernel) ⟨Nat.le_of_ble_eq_true rfl, Nat.le_of_ble_eq_true rfl⟩) ⟨pr_blind, pr_at hN hPc hK hDc⟩ rfl rfl hl.1 rfl (lv_room (Nat.le_of_ble_eq_true rfl)) dL_holds_930 ⟨Nat.le_of_ble_eq_true rfl, Nat.le_of_ble_eq_true rfl⟩) hP hD hS hA [] rfl (fun H locs hP hD hS => ?_)
                                                            clear hPc hDc
                                                            refine lv_if_eq (tgt := 940) hx hb dL_holds_933 (by decide) (fun c_91 => ?_) (fun c_91 => ?_)
                                                            · have c_91 := bI_eq.mp c_91
                                                              exact absurd c_91 (by rw [hst.1]; decide)
                                                            · have c_91 := bI_ne.mp c_91
                                                              refine lv_iconst (v := 1) hx hb dL_holds_936 (by decide) ?_
                                                              refine lv_goto (tgt := 941) hx hb dL_holds_937 (by decide) ?_
                                                              refine lv_istore (lv' := [(11, .int 1), (19, .int (nI z)), (18, .int (nI r)), (17, .int (mdF (CO f) 9)), (16, .int ((bsF f S (512 - 1)).2)), (15, .int ((bsF f S (512 - 1)).1)), (14, .int (rwT f (512 - 1))), (13, .int (nI ((oL f).length))), (12, .int (wyF f 0 false (512 - 1))), (10, .int (dsF (S 4) 9)), (9, .int (dsF (S 0) 9)), (8, .int (dsF (mnS S) 9)), (7, .ref n_7), (6, .ref n_6), (5, .ref n_5), (4, .ref n_4), (3, .ref n_3), (2, .ref n_2), (1, .ref n_1), (0, .ref x0)]) hx hb dL_holds_941 hl (by decide) rfl (fun ls hl => ?_)
                                                              refine lv_iinc (v := (nI (r + 1))) (lv' := [(18, .int (nI (r + 1))), (11, .int 1), (19, .int (nI z)), (17, .int (mdF (CO f) 9)), (16, .int ((bsF f S (512 - 1)).2)), (15, .int ((bsF f S (512 - 1)).1)), (14, .int (rwT f (512 - 1))), (13, .int (nI ((oL f).length))), (12, .int (wyF f 0 false (512 - 1))), (10, .int (dsF (S 4) 9)), (9, .int (dsF (S 0) 9)), (8, .int (dsF (mnS S) 9)), (7, .ref n_7), (6, .ref n_6), (5, .ref n_5), (4, .ref n_4), (3, .ref n_3), (2, .ref n_2), (1, .ref n_1), (0, .ref x0)]) hx hb dL_holds_943 hl (k := 2) rfl (nI_1 r) (by decide) rfl (fun ls hl => ?_)
                                                              refine lv_goto (tgt := 876) hx hb dL_holds_946 (by decide) ?_
                                                              exact ih_r (r + 1) X_89 (by omega) (by omega)  (hO_90) _ _ _ hP hD hS (lv_sub hl [0, 1, 3, 4, 5, 6, 7, 8, 9, 10, 11, 12, 13, 14, 15, 16, 17, 18, 19] rfl)
                                            · have hcv := c_50
                                              refine lv_dconst1 hx hb dL_holds_848 ?_
                                              refine lv_goto (tgt := 862) hx hb dL_holds_849 (by decide) ?_
                                              refine lv_dcmp hx hb dL_holds_862 ?_
                                              refine lv_if_ne (tgt := 870) hx hb dL_holds_863 (by decide) (fun c_92 => ?_) (fun c_92 => ?_)
                                              · exact absurd (ex_0 hcv) c_92
                                              · refine lv_iconst (v := 1) hx hb dL_holds_866 (by decide) ?_
                                                refine lv_goto (tgt := 871) hx hb dL_holds_867 (by decide) ?_
                                                refine lv_istore (lv' := [(11, .int 1), (18, .int (nI (9 - 9) + (-1 : Int32))), (17, .int (mdF (CO f) 9)), (16, .int ((bsF f S (512 - 1)).2)), (15, .int ((bsF f S (512 - 1)).1)), (14, .int (rwT f (512 - 1))), (13, .int (wyF f 0 true (512 - 1))), (12, .int (wyF f 0 false (512 - 1))), (10, .int (dsF (S 4) 9)), (9, .int (dsF (S 0) 9)), (8, .int (dsF (mnS S) 9)), (7, .ref n_7), (6, .ref n_6), (5, .ref n_5), (4, .ref n_4), (3, .ref n_3), (2, .ref n_2), (1, .ref n_1), (0, .ref x0)]) hx hb dL_holds_871 hl (by decide) rfl (fun ls hl => ?_)
                                                have hol := oL_511 f
                                                rw [show wyF f 0 true (512 - 1) = nI (oL f).length from open_n hG] at hl
                                                have hl : lv_has ls 22 [(11, .int 1), (18, .int (nI (9 - 9) + (-1 : Int32))), (17, .int (mdF (CO f) 9)), (16, .int ((bsF f S (512 - 1)).2)), (15, .int ((bsF f S (512 - 1)).1)), (14, .int (rwT f (512 - 1))), (13, .int (nI ((oL f).length))), (12, .int (wyF f 0 false (512 - 1))), (10, .int (dsF (S 4) 9)), (9, .int (dsF (S 0) 9)), (8, .int (dsF (mnS S) 9)), (7, .ref n_7), (6, .ref n_6), (5, .ref n_5), (4, .ref n_4), (3, .ref n_3), (2, .ref n_2), (1, .ref n_1), (0, .ref x0)] := hl
                                                refine lv_iconst (v := 0) hx hb dL_holds_873 (by decide) ?_
                                                refine lv_istore (lv' := [(18, .int 0), (11, .int 1), (17, .int (mdF (CO f) 9)), (16, .int ((bsF f S (512 - 1)).2)), (15, .int ((bsF f S (512 - 1)).1)), (14, .int (rwT f (512 - 1))), (13, .int (nI ((oL f).length))), (12, .int (wyF f 0 false (512 - 1))), (10, .int (dsF (S 4) 9)), (9, .int (dsF (S 0) 9)), (8, .int (dsF (mnS S) 9)), (7, .ref n_7), (6, .ref n_6), (5, .ref n_5), (4, .ref n_4), (3, .ref n_3), (2, .ref n_2), (1, .ref n_1), (0, .ref x0)]) hx hb dL_holds_874 hl (by decide) rfl (fun ls hl => ?_)
                                                suffices LOOP_r : ∀ (fu_r r : Nat) (Xf : va_W), 40 - r < fu_r → r ≤ 40 → (OX k x0 ns S Z Y0 k0 Xf) → ∀ (H : Heap) (locs : List Loc) (ls : Array Slot), va_P D vwCl ([(n_7, .inl (k 0, 9, .inl (inW f true (512 - 1)))), (n_6, .inl (k 0, 9, .inl (inW f false (512 - 1)))), (n_5, .inl (k 0, 9, .inl (bhG (S 2)))), (n_4, .inl (k 0, 9, .inl (S 4))), (n_3, .inl (k 0, 9, .inl (S 3))), (n_2, .inl (k 0, 9, .inl (S 1))), (n_1, .inl (k 0, 9, .inl (S 2)))] ++ (Xf)) H → va_D A ([(n_7, .inl (k 0, 9, .inl (inW f true (512 - 1)))), (n_6, .inl (k 0, 9, .inl (inW f false (512 - 1)))), (n_5, .inl (k 0, 9, .inl (bhG (S 2)))), (n_4, .inl (k 0, 9, .inl (S 4))), (n_3, .inl (k 0, 9, .inl (S 3))), (n_2, .inl (k 0, 9, .inl (S 1))), (n_1, .inl (k 0, 9, .inl (S 2)))] ++ (Xf)) → va_S A s.heap H locs → lv_has ls 22 [(18, .int (nI r)), (11, .int 1), (17, .int (mdF (CO f) 9)), (16, .int ((bsF f S (512 - 1)).2)), (15, .int ((bsF f S (512 - 1)).1)), (14, .int (rwT f (512 - 1))), (13, .int (nI ((oL f).length))), (12, .int (wyF f 0 false (512 - 1))), (10, .int (dsF (S 4) 9)), (9, .int (dsF (S 0) 9)), (8, .int (dsF (mnS S) 9)), (7, .ref n_7), (6, .ref n_6), (5, .ref n_5), (4, .ref n_4), (3, .ref n_3), (2, .ref n_2), (1, .ref n_1), (0, .ref x0)] → W p l e ({ frames := 31, cells := 7, slots := 63, locals := 839 } : Room) s m ([.ref x0] : List Value).toArray below meth c H locs 7 63 Q (F0 m 876 ls []) from LOOP_r (40 + 1) 0 X_48 (by omega) (by omega)  (hO_49) _ _ _ hP hD hS (lv_sub hl [0, 1, 2, 3, 4, 5, 6, 7, 8, 9, 10, 11, 12, 13, 14, 15, 16, 17, 18] rfl)
                                                clear hP hD hS hl
                                                intro fu_r
                                                induction fu_r with
                                                | zero => intro r Xf hn_r; omega
                                                | succ fu_r ih_r =>
                                                  intro r Xf hn_r hle_r  hOf H locs ls hP hD hS hl
                                                  refine lv_iload hx hb dL_holds_876 (lv_at hl 0 rfl) ?_
                                                  refine lv_iload hx hb dL_holds_878 (lv_at hl 6 rfl) ?_
                                                  refine lv_icmp_ge (tgt := 949) hx hb dL_holds_880 (by decide) (fun c_93 => ?_) (fun c_93 => ?_)
                                                  · have c_93 : (oL f).length ≤ r := (nI_leI (a := (oL f).length) (b := r) (by omega) (by omega)).mp c_93
                                                    refine lv_iconst (v := 0) hx hb dL_holds_949 (by decide) ?_
                                                    refine lv_istore (lv' := [(18, .int 0), (11, .int 1), (17, .int (mdF (CO f) 9)), (16, .int ((bsF f S (512 - 1)).2)), (15, .int ((bsF f S (512 - 1)).1)), (14, .int (rwT f (512 - 1))), (13, .int (nI ((oL f).length))), (12, .int (wyF f 0 false (512 - 1))), (10, .int (dsF (S 4) 9)), (9, .int (dsF (S 0) 9)), (8, .int (dsF (mnS S) 9)), (7, .ref n_7), (6, .ref n_6), (5, .ref n_5), (4, .ref n_4), (3, .ref n_3), (2, .ref n_2), (1, .ref n_1), (0, .ref x0)]) hx hb dL_holds_950 hl (by decide) rfl (fun ls hl => ?_)
                                                    refine lv_iconst (v := 0) hx hb dL_holds_952 (by decide) ?_
                                                    refine lv_istore (lv' := [(19, .int 0), (18, .int 0), (11, .int 1), (17, .int (mdF (CO f) 9)), (16, .int ((bsF f S (512 - 1)).2)), (15, .int ((bsF f S (512 - 1)).1)), (14, .int (rwT f (512 - 1))), (13, .int (nI ((oL f).length))), (12, .int (wyF f 0 false (512 - 1))), (10, .int (dsF (S 4) 9)), (9, .int (dsF (S 0) 9)), (8, .int (dsF (mnS S) 9)), (7, .ref n_7), (6, .ref n_6), (5, .ref n_5), (4, .ref n_4), (3, .ref n_3), (2, .ref n_2), (1, .ref n_1), (0, .ref x0)]) hx hb dL_holds_953 hl (by decide) rfl (fun ls hl => ?_)
                                                    suffices LOOP_w : ∀ (fu_w w : Nat) (v18 : Int32) (Xg : va_W), nw - w < fu_w → w ≤ nw → v18 = exF S w → (OX k x0 ns S Z Y0 k0 Xg) → ∀ (H : Heap) (locs : List Loc) (ls : Array Slot), va_P D vwCl ([(n_7, .inl (k 0, 9, .inl (inW f true (512 - 1)))), (n_6, .inl (k 0, 9, .inl (inW f false (512 - 1)))), (n_5, .inl (k 0, 9, .inl (bhG (S 2)))), (n_4, .inl (k 0, 9, .inl (S 4))), (n_3, .inl (k 0, 9, .inl (S 3))), (n_2, .inl (k 0, 9, .inl (S 1))), (n_1, .inl (k 0, 9, .inl (S 2)))] ++ (Xg)) H → va_D A ([(n_7, .inl (k 0, 9, .inl (inW f true (512 - 1)))), (n_6, .inl (k 0, 9, .inl (inW f false (512 - 1)))), (n_5, .inl (k 0, 9, .inl (bhG (S 2)))), (n_4, .inl (k 0, 9, .inl (S 4))), (n_3, .inl (k 0, 9, .inl (S 3))), (n_2, .inl (k 0, 9, .inl (S 1))), (n_1, .inl (k 0, 9, .inl (S 2)))] ++ (Xg)) → va_S A s.heap H locs → lv_has ls 22 [(19, .int (nI w)), (18, .int v18), (11, .int 1), (17, .int (mdF (CO f) 9)), (16, .int ((bsF f S (512 - 1)).2)), (15, .int ((bsF f S (512 - 1)).1)), (14, .int (rwT f (512 - 1))), (13, .int (nI ((oL f).length))), (12, .int (wyF f 0 false (512 - 1))), (10, .int (dsF (S 4) 9)), (9, .int (dsF (S 0) 9)), (8, .int (dsF (mnS S) 9)), (7, .ref n_7), (6, .ref n_6), (5, .ref n_5), (4, .ref n_4), (3, .ref n_3), (2, .ref n_2), (1, .ref n_1), (0, .ref x0)] → W p l e ({ frames := 31, cells := 7, slots := 63, locals := 839 } : Room) s m ([.ref x0] : List Value).toArray below meth c H locs 7 63 Q (F0 m 955 ls []) from LOOP_w (nw + 1) 0 0 Xf (by omega) (by omega) (rfl) (hOf) _ _ _ hP hD hS (lv_sub hl [0, 1, 2, 3, 4, 5, 6, 7, 8, 9, 10, 11, 12, 13, 14, 15, 16, 17, 18, 19] rfl)
                                                    clear hP hD hS hl
                                                    intro fu_w
                                                    induction fu_w with
                                                    | zero => intro w v18 Xg hn_w; omega
                                                    | succ fu_w ih_w =>
                                                      intro w v18 Xg hn_w hle_w e_v18 hOg H locs ls hP hD hS hl
                                                      subst e_v18
                                                      refine lv_iload hx hb dL_holds_955 (lv_at hl 0 rfl) ?_
                                                      refine lv_aload_n hx hb dL_holds_957 rfl (lv_at hl 19 rfl) ?_
                                                      refine lv_iconst (v := 3) hx hb dL_holds_958 (by decide) ?_
                                                      obtain ⟨X_94, hO_95, hM9⟩ := o_count_3 (l := l) (D := D) hSR hOg
                                                      refine lo_I (n := 1) (As := [.int 3]) (rest := [.int (nI w)]) hx hb hml hown hts hK hN hM9 (OX.at0 hOg) gL_holds_X4_count rfl (by decide +kernel) (by decide) dL_holds_959 rfl rfl (Nat.le_of_ble_eq_true rfl) hl.1 (Nat.le_of_ble_eq_true rfl) (Nat.le_of_ble_eq_true rfl) (Nat.le_of_ble_eq_true rfl) (Nat.le_of_ble_eq_true rfl) hP hD hS hA (fun H locs hP hD hS => ?_)
                                                      clear hM9
                                                      refine tp_e (y := (nI nw)) hn ?_
                                                      refine lv_icmp_ge (tgt := 991) hx hb dL_holds_962 (by decide) (fun c_96 => ?_) (fun c_96 => ?_)
                                                      · have c_96 : nw ≤ w := (nI_leI (a := nw) (b := w) (by omega) (by omega)).mp c_96
                                                        have hz_w : nw = w := by omega
                                                        subst hz_w
                                                        refine lv_iload hx hb dL_holds_991 (lv_at hl 2 rfl) ?_
                                                        refine lv_if_eq (tgt := 1029) hx hb dL_holds_993 (by decide) (fun c_97 => ?_) (fun c_97 => ?_)
                                                        · exact absurd c_97 (by decide)
                                                        · refine lv_aload_n hx hb dL_holds_996 rfl (lv_at hl 19 rfl) ?_
                                                          refine lv_iload hx hb dL_holds_997 (lv_at hl 7 rfl) ?_
                                                          obtain ⟨X_98, hO_99, hM9⟩ := o_openWay (l := l) (D := D) hSR hO_95 (r := ((oL f).length)) (by omega)
                                                          refine lo_I (n := 1) (As := [.int (nI ((oL f).length))]) (rest := []) hx hb hml hown hts hK hN hM9 (OX.at0 hO_95) gL_holds_X4_openWay rfl (by decide +kernel) (by decide) dL_holds_999 rfl rfl (Nat.le_of_ble_eq_true rfl) hl.1 (Nat.le_of_ble_eq_true rfl) (Nat.le_of_ble_eq_true rfl) (Nat.le_of_ble_eq_true rfl) (Nat.le_of_ble_eq_true rfl) hP hD hS hA (fun H locs hP hD hS => ?_)
                                                          clear hM9
                                                          refine lv_iconst (v := (-1)) hx hb dL_holds_1002 (by decide) ?_
                                                          refine lv_icmp_ne (tgt := 1029) hx hb dL_holds_1003 (by decide) (fun c_100 => ?_) (fun c_100 => ?_)
                                                          · exact absurd (dif_len f) c_100
                                                          · refine lv_iload hx hb dL_holds_1006 (lv_at hl 1 rfl) ?_
                                                            refine lv_iload hx hb dL_holds_1008 (lv_at hl 10 rfl) ?_
                                                            refine lv_iload hx hb dL_holds_1010 (lv_at hl 9 rfl) ?_
                                                            refine lv_isub hx hb dL_holds_1012 ?_
                                                            refine lv_icmp_ne (tgt := 1029) hx hb dL_holds_1013 (by decide) (fun c_101 => ?_) (fun c_101 => ?_)
                                                            · exact absurd (by rw [dsF_9, dsF_9]; exact hEX nw hn2 hn) c_101
                                                            · refine lv_aload_n hx hb dL_holds_1016 rfl (lv_at hl 19 rfl) ?_
                                                              obtain ⟨X_102, hO_103, hM9⟩ := o_ifSplit (l := l) (D := D) hSR hO_99 (nw := nw) hn hn2
                                                              refine lo_I (n := 0) (As := []) (rest := []) hx hb hml hown hts hK hN hM9 (OX.at0 hO_99) gL_holds_X4_ifSplit rfl (by decide +kernel) (by decide) dL_holds_1017 rfl rfl (Nat.le_of_ble_eq_true rfl) hl.1 (Nat.le_of_ble_eq_true rfl) (Nat.le_of_ble_eq_true rfl) (Nat.le_of_ble_eq_true rfl) (Nat.le_of_ble_eq_true rfl) hP hD hS hA (fun H locs hP hD hS => ?_)
                                                              clear hM9
                                                              refine lv_topi (fun sv esv => ?_)
                                                              have hsv : sv ≤ dsF (S 4) 9 := by rw [dsF_9, esv]; exact hsl
                                                              clear esv
                                                              refine lv_iload hx hb dL_holds_1020 (lv_at hl 9 rfl) ?_
                                                              refine lv_icmp_gt (tgt := 1029) hx hb dL_holds_1022 (by decide) (fun c_104 => ?_) (fun c_104 => ?_)
                                                              · exact absurd c_104 (Int32.not_lt.mpr hsv)
                                                              · refine lv_iconst (v := 1) hx hb dL_holds_1025 (by decide) ?_
                                                                refine lv_goto (tgt := 1030) hx hb dL_holds_1026 (by decide) ?_
                                                                exact rt_zq (X' := X_102) hQ rfl rfl hx hb hr hlocks hS dL_holds_1030 (va_PR hP) (va_DR hD) rfl (⟨rfl, hO_103⟩)
                                                      · have c_96 : ¬ (nw ≤ w) := fun h9 => c_96 ((nI_leI (a := nw) (b := w) (by omega) (by omega)).mpr h9)
                                                        refine lv_iload hx hb dL_holds_965 (lv_at hl 1 rfl) ?_
                                                        refine lv_aload_n hx hb dL_holds_967 rfl (lv_at hl 19 rfl) ?_
                                                        refine lv_iload hx hb dL_holds_968 (lv_at hl 0 rfl) ?_
                                                        refine lv_iconst (v := 0) hx hb dL_holds_970 (by decide) ?_
                                                        obtain ⟨X_105, hO_106, hM9⟩ := o_noted_0 (l := l) (D := D) hSR hO_95 (r := w) (nw := nw) (by omega) hn hn2
                                                        refine lo_I (n := 2) (As := [.int (nI w), .int 0]) (rest := [.int (exF S w)]) hx hb hml hown hts hK hN hM9 (OX.at0 hO_95) gL_holds_X4_noted rfl (by decide +kernel) (by decide) dL_holds_971 rfl rfl (Nat.le_of_ble_eq_true rfl) hl.1 (Nat.le_of_ble_eq_true rfl) (Nat.le_of_ble_eq_true rfl) (Nat.le_of_ble_eq_true rfl) (Nat.le_of_ble_eq_true rfl) hP hD hS hA (fun H locs hP hD hS => ?_)
                                                        clear hM9
                                                        refine tp_e (y := (S 5 w)) (if_neg (show ¬ nw ≤ w from by omega)) ?_
                                                        refine lv_aload_n hx hb dL_holds_974 rfl (lv_at hl 19 rfl) ?_
                                                        refine lv_iload hx hb dL_holds_975 (lv_at hl 0 rfl) ?_
                                                        refine lv_iconst (v := 2) hx hb dL_holds_977 (by decide) ?_
                                                        obtain ⟨X_107, hO_108, hM9⟩ := o_noted_2 (l := l) (D := D) hSR hO_106 (r := w) (nw := nw) (by omega) hn hn2
                                                        refine lo_I (n := 2) (As := [.int (nI w), .int 2]) (rest := [.int (S 5 w), .int (exF S w)]) hx hb hml hown hts hK hN hM9 (OX.at0 hO_106) gL_holds_X4_noted rfl (by decide +kernel) (by decide) dL_holds_978 rfl rfl (Nat.le_of_ble_eq_true rfl) hl.1 (Nat.le_of_ble_eq_true rfl) (Nat.le_of_ble_eq_true rfl) (Nat.le_of_ble_eq_true rfl) (Nat.le_of_ble_eq_true rfl) hP hD hS hA (fun H locs hP hD hS => ?_)
                                                        clear hM9
                                                        refine tp_e (y := (bcF (S 6 w))) (if_neg (show ¬ nw ≤ w from by omega)) ?_
                                                        refine lv_imul hx hb dL_holds_981 ?_
                                                        refine lv_iadd hx hb dL_holds_982 ?_
                                                        refine lv_istore (lv' := [(18, .int ((exF S w) + ((S 5 w) * (bcF (S 6 w))))), (19, .int (nI w)), (11, .int 1), (17, .int (mdF (CO f) 9)), (16, .int ((bsF f S (512 - 1)).2)), (15, .int ((bsF f S (512 - 1)).1)), (14, .int (rwT f (512 - 1))), (13, .int (nI ((oL f).length))), (12, .int (wyF f 0 false (512 - 1))), (10, .int (dsF (S 4) 9)), (9, .int (dsF (S 0) 9)), (8, .int (dsF (mnS S) 9)), (7, .ref n_7), (6, .ref n_6), (5, .ref n_5), (4, .ref n_4), (3, .ref n_3), (2, .ref n_2), (1, .ref n_1), (0, .ref x0)]) hx hb dL_holds_983 hl (by decide) rfl (fun ls hl => ?_)
                                                        refine lv_iinc (v := (nI (w + 1))) (lv' := [(19, .int (nI (w + 1))), (18, .int ((exF S w) + ((S 5 w) * (bcF (S 6 w))))), (11, .int 1), (17, .int (mdF (CO f) 9)), (16, .int ((bsF f S (512 - 1)).2)), (15, .int ((bsF f S (512 - 1)).1)), (14, .int (rwT f (512 - 1))), (13, .int (nI ((oL f).length))), (12, .int (wyF f 0 false (512 - 1))), (10, .int (dsF (S 4) 9)), (9, .int (dsF (S 0) 9)), (8, .int (dsF (mnS S) 9)), (7, .ref n_7), (6, .ref n_6), (5, .ref n_5), (4, .ref n_4), (3, .ref n_3), (2, .ref n_2), (1, .ref n_1), (0, .ref x0)]) hx hb dL_holds_985 hl (k := 1) rfl (nI_1 w) (by decide) rfl (fun ls hl => ?_)
                                                        refine lv_goto (tgt := 955) hx hb dL_holds_988 (by decide) ?_
                                                        exact ih_w (w + 1) ((exF S w) + ((S 5 w) * (bcF (S 6 w)))) X_107 (by omega) (by omega) (rfl) (hO_108) _ _ _ hP hD hS (lv_sub hl [0, 1, 2, 3, 4, 5, 6, 7, 8, 9, 10, 11, 12, 13, 14, 15, 16, 17, 18, 19] rfl)
                                                  · have c_93 : ¬ ((oL f).length ≤ r) := fun h9 => c_93 ((nI_leI (a := (oL f).length) (b := r) (by omega) (by omega)).mpr h9)
                                                    refine lv_iload hx hb dL_holds_883 (lv_at hl 0 rfl) ?_
                                                    refine lv_bipush (v := 40) hx hb dL_holds_885 (by decide) ?_
                                                    refine lv_icmp_ge (tgt := 949) hx hb dL_holds_887 (by decide) (fun c_109 => ?_) (fun c_109 => ?_)
                                                    · have c_109 : 40 ≤ r := (nI_leI (a := 40) (b := r) (by omega) (by omega)).mp c_109
                                                      have hz_r : 40 = r := by omega
                                                      subst hz_r
                                                      refine lv_iconst (v := 0) hx hb dL_holds_949 (by decide) ?_
                                                      refine lv_istore (lv' := [(18, .int 0), (11, .int 1), (17, .int (mdF (CO f) 9)), (16, .int ((bsF f S (512 - 1)).2)), (15, .int ((bsF f S (512 - 1)).1)), (14, .int (rwT f (512 - 1))), (13, .int (nI ((oL f).length))), (12, .int (wyF f 0 false (512 - 1))), (10, .int (dsF (S 4) 9)), (9, .int (dsF (S 0) 9)), (8, .int (dsF (mnS S) 9)), (7, .ref n_7), (6, .ref n_6), (5, .ref n_5), (4, .ref n_4), (3, .ref n_3), (2, .ref n_2), (1, .ref n_1), (0, .ref x0)]) hx hb dL_holds_950 hl (by decide) rfl (fun ls hl => ?_)
                                                      refine lv_iconst (v := 0) hx hb dL_holds_952 (by decide) ?_
                                                      refine lv_istore (lv' := [(19, .int 0), (18, .int 0), (11, .int 1), (17, .int (mdF (CO f) 9)), (16, .int ((bsF f S (512 - 1)).2)), (15, .int ((bsF f S (512 - 1)).1)), (14, .int (rwT f (512 - 1))), (13, .int (nI ((oL f).length))), (12, .int (wyF f 0 false (512 - 1))), (10, .int (dsF (S 4) 9)), (9, .int (dsF (S 0) 9)), (8, .int (dsF (mnS S) 9)), (7, .ref n_7), (6, .ref n_6), (5, .ref n_5), (4, .ref n_4), (3, .ref n_3), (2, .ref n_2), (1, .ref n_1), (0, .ref x0)]) hx hb dL_holds_953 hl (by decide) rfl (fun ls hl => ?_)
                                                      suffices LOOP_w : ∀ (fu_w w : Nat) (v18 : Int32) (Xg : va_W), nw - w < fu_w → w ≤ nw → v18 = exF S w → (OX k x0 ns S Z Y0 k0 Xg) → ∀ (H : Heap) (locs : List Loc) (ls : Array Slot), va_P D vwCl ([(n_7, .inl (k 0, 9, .inl (inW f true (512 - 1)))), (n_6, .inl (k 0, 9, .inl (inW f false (512 - 1)))), (n_5, .inl (k 0, 9, .inl (bhG (S 2)))), (n_4, .inl (k 0, 9, .inl (S 4))), (n_3, .inl (k 0, 9, .inl (S 3))), (n_2, .inl (k 0, 9, .inl (S 1))), (n_1, .inl (k 0, 9, .inl (S 2)))] ++ (Xg)) H → va_D A ([(n_7, .inl (k 0, 9, .inl (inW f true (512 - 1)))), (n_6, .inl (k 0, 9, .inl (inW f false (512 - 1)))), (n_5, .inl (k 0, 9, .inl (bhG (S 2)))), (n_4, .inl (k 0, 9, .inl (S 4))), (n_3, .inl (k 0, 9, .inl (S 3))), (n_2, .inl (k 0, 9, .inl (S 1))), (n_1, .inl (k 0, 9, .inl (S 2)))] ++ (Xg)) → va_S A s.heap H locs → lv_has ls 22 [(19, .int (nI w)), (18, .int v18), (11, .int 1), (17, .int (mdF (CO f) 9)), (16, .int ((bsF f S (512 - 1)).2)), (15, .int ((bsF f S (512 - 1)).1)), (14, .int (rwT f (512 - 1))), (13, .int (nI ((oL f).length))), (12, .int (wyF f 0 false (512 - 1))), (10, .int (dsF (S 4) 9)), (9, .int (dsF (S 0) 9)), (8, .int (dsF (mnS S) 9)), (7, .ref n_7), (6, .ref n_6), (5, .ref n_5), (4, .ref n_4), (3, .ref n_3), (2, .ref n_2), (1, .ref n_1), (0, .ref x0)] → W p l e ({ frames := 31, cells := 7, slots := 63, locals := 839 } : Room) s m ([.ref x0] : List Value).toArray below meth c H locs 7 63 Q (F0 m 955 ls []) from LOOP_w (nw + 1) 0 0 Xf (by omega) (by omega) (rfl) (hOf) _ _ _ hP hD hS (lv_sub hl [0, 1, 2, 3, 4, 5, 6, 7, 8, 9, 10, 11, 12, 13, 14, 15, 16, 17, 18, 19] rfl)
                                                      clear hP hD hS hl
                                                      intro fu_w
                                                      induction fu_w with
                                                      | zero => intro w v18 Xg hn_w; omega
                                                      | succ fu_w ih_w =>
                                                        intro w v18 Xg hn_w hle_w e_v18 hOg H locs ls hP hD hS hl
                                                        subst e_v18
                                                        refine lv_iload hx hb dL_holds_955 (lv_at hl 0 rfl) ?_
                                                        refine lv_aload_n hx hb dL_holds_957 rfl (lv_at hl 19 rfl) ?_
                                                        refine lv_iconst (v := 3) hx hb dL_holds_958 (by decide) ?_
                                                        obtain ⟨X_110, hO_111, hM9⟩ := o_count_3 (l := l) (D := D) hSR hOg
                                                        refine lo_I (n := 1) (As := [.int 3]) (rest := [.int (nI w)]) hx hb hml hown hts hK hN hM9 (OX.at0 hOg) gL_holds_X4_count rfl (by decide +kernel) (by decide) dL_holds_959 rfl rfl (Nat.le_of_ble_eq_true rfl) hl.1 (Nat.le_of_ble_eq_true rfl) (Nat.le_of_ble_eq_true rfl) (Nat.le_of_ble_eq_true rfl) (Nat.le_of_ble_eq_true rfl) hP hD hS hA (fun H locs hP hD hS => ?_)
                                                        clear hM9
                                                        refine tp_e (y := (nI nw)) hn ?_
                                                        refine lv_icmp_ge (tgt := 991) hx hb dL_holds_962 (by decide) (fun c_112 => ?_) (fun c_112 => ?_)
                                                        · have c_112 : nw ≤ w := (nI_leI (a := nw) (b := w) (by omega) (by omega)).mp c_112
                                                          have hz_w : nw = w := by omega
                                                          subst hz_w
                                                          refine lv_iload hx hb dL_holds_991 (lv_at hl 2 rfl) ?_
                                                          refine lv_if_eq (tgt := 1029) hx hb dL_holds_993 (by decide) (fun c_113 => ?_) (fun c_113 => ?_)
                                                          · exact absurd c_113 (by decide)
                                                          · refine lv_aload_n hx hb dL_holds_996 rfl (lv_at hl 19 rfl) ?_
                                                            refine lv_iload hx hb dL_holds_997 (lv_at hl 7 rfl) ?_
                                                            obtain ⟨X_114, hO_115, hM9⟩ := o_openWay (l := l) (D := D) hSR hO_111 (r := ((oL f).length)) (by omega)
                                                            refine lo_I (n := 1) (As := [.int (nI ((oL f).length))]) (rest := []) hx hb hml hown hts hK hN hM9 (OX.at0 hO_111) gL_holds_X4_openWay rfl (by decide +kernel) (by decide) dL_holds_999 rfl rfl (Nat.le_of_ble_eq_true rfl) hl.1 (Nat.le_of_ble_eq_true rfl) (Nat.le_of_ble_eq_true rfl) (Nat.le_of_ble_eq_true rfl) (Nat.le_of_ble_eq_true rfl) hP hD hS hA (fun H locs hP hD hS => ?_)
                                                            clear hM9
                                                            refine lv_iconst (v := (-1)) hx hb dL_holds_1002 (by decide) ?_
                                                            refine lv_icmp_ne (tgt := 1029) hx hb dL_holds_1003 (by decide) (fun c_116 => ?_) (fun c_116 => ?_)
                                                            · exact absurd (dif_len f) c_116
                                                            · refine lv_iload hx hb dL_holds_1006 (lv_at hl 1 rfl) ?_
                                                              refine lv_iload hx hb dL_holds_1008 (lv_at hl 10 rfl) ?_
                                                              refine lv_iload hx hb dL_holds_1010 (lv_at hl 9 rfl) ?_
                                                              refine lv_isub hx hb dL_holds_1012 ?_
                                                              refine lv_icmp_ne (tgt := 1029) hx hb dL_holds_1013 (by decide) (fun c_117 => ?_) (fun c_117 => ?_)
                                                              · exact absurd (by rw [dsF_9, dsF_9]; exact hEX nw hn2 hn) c_117
                                                              · refine lv_aload_n hx hb dL_holds_1016 rfl (lv_at hl 19 rfl) ?_
                                                                obtain ⟨X_118, hO_119, hM9⟩ := o_ifSplit (l := l) (D := D) hSR hO_115 (nw := nw) hn hn2
                                                                refine lo_I (n := 0) (As := []) (rest := []) hx hb hml hown hts hK hN hM9 (OX.at0 hO_115) gL_holds_X4_ifSplit rfl (by decide +kernel) (by decide) dL_holds_1017 rfl rfl (Nat.le_of_ble_eq_true rfl) hl.1 (Nat.le_of_ble_eq_true rfl) (Nat.le_of_ble_eq_true rfl) (Nat.le_of_ble_eq_true rfl) (Nat.le_of_ble_eq_true rfl) hP hD hS hA (fun H locs hP hD hS => ?_)
                                                                clear hM9
                                                                refine lv_topi (fun sv esv => ?_)
                                                                have hsv : sv ≤ dsF (S 4) 9 := by rw [dsF_9, esv]; exact hsl
                                                                clear esv
                                                                refine lv_iload hx hb dL_holds_1020 (lv_at hl 9 rfl) ?_
                                                                refine lv_icmp_gt (tgt := 1029) hx hb dL_holds_1022 (by decide) (fun c_120 => ?_) (fun c_120 => ?_)
                                                                · exact absurd c_120 (Int32.not_lt.mpr hsv)
                                                                · refine lv_iconst (v := 1) hx hb dL_holds_1025 (by decide) ?_
                                                                  refine lv_goto (tgt := 1030) hx hb dL_holds_1026 (by decide) ?_
                                                                  exact rt_zq (X' := X_118) hQ rfl rfl hx hb hr hlocks hS dL_holds_1030 (va_PR hP) (va_DR hD) rfl (⟨rfl, hO_119⟩)
                                                        · have c_112 : ¬ (nw ≤ w) := fun h9 => c_112 ((nI_leI (a := nw) (b := w) (by omega) (by omega)).mpr h9)
                                                          refine lv_iload hx hb dL_holds_965 (lv_at hl 1 rfl) ?_
                                                          refine lv_aload_n hx hb dL_holds_967 rfl (lv_at hl 19 rfl) ?_
                                                          refine lv_iload hx hb dL_holds_968 (lv_at hl 0 rfl) ?_
                                                          refine lv_iconst (v := 0) hx hb dL_holds_970 (by decide) ?_
                                                          obtain ⟨X_121, hO_122, hM9⟩ := o_noted_0 (l := l) (D := D) hSR hO_111 (r := w) (nw := nw) (by omega) hn hn2
                                                          refine lo_I (n := 2) (As := [.int (nI w), .int 0]) (rest := [.int (exF S w)]) hx hb hml hown hts hK hN hM9 (OX.at0 hO_111) gL_holds_X4_noted rfl (by decide +kernel) (by decide) dL_holds_971 rfl rfl (Nat.le_of_ble_eq_true rfl) hl.1 (Nat.le_of_ble_eq_true rfl) (Nat.le_of_ble_eq_true rfl) (Nat.le_of_ble_eq_true rfl) (Nat.le_of_ble_eq_true rfl) hP hD hS hA (fun H locs hP hD hS => ?_)
                                                          clear hM9
                                                          refine tp_e (y := (S 5 w)) (if_neg (show ¬ nw ≤ w from by omega)) ?_
                                                          refine lv_aload_n hx hb dL_holds_974 rfl (lv_at hl 19 rfl) ?_
                                                          refine lv_iload hx hb dL_holds_975 (lv_at hl 0 rfl) ?_
                                                          refine lv_iconst (v := 2) hx hb dL_holds_977 (by decide) ?_
                                                          obtain ⟨X_123, hO_124, hM9⟩ := o_noted_2 (l := l) (D := D) hSR hO_122 (r := w) (nw := nw) (by omega) hn hn2
                                                          refine lo_I (n := 2) (As := [.int (nI w), .int 2]) (rest := [.int (S 5 w), .int (exF S w)]) hx hb hml hown hts hK hN hM9 (OX.at0 hO_122) gL_holds_X4_noted rfl (by decide +kernel) (by decide) dL_holds_978 rfl rfl (Nat.le_of_ble_eq_true rfl) hl.1 (Nat.le_of_ble_eq_true rfl) (Nat.le_of_ble_eq_true rfl) (Nat.le_of_ble_eq_true rfl) (Nat.le_of_ble_eq_true rfl) hP hD hS hA (fun H locs hP hD hS => ?_)
                                                          clear hM9
                                                          refine tp_e (y := (bcF (S 6 w))) (if_neg (show ¬ nw ≤ w from by omega)) ?_
                                                          refine lv_imul hx hb dL_holds_981 ?_
                                                          refine lv_iadd hx hb dL_holds_982 ?_
                                                          refine lv_istore (lv' := [(18, .int ((exF S w) + ((S 5 w) * (bcF (S 6 w))))), (19, .int (nI w)), (11, .int 1), (17, .int (mdF (CO f) 9)), (16, .int ((bsF f S (512 - 1)).2)), (15, .int ((bsF f S (512 - 1)).1)), (14, .int (rwT f (512 - 1))), (13, .int (nI ((oL f).length))), (12, .int (wyF f 0 false (512 - 1))), (10, .int (dsF (S 4) 9)), (9, .int (dsF (S 0) 9)), (8, .int (dsF (mnS S) 9)), (7, .ref n_7), (6, .ref n_6), (5, .ref n_5), (4, .ref n_4), (3, .ref n_3), (2, .ref n_2), (1, .ref n_1), (0, .ref x0)]) hx hb dL_holds_983 hl (by decide) rfl (fun ls hl => ?_)
                                                          refine lv_iinc (v := (nI (w + 1))) (lv' := [(19, .int (nI (w + 1))), (18, .int ((exF S w) + ((S 5 w) * (bcF (S 6 w))))), (11, .int 1), (17, .int (mdF (CO f) 9)), (16, .int ((bsF f S (512 - 1)).2)), (15, .int ((bsF f S (512 - 1)).1)), (14, .int (rwT f (512 - 1))), (13, .int (nI ((oL f).length))), (12, .int (wyF f 0 false (512 - 1))), (10, .int (dsF (S 4) 9)), (9, .int (dsF (S 0) 9)), (8, .int (dsF (mnS S) 9)), (7, .ref n_7), (6, .ref n_6), (5, .ref n_5), (4, .ref n_4), (3, .ref n_3), (2, .ref n_2), (1, .ref n_1), (0, .ref x0)]) hx hb dL_holds_985 hl (k := 1) rfl (nI_1 w) (by decide) rfl (fun ls hl => ?_)
                                                          refine lv_goto (tgt := 955) hx hb dL_holds_988 (by decide) ?_
                                                          exact ih_w (w + 1) ((exF S w) + ((S 5 w) * (bcF (S 6 w)))) X_123 (by omega) (by omega) (rfl) (hO_124) _ _ _ hP hD hS (lv_sub hl [0, 1, 2, 3, 4, 5, 6, 7, 8, 9, 10, 11, 12, 13, 14, 15, 16, 17, 18, 19] rfl)
                                                    · have c_109 : ¬ (40 ≤ r) := fun h9 => c_109 ((nI_leI (a := 40) (b := r) (by omega) (by omega)).mpr h9)
                                                      refine lv_iload hx hb dL_holds_890 (lv_at hl 1 rfl) ?_
                                                      refine lv_if_eq (tgt := 949) hx hb dL_holds_892 (by decide) (fun c_125 => ?_) (fun c_125 => ?_)
                                                      · exact absurd c_125 (by decide)
                                                      · refine lv_aload_n hx hb dL_holds_895 rfl (lv_at hl 18 rfl) ?_
                                                        refine lv_iload hx hb dL_holds_896 (lv_at hl 0 rfl) ?_
                                                        obtain ⟨X_126, hO_127, hM9⟩ := o_openWay (l := l) (D := D) hSR hOf (r := r) (by omega)
                                                        refine lo_I (n := 1) (As := [.int (nI r)]) (rest := []) hx hb hml hown hts hK hN hM9 (OX.at0 hOf) gL_holds_X4_openWay rfl (by decide +kernel) (by decide) dL_holds_898 rfl rfl (Nat.le_of_ble_eq_true rfl) hl.1 (Nat.le_of_ble_eq_true rfl) (Nat.le_of_ble_eq_true rfl) (Nat.le_of_ble_eq_true rfl) (Nat.le_of_ble_eq_true rfl) hP hD hS hA (fun H locs hP hD hS => ?_)
                                                        clear hM9
                                                        have hr : r < (oL f).length := by omega
                                                        obtain ⟨z, hz⟩ : ∃ z, z = (oL f)[r] := ⟨_, rfl⟩
                                                        have hz1 : 1 ≤ z ∧ z < 512 ∧ ioB f (nI z) = true := by rw [hz]; exact oL_in.mp (List.getElem_mem hr)
                                                        refine tp_e (y := (nI z)) (by rw [dif_pos hr, hz]) ?_
                                                        refine lv_istore (lv' := [(19, .int (nI z)), (18, .int (nI r)), (11, .int 1), (17, .int (mdF (CO f) 9)), (16, .int ((bsF f S (512 - 1)).2)), (15, .int ((bsF f S (512 - 1)).1)), (14, .int (rwT f (512 - 1))), (13, .int (nI ((oL f).length))), (12, .int (wyF f 0 false (512 - 1))), (10, .int (dsF (S 4) 9)), (9, .int (dsF (S 0) 9)), (8, .int (dsF (mnS S) 9)), (7, .ref n_7), (6, .ref n_6), (5, .ref n_5), (4, .ref n_4), (3, .ref n_3), (2, .ref n_2), (1, .ref n_1), (0, .ref x0)]) hx hb dL_holds_901 hl (by decide) rfl (fun ls hl => ?_)
                                                        refine lv_aload_n hx hb dL_holds_903 rfl (lv_at hl 18 rfl) ?_
                                                        refine lv_aload_n hx hb dL_holds_904 rfl (lv_at hl 17 rfl) ?_
                                                        refine lv_aload_n hx hb dL_holds_905 rfl (lv_at hl 16 rfl) ?_
                                                        refine lv_iload hx hb dL_holds_906 (lv_at hl 0 rfl) ?_
                                                        have hPc : va_P D vwCl ([(n_1, .inl (k 0, 9, .inl (S 2))), (n_2, .inl (k 0, 9, .inl (S 1))), (n_3, .inl (k 0, 9, .inl (S 3)))]) H := hP.sub [6, 5, 4] rfl
                                                        have hDc : va_D A ([(n_1, .inl (k 0, 9, .inl (S 2))), (n_2, .inl (k 0, 9, .inl (S 1))), (n_3, .inl (k 0, 9, .inl (S 3)))]) := hD.sub [6, 5, 4] (by decide +kernel) rfl
                                                        refine cl_i0 (va_runS (As := [.ref n_1, .ref n_2, .ref n_3, .int (nI z)]) (rest := []) ⟨hx, hb, hml, hown, hts⟩ (c_L_way l D k n_1 n_2 n_3 S f z hG hz1.1 hz1.2.1 H.size) (va_cwS 4 hts gL_holds_L_way rfl rfl rfl (by decide +kernel) ⟨Nat.le_of_ble_eq_true rfl, Nat.le_of_ble_eq_true rfl⟩) ⟨pr_blind, pr_at hN hPc hK hDc⟩ rfl rfl hl.1 rfl (lv_room (Nat.le_of_ble_eq_true rfl)) dL_holds_908 ⟨Nat.le_of_ble_eq_true rfl, Nat.le_of_ble_eq_true rfl⟩) hP hD hS hA [6, 5, 4] rfl (fun H locs hP hD hS => ?_)
                                                        clear hPc hDc
                                                        refine lv_iconst (v := 2) hx hb dL_holds_911 (by decide) ?_
                                                        refine lv_icmp_ne (tgt := 940) hx hb dL_holds_912 (by decide) (fun c_128 => ?_) (fun c_128 => ?_)
                                                        · exact absurd (by unfold wyV; rw [if_pos hz1.2.2]) c_128
                                                        · refine lv_iload hx hb dL_holds_915 (lv_at hl 1 rfl) ?_
                                                          refine lv_if_eq (tgt := 936) hx hb dL_holds_917 (by decide) (fun c_129 => ?_) (fun c_129 => ?_)
                                                          · have c_129 : r = 0 := (nI_eq (a := r) (b := 0) (by omega) (by omega)).mp c_129
                                                            refine lv_iconst (v := 1) hx hb dL_holds_936 (by decide) ?_
                                                            refine lv_goto (tgt := 941) hx hb dL_holds_937 (by decide) ?_
                                                            refine lv_istore (lv' := [(11, .int 1), (19, .int (nI z)), (18, .int (nI r)), (17, .int (mdF (CO f) 9)), (16, .int ((bsF f S (512 - 1)).2)), (15, .int ((bsF f S (512 - 1)).1)), (14, .int (rwT f (512 - 1))), (13, .int (nI ((oL f).length))), (12, .int (wyF f 0 false (512 - 1))), (10, .int (dsF (S 4) 9)), (9, .int (dsF (S 0) 9)), (8, .int (dsF (mnS S) 9)), (7, .ref n_7), (6, .ref n_6), (5, .ref n_5), (4, .ref n_4), (3, .ref n_3), (2, .ref n_2), (1, .ref n_1), (0, .ref x0)]) hx hb dL_holds_941 hl (by decide) rfl (fun ls hl => ?_)
                                                            refine lv_iinc (v := (nI (r + 1))) (lv' := [(18, .int (nI (r + 1))), (11, .int 1), (19, .int (nI z)), (17, .int (mdF (CO f) 9)), (16, .int ((bsF f S (512 - 1)).2)), (15, .int ((bsF f S (512 - 1)).1)), (14, .int (rwT f (512 - 1))), (13, .int (nI ((oL f).length))), (12, .int (wyF f 0 false (512 - 1))), (10, .int (dsF (S 4) 9)), (9, .int (dsF (S 0) 9)), (8, .int (dsF (mnS S) 9)), (7, .ref n_7), (6, .ref n_6), (5, .ref n_5), (4, .ref n_4), (3, .ref n_3), (2, .ref n_2), (1, .ref n_1), (0, .ref x0)]) hx hb dL_holds_943 hl (k := 2) rfl (nI_1 r) (by decide) rfl (fun ls hl => ?_)
                                                            refine lv_goto (tgt := 876) hx hb dL_holds_946 (by decide) ?_
                                                            exact ih_r (r + 1) X_126 (by omega) (by omega)  (hO_127) _ _ _ hP hD hS (lv_sub hl [0, 1, 3, 4, 5, 6, 7, 8, 9, 10, 11, 12, 13, 14, 15, 16, 17, 18, 19] rfl)
                                                          · have c_129 : ¬ (r = 0) := fun h9 => c_129 ((nI_eq (a := r) (b := 0) (by omega) (by omega)).mpr h9)
                                                            refine lv_aload_n hx hb dL_holds_920 rfl (lv_at hl 19 rfl) ?_
                                                            refine lv_iload hx hb dL_holds_921 (lv_at hl 1 rfl) ?_
                                                            refine lv_iconst (v := 1) hx hb dL_holds_923 (by decide) ?_
                                                            refine lv_isub hx hb dL_holds_924 ?_
                                                            refine tp_e (y := (nI (r - 1))) (nI_subn (a := r) (b := 1) (by omega)) ?_
                                                            obtain ⟨X_130, hO_131, hM9⟩ := o_openWay (l := l) (D := D) hSR hO_127 (r := (r - 1)) (by omega)
                                                            refine lo_I (n := 1) (As := [.int (nI (r - 1))]) (rest := []) hx hb hml hown hts hK hN hM9 (OX.at0 hO_127) gL_holds_X4_openWay rfl (by decide +kernel) (by decide) dL_holds_925 rfl rfl (Nat.le_of_ble_eq_true rfl) hl.1 (Nat.le_of_ble_eq_true rfl) (Nat.le_of_ble_eq_true rfl) (Nat.le_of_ble_eq_true rfl) (Nat.le_of_ble_eq_true rfl) hP hD hS hA (fun H locs hP hD hS => ?_)
                                                            clear hM9
                                                            obtain ⟨z2, hz2⟩ : ∃ z2, z2 = (oL f)[r - 1] := ⟨_, rfl⟩
                                                            have hst := oL_st f (show r - 1 < r from by omega) hr hz2 hz
                                                            refine tp_e (y := (nI z2)) (by rw [dif_pos (show r - 1 < (oL f).length from by omega), hz2]) ?_
                                                            refine lv_iload hx hb dL_holds_928 (lv_at hl 0 rfl) ?_
                                                            have hPc : va_P D vwCl ([]) H := hP.sub [] rfl
                                                            have hDc : va_D A ([]) := hD.sub [] (by decide +kernel) rfl
                                                            refine cl_i0 (va_runS (As := [.int (nI z2), .int (nI z)]) (rest := []) ⟨hx, hb, hml, hown, hts⟩ (c_L_isAhead l D k z2 z hst.2.2.1 hst.2.2.2 hst.2.1 H.size) (va_cwS 2 hts gL_holds_L_isAhead rfl rfl rfl (by decide +kernel) ⟨Nat.le_of_ble_eq_true rfl, Nat.le_of_ble_eq_true rfl⟩) ⟨pr_blind, pr_at hN hPc hK hDc⟩ rfl rfl hl.1 rfl (lv_room (Nat.le_of_ble_eq_true rfl)) dL_holds_930 ⟨Nat.le_of_ble_eq_true rfl, Nat.le_of_ble_eq_true rfl⟩) hP hD hS hA [] rfl (fun H locs hP hD hS => ?_)
                                                            clear hPc hDc
                                                            refine lv_if_eq (tgt := 940) hx hb dL_holds_933 (by decide) (fun c_132 => ?_) (fun c_132 => ?_)
                                                            · have c_132 := bI_eq.mp c_132
                                                              exact absurd c_132 (by rw [hst.1]; decide)
                                                            · have c_132 := bI_ne.mp c_132
                                                              refine lv_iconst (v := 1) hx hb dL_holds_936 (by decide) ?_
                                                              refine lv_goto (tgt := 941) hx hb dL_holds_937 (by decide) ?_
                                                              refine lv_istore (lv' := [(11, .int 1), (19, .int (nI z)), (18, .int (nI r)), (17, .int (mdF (CO f) 9)), (16, .int ((bsF f S (512 - 1)).2)), (15, .int ((bsF f S (512 - 1)).1)), (14, .int (rwT f (512 - 1))), (13, .int (nI ((oL f).length))), (12, .int (wyF f 0 false (512 - 1))), (10, .int (dsF (S 4) 9)), (9, .int (dsF (S 0) 9)), (8, .int (dsF (mnS S) 9)), (7, .ref n_7), (6, .ref n_6), (5, .ref n_5), (4, .ref n_4), (3, .ref n_3), (2, .ref n_2), (1, .ref n_1), (0, .ref x0)]) hx hb dL_holds_941 hl (by decide) rfl (fun ls hl => ?_)
                                                              refine lv_iinc (v := (nI (r + 1))) (lv' := [(18, .int (nI (r + 1))), (11, .int 1), (19, .int (nI z)), (17, .int (mdF (CO f) 9)), (16, .int ((bsF f S (512 - 1)).2)), (15, .int ((bsF f S (512 - 1)).1)), (14, .int (rwT f (512 - 1))), (13, .int (nI ((oL f).length))), (12, .int (wyF f 0 false (512 - 1))), (10, .int (dsF (S 4) 9)), (9, .int (dsF (S 0) 9)), (8, .int (dsF (mnS S) 9)), (7, .ref n_7), (6, .ref n_6), (5, .ref n_5), (4, .ref n_4), (3, .ref n_3), (2, .ref n_2), (1, .ref n_1), (0, .ref x0)]) hx hb dL_holds_943 hl (k := 2) rfl (nI_1 r) (by decide) rfl (fun ls hl => ?_)
                                                              refine lv_goto (tgt := 876) hx hb dL_holds_946 (by decide) ?_
                                                              exact ih_r (r + 1) X_130 (by omega) (by omega)  (hO_131) _ _ _ hP hD hS (lv_sub hl [0, 1, 3, 4, 5, 6, 7, 8, 9, 10, 11, 12, 13, 14, 15, 16, 17, 18, 19] rfl)
                                        · exact absurd c_46 c_42
                                    · obtain ⟨hz1, hz2⟩ := (best2 hSR).1 c_42
                                      refine lv_iconst (v := (-1)) hx hb dL_holds_811 (by decide) ?_
                                      refine lv_goto (tgt := 817) hx hb dL_holds_812 (by decide) ?_
                                      refine lv_icmp_ne (tgt := 870) hx hb dL_holds_817 (by decide) (fun c_133 => ?_) (fun c_133 => ?_)
                                      · exact absurd (hz1) c_133
                                      · refine lv_aload_n hx hb dL_holds_820 rfl (lv_at hl 18 rfl) ?_
                                        refine lv_iconst (v := 1) hx hb dL_holds_821 (by decide) ?_
                                        obtain ⟨X_134, hO_135, hM9⟩ := o_heaviest_1 (l := l) (D := D) hSR hO_41
                                        refine lo_I (n := 1) (As := [.int 1]) (rest := []) hx hb hml hown hts hK hN hM9 (OX.at0 hO_41) gL_holds_X4_heaviest rfl (by decide +kernel) (by decide) dL_holds_822 rfl rfl (Nat.le_of_ble_eq_true rfl) hl.1 (Nat.le_of_ble_eq_true rfl) (Nat.le_of_ble_eq_true rfl) (Nat.le_of_ble_eq_true rfl) (Nat.le_of_ble_eq_true rfl) hP hD hS hA (fun H locs hP hD hS => ?_)
                                        clear hM9
                                        refine lv_iload hx hb dL_holds_825 (lv_at hl 4 rfl) ?_
                                        refine lv_if_ne (tgt := 834) hx hb dL_holds_827 (by decide) (fun c_136 => ?_) (fun c_136 => ?_)
                                        · exact absurd c_42 c_136
                                        · refine lv_iconst (v := (-1)) hx hb dL_holds_830 (by decide) ?_
                                          refine lv_goto (tgt := 836) hx hb dL_holds_831 (by decide) ?_
                                          refine lv_icmp_ne (tgt := 870) hx hb dL_holds_836 (by decide) (fun c_137 => ?_) (fun c_137 => ?_)
                                          · exact absurd (hz2) c_137
                                          · refine lv_aload_n hx hb dL_holds_839 rfl (lv_at hl 18 rfl) ?_
                                            obtain ⟨X_138, hO_139, hM9⟩ := o_explained (l := l) (D := D) hSR hO_135
                                            refine lo_D (n := 0) (As := []) (rest := []) hx hb hml hown hts hK hN hM9 (OX.at0 hO_135) gL_holds_X4_explained rfl (by decide +kernel) (by decide) dL_holds_840 rfl rfl (Nat.le_of_ble_eq_true rfl) hl.1 (Nat.le_of_ble_eq_true rfl) (Nat.le_of_ble_eq_true rfl) (Nat.le_of_ble_eq_true rfl) (Nat.le_of_ble_eq_true rfl) hP hD hS hA (fun H locs hP hD hS => ?_)
                                            clear hM9
                                            refine lv_iload hx hb dL_holds_843 (lv_at hl 9 rfl) ?_
                                            refine lv_if_ne (tgt := 852) hx hb dL_holds_845 (by decide) (fun c_140 => ?_) (fun c_140 => ?_)
                                            · have hcv := c_140
                                              refine lv_iload hx hb dL_holds_852 (lv_at hl 9 rfl) ?_
                                              refine lv_iload hx hb dL_holds_854 (lv_at hl 8 rfl) ?_
                                              refine lv_isub hx hb dL_holds_856 ?_
                                              refine lv_i2d hx hb dL_holds_857 ?_
                                              refine lv_iload hx hb dL_holds_858 (lv_at hl 9 rfl) ?_
                                              refine lv_i2d hx hb dL_holds_860 ?_
                                              refine lv_ddiv hx hb dL_holds_861 (by rw [dsF_9, dsF_9]; rw [dsF_9] at hcv; exact (expl_eq hSR).1 hcv) ?_
                                              refine lv_dcmp hx hb dL_holds_862 ?_
                                              refine lv_if_ne (tgt := 870) hx hb dL_holds_863 (by decide) (fun c_141 => ?_) (fun c_141 => ?_)
                                              · exact absurd (ex_1 hSR hcv) c_141
                                              · refine lv_iconst (v := 1) hx hb dL_holds_866 (by decide) ?_
                                                refine lv_goto (tgt := 871) hx hb dL_holds_867 (by decide) ?_
                                                refine lv_istore (lv' := [(11, .int 1), (18, .int (nI (9 - 9) + (-1 : Int32))), (17, .int (mdF (CO f) 9)), (16, .int ((bsF f S (512 - 1)).2)), (15, .int ((bsF f S (512 - 1)).1)), (14, .int (rwT f (512 - 1))), (13, .int (wyF f 0 true (512 - 1))), (12, .int (wyF f 0 false (512 - 1))), (10, .int (dsF (S 4) 9)), (9, .int (dsF (S 0) 9)), (8, .int (dsF (mnS S) 9)), (7, .ref n_7), (6, .ref n_6), (5, .ref n_5), (4, .ref n_4), (3, .ref n_3), (2, .ref n_2), (1, .ref n_1), (0, .ref x0)]) hx hb dL_holds_871 hl (by decide) rfl (fun ls hl => ?_)
                                                have hol := oL_511 f
                                                rw [show wyF f 0 true (512 - 1) = nI (oL f).length from open_n hG] at hl
                                                have hl : lv_has ls 22 [(11, .int 1), (18, .int (nI (9 - 9) + (-1 : Int32))), (17, .int (mdF (CO f) 9)), (16, .int ((bsF f S (512 - 1)).2)), (15, .int ((bsF f S (512 - 1)).1)), (14, .int (rwT f (512 - 1))), (13, .int (nI ((oL f).length))), (12, .int (wyF f 0 false (512 - 1))), (10, .int (dsF (S 4) 9)), (9, .int (dsF (S 0) 9)), (8, .int (dsF (mnS S) 9)), (7, .ref n_7), (6, .ref n_6), (5, .ref n_5), (4, .ref n_4), (3, .ref n_3), (2, .ref n_2), (1, .ref n_1), (0, .ref x0)] := hl
                                                refine lv_iconst (v := 0) hx hb dL_holds_873 (by decide) ?_
                                                refine lv_istore (lv' := [(18, .int 0), (11, .int 1), (17, .int (mdF (CO f) 9)), (16, .int ((bsF f S (512 - 1)).2)), (15, .int ((bsF f S (512 - 1)).1)), (14, .int (rwT f (512 - 1))), (13, .int (nI ((oL f).length))), (12, .int (wyF f 0 false (512 - 1))), (10, .int (dsF (S 4) 9)), (9, .int (dsF (S 0) 9)), (8, .int (dsF (mnS S) 9)), (7, .ref n_7), (6, .ref n_6), (5, .ref n_5), (4, .ref n_4), (3, .ref n_3), (2, .ref n_2), (1, .ref n_1), (0, .ref x0)]) hx hb dL_holds_874 hl (by decide) rfl (fun ls hl => ?_)
                                                suffices LOOP_r : ∀ (fu_r r : Nat) (Xf : va_W), 40 - r < fu_r → r ≤ 40 → (OX k x0 ns S Z Y0 k0 Xf) → ∀ (H : Heap) (locs : List Loc) (ls : Array Slot), va_P D vwCl ([(n_7, .inl (k 0, 9, .inl (inW f true (512 - 1)))), (n_6, .inl (k 0, 9, .inl (inW f false (512 - 1)))), (n_5, .inl (k 0, 9, .inl (bhG (S 2)))), (n_4, .inl (k 0, 9, .inl (S 4))), (n_3, .inl (k 0, 9, .inl (S 3))), (n_2, .inl (k 0, 9, .inl (S 1))), (n_1, .inl (k 0, 9, .inl (S 2)))] ++ (Xf)) H → va_D A ([(n_7, .inl (k 0, 9, .inl (inW f true (512 - 1)))), (n_6, .inl (k 0, 9, .inl (inW f false (512 - 1)))), (n_5, .inl (k 0, 9, .inl (bhG (S 2)))), (n_4, .inl (k 0, 9, .inl (S 4))), (n_3, .inl (k 0, 9, .inl (S 3))), (n_2, .inl (k 0, 9, .inl (S 1))), (n_1, .inl (k 0, 9, .inl (S 2)))] ++ (Xf)) → va_S A s.heap H locs → lv_has ls 22 [(18, .int (nI r)), (11, .int 1), (17, .int (mdF (CO f) 9)), (16, .int ((bsF f S (512 - 1)).2)), (15, .int ((bsF f S (512 - 1)).1)), (14, .int (rwT f (512 - 1))), (13, .int (nI ((oL f).length))), (12, .int (wyF f 0 false (512 - 1))), (10, .int (dsF (S 4) 9)), (9, .int (dsF (S 0) 9)), (8, .int (dsF (mnS S) 9)), (7, .ref n_7), (6, .ref n_6), (5, .ref n_5), (4, .ref n_4), (3, .ref n_3), (2, .ref n_2), (1, .ref n_1), (0, .ref x0)] → W p l e ({ frames := 31, cells := 7, slots := 63, locals := 839 } : Room) s m ([.ref x0] : List Value).toArray below meth c H locs 7 63 Q (F0 m 876 ls []) from LOOP_r (40 + 1) 0 X_138 (by omega) (by omega)  (hO_139) _ _ _ hP hD hS (lv_sub hl [0, 1, 2, 3, 4, 5, 6, 7, 8, 9, 10, 11, 12, 13, 14, 15, 16, 17, 18] rfl)
                                                clear hP hD hS hl
                                                intro fu_r
                                                induction fu_r with
                                                | zero => intro r Xf hn_r; omega
                                                | succ fu_r ih_r =>
                                                  intro r Xf hn_r hle_r  hOf H locs ls hP hD hS hl
                                                  refine lv_iload hx hb dL_holds_876 (lv_at hl 0 rfl) ?_
                                                  refine lv_iload hx hb dL_holds_878 (lv_at hl 6 rfl) ?_
                                                  refine lv_icmp_ge (tgt := 949) hx hb dL_holds_880 (by decide) (fun c_142 => ?_) (fun c_142 => ?_)
                                                  · have c_142 : (oL f).length ≤ r := (nI_leI (a := (oL f).length) (b := r) (by omega) (by omega)).mp c_142
                                                    refine lv_iconst (v := 0) hx hb dL_holds_949 (by decide) ?_
                                                    refine lv_istore (lv' := [(18, .int 0), (11, .int 1), (17, .int (mdF (CO f) 9)), (16, .int ((bsF f S (512 - 1)).2)), (15, .int ((bsF f S (512 - 1)).1)), (14, .int (rwT f (512 - 1))), (13, .int (nI ((oL f).length))), (12, .int (wyF f 0 false (512 - 1))), (10, .int (dsF (S 4) 9)), (9, .int (dsF (S 0) 9)), (8, .int (dsF (mnS S) 9)), (7, .ref n_7), (6, .ref n_6), (5, .ref n_5), (4, .ref n_4), (3, .ref n_3), (2, .ref n_2), (1, .ref n_1), (0, .ref x0)]) hx hb dL_holds_950 hl (by decide) rfl (fun ls hl => ?_)
                                                    refine lv_iconst (v := 0) hx hb dL_holds_952 (by decide) ?_
                                                    refine lv_istore (lv' := [(19, .int 0), (18, .int 0), (11, .int 1), (17, .int (mdF (CO f) 9)), (16, .int ((bsF f S (512 - 1)).2)), (15, .int ((bsF f S (512 - 1)).1)), (14, .int (rwT f (512 - 1))), (13, .int (nI ((oL f).length))), (12, .int (wyF f 0 false (512 - 1))), (10, .int (dsF (S 4) 9)), (9, .int (dsF (S 0) 9)), (8, .int (dsF (mnS S) 9)), (7, .ref n_7), (6, .ref n_6), (5, .ref n_5), (4, .ref n_4), (3, .ref n_3), (2, .ref n_2), (1, .ref n_1), (0, .ref x0)]) hx hb dL_holds_953 hl (by decide) rfl (fun ls hl => ?_)
                                                    suffices LOOP_w : ∀ (fu_w w : Nat) (v18 : Int32) (Xg : va_W), nw - w < fu_w → w ≤ nw → v18 = exF S w → (OX k x0 ns S Z Y0 k0 Xg) → ∀ (H : Heap) (locs : List Loc) (ls : Array Slot), va_P D vwCl ([(n_7, .inl (k 0, 9, .inl (inW f true (512 - 1)))), (n_6, .inl (k 0, 9, .inl (inW f false (512 - 1)))), (n_5, .inl (k 0, 9, .inl (bhG (S 2)))), (n_4, .inl (k 0, 9, .inl (S 4))), (n_3, .inl (k 0, 9, .inl (S 3))), (n_2, .inl (k 0, 9, .inl (S 1))), (n_1, .inl (k 0, 9, .inl (S 2)))] ++ (Xg)) H → va_D A ([(n_7, .inl (k 0, 9, .inl (inW f true (512 - 1)))), (n_6, .inl (k 0, 9, .inl (inW f false (512 - 1)))), (n_5, .inl (k 0, 9, .inl (bhG (S 2)))), (n_4, .inl (k 0, 9, .inl (S 4))), (n_3, .inl (k 0, 9, .inl (S 3))), (n_2, .inl (k 0, 9, .inl (S 1))), (n_1, .inl (k 0, 9, .inl (S 2)))] ++ (Xg)) → va_S A s.heap H locs → lv_has ls 22 [(19, .int (nI w)), (18, .int v18), (11, .int 1), (17, .int (mdF (CO f) 9)), (16, .int ((bsF f S (512 - 1)).2)), (15, .int ((bsF f S (512 - 1)).1)), (14, .int (rwT f (512 - 1))), (13, .int (nI ((oL f).length))), (12, .int (wyF f 0 false (512 - 1))), (10, .int (dsF (S 4) 9)), (9, .int (dsF (S 0) 9)), (8, .int (dsF (mnS S) 9)), (7, .ref n_7), (6, .ref n_6), (5, .ref n_5), (4, .ref n_4), (3, .ref n_3), (2, .ref n_2), (1, .ref n_1), (0, .ref x0)] → W p l e ({ frames := 31, cells := 7, slots := 63, locals := 839 } : Room) s m ([.ref x0] : List Value).toArray below meth c H locs 7 63 Q (F0 m 955 ls []) from LOOP_w (nw + 1) 0 0 Xf (by omega) (by omega) (rfl) (hOf) _ _ _ hP hD hS (lv_sub hl [0, 1, 2, 3, 4, 5, 6, 7, 8, 9, 10, 11, 12, 13, 14, 15, 16, 17, 18, 19] rfl)
                                                    clear hP hD hS hl
                                                    intro fu_w
                                                    induction fu_w with
                                                    | zero => intro w v18 Xg hn_w; omega
                                                    | succ fu_w ih_w =>
                                                      intro w v18 Xg hn_w hle_w e_v18 hOg H locs ls hP hD hS hl
                                                      subst e_v18
                                                      refine lv_iload hx hb dL_holds_955 (lv_at hl 0 rfl) ?_
                                                      refine lv_aload_n hx hb dL_holds_957 rfl (lv_at hl 19 rfl) ?_
                                                      refine lv_iconst (v := 3) hx hb dL_holds_958 (by decide) ?_
                                                      obtain ⟨X_143, hO_144, hM9⟩ := o_count_3 (l := l) (D := D) hSR hOg
                                                      refine lo_I (n := 1) (As := [.int 3]) (rest := [.int (nI w)]) hx hb hml hown hts hK hN hM9 (OX.at0 hOg) gL_holds_X4_count rfl (by decide +kernel) (by decide) dL_holds_959 rfl rfl (Nat.le_of_ble_eq_true rfl) hl.1 (Nat.le_of_ble_eq_true rfl) (Nat.le_of_ble_eq_true rfl) (Nat.le_of_ble_eq_true rfl) (Nat.le_of_ble_eq_true rfl) hP hD hS hA (fun H locs hP hD hS => ?_)
                                                      clear hM9
                                                      refine tp_e (y := (nI nw)) hn ?_
                                                      refine lv_icmp_ge (tgt := 991) hx hb dL_holds_962 (by decide) (fun c_145 => ?_) (fun c_145 => ?_)
                                                      · have c_145 : nw ≤ w := (nI_leI (a := nw) (b := w) (by omega) (by omega)).mp c_145
                                                        have hz_w : nw = w := by omega
                                                        subst hz_w
                                                        refine lv_iload hx hb dL_holds_991 (lv_at hl 2 rfl) ?_
                                                        refine lv_if_eq (tgt := 1029) hx hb dL_holds_993 (by decide) (fun c_146 => ?_) (fun c_146 => ?_)
                                                        · exact absurd c_146 (by decide)
                                                        · refine lv_aload_n hx hb dL_holds_996 rfl (lv_at hl 19 rfl) ?_
                                                          refine lv_iload hx hb dL_holds_997 (lv_at hl 7 rfl) ?_
                                                          obtain ⟨X_147, hO_148, hM9⟩ := o_openWay (l := l) (D := D) hSR hO_144 (r := ((oL f).length)) (by omega)
                                                          refine lo_I (n := 1) (As := [.int (nI ((oL f).length))]) (rest := []) hx hb hml hown hts hK hN hM9 (OX.at0 hO_144) gL_holds_X4_openWay rfl (by decide +kernel) (by decide) dL_holds_999 rfl rfl (Nat.le_of_ble_eq_true rfl) hl.1 (Nat.le_of_ble_eq_true rfl) (Nat.le_of_ble_eq_true rfl) (Nat.le_of_ble_eq_true rfl) (Nat.le_of_ble_eq_true rfl) hP hD hS hA (fun H locs hP hD hS => ?_)
                                                          clear hM9
                                                          refine lv_iconst (v := (-1)) hx hb dL_holds_1002 (by decide) ?_
                                                          refine lv_icmp_ne (tgt := 1029) hx hb dL_holds_1003 (by decide) (fun c_149 => ?_) (fun c_149 => ?_)
                                                          · exact absurd (dif_len f) c_149
                                                          · refine lv_iload hx hb dL_holds_1006 (lv_at hl 1 rfl) ?_
                                                            refine lv_iload hx hb dL_holds_1008 (lv_at hl 10 rfl) ?_
                                                            refine lv_iload hx hb dL_holds_1010 (lv_at hl 9 rfl) ?_
                                                            refine lv_isub hx hb dL_holds_1012 ?_
                                                            refine lv_icmp_ne (tgt := 1029) hx hb dL_holds_1013 (by decide) (fun c_150 => ?_) (fun c_150 => ?_)
                                                            · exact absurd (by rw [dsF_9, dsF_9]; exact hEX nw hn2 hn) c_150
                                                            · refine lv_aload_n hx hb dL_holds_1016 rfl (lv_at hl 19 rfl) ?_
                                                              obtain ⟨X_151, hO_152, hM9⟩ := o_ifSplit (l := l) (D := D) hSR hO_148 (nw := nw) hn hn2
                                                              refine lo_I (n := 0) (As := []) (rest := []) hx hb hml hown hts hK hN hM9 (OX.at0 hO_148) gL_holds_X4_ifSplit rfl (by decide +kernel) (by decide) dL_holds_1017 rfl rfl (Nat.le_of_ble_eq_true rfl) hl.1 (Nat.le_of_ble_eq_true rfl) (Nat.le_of_ble_eq_true rfl) (Nat.le_of_ble_eq_true rfl) (Nat.le_of_ble_eq_true rfl) hP hD hS hA (fun H locs hP hD hS => ?_)
                                                              clear hM9
                                                              refine lv_topi (fun sv esv => ?_)
                                                              have hsv : sv ≤ dsF (S 4) 9 := by rw [dsF_9, esv]; exact hsl
                                                              clear esv
                                                              refine lv_iload hx hb dL_holds_1020 (lv_at hl 9 rfl) ?_
                                                              refine lv_icmp_gt (tgt := 1029) hx hb dL_holds_1022 (by decide) (fun c_153 => ?_) (fun c_153 => ?_)
                                                              · exact absurd c_153 (Int32.not_lt.mpr hsv)
                                                              · refine lv_iconst (v := 1) hx hb dL_holds_1025 (by decide) ?_
                                                                refine lv_goto (tgt := 1030) hx hb dL_holds_1026 (by decide) ?_
                                                                exact rt_zq (X' := X_151) hQ rfl rfl hx hb hr hlocks hS dL_holds_1030 (va_PR hP) (va_DR hD) rfl (⟨rfl, hO_152⟩)
                                                      · have c_145 : ¬ (nw ≤ w) := fun h9 => c_145 ((nI_leI (a := nw) (b := w) (by omega) (by omega)).mpr h9)
                                                        refine lv_iload hx hb dL_holds_965 (lv_at hl 1 rfl) ?_
                                                        refine lv_aload_n hx hb dL_holds_967 rfl (lv_at hl 19 rfl) ?_
                                                        refine lv_iload hx hb dL_holds_968 (lv_at hl 0 rfl) ?_
                                                        refine lv_iconst (v := 0) hx hb dL_holds_970 (by decide) ?_
                                                        obtain ⟨X_154, hO_155, hM9⟩ := o_noted_0 (l := l) (D := D) hSR hO_144 (r := w) (nw := nw) (by omega) hn hn2
                                                        refine lo_I (n := 2) (As := [.int (nI w), .int 0]) (rest := [.int (exF S w)]) hx hb hml hown hts hK hN hM9 (OX.at0 hO_144) gL_holds_X4_noted rfl (by decide +kernel) (by decide) dL_holds_971 rfl rfl (Nat.le_of_ble_eq_true rfl) hl.1 (Nat.le_of_ble_eq_true rfl) (Nat.le_of_ble_eq_true rfl) (Nat.le_of_ble_eq_true rfl) (Nat.le_of_ble_eq_true rfl) hP hD hS hA (fun H locs hP hD hS => ?_)
                                                        clear hM9
                                                        refine tp_e (y := (S 5 w)) (if_neg (show ¬ nw ≤ w from by omega)) ?_
                                                        refine lv_aload_n hx hb dL_holds_974 rfl (lv_at hl 19 rfl) ?_
                                                        refine lv_iload hx hb dL_holds_975 (lv_at hl 0 rfl) ?_
                                                        refine lv_iconst (v := 2) hx hb dL_holds_977 (by decide) ?_
                                                        obtain ⟨X_156, hO_157, hM9⟩ := o_noted_2 (l := l) (D := D) hSR hO_155 (r := w) (nw := nw) (by omega) hn hn2
                                                        refine lo_I (n := 2) (As := [.int (nI w), .int 2]) (rest := [.int (S 5 w), .int (exF S w)]) hx hb hml hown hts hK hN hM9 (OX.at0 hO_155) gL_holds_X4_noted rfl (by decide +kernel) (by decide) dL_holds_978 rfl rfl (Nat.le_of_ble_eq_true rfl) hl.1 (Nat.le_of_ble_eq_true rfl) (Nat.le_of_ble_eq_true rfl) (Nat.le_of_ble_eq_true rfl) (Nat.le_of_ble_eq_true rfl) hP hD hS hA (fun H locs hP hD hS => ?_)
                                                        clear hM9
                                                        refine tp_e (y := (bcF (S 6 w))) (if_neg (show ¬ nw ≤ w from by omega)) ?_
                                                        refine lv_imul hx hb dL_holds_981 ?_
                                                        refine lv_iadd hx hb dL_holds_982 ?_
                                                        refine lv_istore (lv' := [(18, .int ((exF S w) + ((S 5 w) * (bcF (S 6 w))))), (19, .int (nI w)), (11, .int 1), (17, .int (mdF (CO f) 9)), (16, .int ((bsF f S (512 - 1)).2)), (15, .int ((bsF f S (512 - 1)).1)), (14, .int (rwT f (512 - 1))), (13, .int (nI ((oL f).length))), (12, .int (wyF f 0 false (512 - 1))), (10, .int (dsF (S 4) 9)), (9, .int (dsF (S 0) 9)), (8, .int (dsF (mnS S) 9)), (7, .ref n_7), (6, .ref n_6), (5, .ref n_5), (4, .ref n_4), (3, .ref n_3), (2, .ref n_2), (1, .ref n_1), (0, .ref x0)]) hx hb dL_holds_983 hl (by decide) rfl (fun ls hl => ?_)
                                                        refine lv_iinc (v := (nI (w + 1))) (lv' := [(19, .int (nI (w + 1))), (18, .int ((exF S w) + ((S 5 w) * (bcF (S 6 w))))), (11, .int 1), (17, .int (mdF (CO f) 9)), (16, .int ((bsF f S (512 - 1)).2)), (15, .int ((bsF f S (512 - 1)).1)), (14, .int (rwT f (512 - 1))), (13, .int (nI ((oL f).length))), (12, .int (wyF f 0 false (512 - 1))), (10, .int (dsF (S 4) 9)), (9, .int (dsF (S 0) 9)), (8, .int (dsF (mnS S) 9)), (7, .ref n_7), (6, .ref n_6), (5, .ref n_5), (4, .ref n_4), (3, .ref n_3), (2, .ref n_2), (1, .ref n_1), (0, .ref x0)]) hx hb dL_holds_985 hl (k := 1) rfl (nI_1 w) (by decide) rfl (fun ls hl => ?_)
                                                        refine lv_goto (tgt := 955) hx hb dL_holds_988 (by decide) ?_
                                                        exact ih_w (w + 1) ((exF S w) + ((S 5 w) * (bcF (S 6 w)))) X_156 (by omega) (by omega) (rfl) (hO_157) _ _ _ hP hD hS (lv_sub hl [0, 1, 2, 3, 4, 5, 6, 7, 8, 9, 10, 11, 12, 13, 14, 15, 16, 17, 18, 19] rfl)
                                                  · have c_142 : ¬ ((oL f).length ≤ r) := fun h9 => c_142 ((nI_leI (a := (oL f).length) (b := r) (by omega) (by omega)).mpr h9)
                                                    refine lv_iload hx hb dL_holds_883 (lv_at hl 0 rfl) ?_
                                                    refine lv_bipush (v := 40) hx hb dL_holds_885 (by decide) ?_
                                                    refine lv_icmp_ge (tgt := 949) hx hb dL_holds_887 (by decide) (fun c_158 => ?_) (fun c_158 => ?_)
                                                    · have c_158 : 40 ≤ r := (nI_leI (a := 40) (b := r) (by omega) (by omega)).mp c_158
                                                      have hz_r : 40 = r := by omega
                                                      subst hz_r
                                                      refine lv_iconst (v := 0) hx hb dL_holds_949 (by decide) ?_
                                                      refine lv_istore (lv' := [(18, .int 0), (11, .int 1), (17, .int (mdF (CO f) 9)), (16, .int ((bsF f S (512 - 1)).2)), (15, .int ((bsF f S (512 - 1)).1)), (14, .int (rwT f (512 - 1))), (13, .int (nI ((oL f).length))), (12, .int (wyF f 0 false (512 - 1))), (10, .int (dsF (S 4) 9)), (9, .int (dsF (S 0) 9)), (8, .int (dsF (mnS S) 9)), (7, .ref n_7), (6, .ref n_6), (5, .ref n_5), (4, .ref n_4), (3, .ref n_3), (2, .ref n_2), (1, .ref n_1), (0, .ref x0)]) hx hb dL_holds_950 hl (by decide) rfl (fun ls hl => ?_)
                                                      refine lv_iconst (v := 0) hx hb dL_holds_952 (by decide) ?_
                                                      refine lv_istore (lv' := [(19, .int 0), (18, .int 0), (11, .int 1), (17, .int (mdF (CO f) 9)), (16, .int ((bsF f S (512 - 1)).2)), (15, .int ((bsF f S (512 - 1)).1)), (14, .int (rwT f (512 - 1))), (13, .int (nI ((oL f).length))), (12, .int (wyF f 0 false (512 - 1))), (10, .int (dsF (S 4) 9)), (9, .int (dsF (S 0) 9)), (8, .int (dsF (mnS S) 9)), (7, .ref n_7), (6, .ref n_6), (5, .ref n_5), (4, .ref n_4), (3, .ref n_3), (2, .ref n_2), (1, .ref n_1), (0, .ref x0)]) hx hb dL_holds_953 hl (by decide) rfl (fun ls hl => ?_)
                                                      suffices LOOP_w : ∀ (fu_w w : Nat) (v18 : Int32) (Xg : va_W), nw - w < fu_w → w ≤ nw → v18 = exF S w → (OX k x0 ns S Z Y0 k0 Xg) → ∀ (H : Heap) (locs : List Loc) (ls : Array Slot), va_P D vwCl ([(n_7, .inl (k 0, 9, .inl (inW f true (512 - 1)))), (n_6, .inl (k 0, 9, .inl (inW f false (512 - 1)))), (n_5, .inl (k 0, 9, .inl (bhG (S 2)))), (n_4, .inl (k 0, 9, .inl (S 4))), (n_3, .inl (k 0, 9, .inl (S 3))), (n_2, .inl (k 0, 9, .inl (S 1))), (n_1, .inl (k 0, 9, .inl (S 2)))] ++ (Xg)) H → va_D A ([(n_7, .inl (k 0, 9, .inl (inW f true (512 - 1)))), (n_6, .inl (k 0, 9, .inl (inW f false (512 - 1)))), (n_5, .inl (k 0, 9, .inl (bhG (S 2)))), (n_4, .inl (k 0, 9, .inl (S 4))), (n_3, .inl (k 0, 9, .inl (S 3))), (n_2, .inl (k 0, 9, .inl (S 1))), (n_1, .inl (k 0, 9, .inl (S 2)))] ++ (Xg)) → va_S A s.heap H locs → lv_has ls 22 [(19, .int (nI w)), (18, .int v18), (11, .int 1), (17, .int (mdF (CO f) 9)), (16, .int ((bsF f S (512 - 1)).2)), (15, .int ((bsF f S (512 - 1)).1)), (14, .int (rwT f (512 - 1))), (13, .int (nI ((oL f).length))), (12, .int (wyF f 0 false (512 - 1))), (10, .int (dsF (S 4) 9)), (9, .int (dsF (S 0) 9)), (8, .int (dsF (mnS S) 9)), (7, .ref n_7), (6, .ref n_6), (5, .ref n_5), (4, .ref n_4), (3, .ref n_3), (2, .ref n_2), (1, .ref n_1), (0, .ref x0)] → W p l e ({ frames := 31, cells := 7, slots := 63, locals := 839 } : Room) s m ([.ref x0] : List Value).toArray below meth c H locs 7 63 Q (F0 m 955 ls []) from LOOP_w (nw + 1) 0 0 Xf (by omega) (by omega) (rfl) (hOf) _ _ _ hP hD hS (lv_sub hl [0, 1, 2, 3, 4, 5, 6, 7, 8, 9, 10, 11, 12, 13, 14, 15, 16, 17, 18, 19] rfl)
                                                      clear hP hD hS hl
                                                      intro fu_w
                                                      induction fu_w with
                                                      | zero => intro w v18 Xg hn_w; omega
                                                      | succ fu_w ih_w =>
                                                        intro w v18 Xg hn_w hle_w e_v18 hOg H locs ls hP hD hS hl
                                                        subst e_v18
                                                        refine lv_iload hx hb dL_holds_955 (lv_at hl 0 rfl) ?_
                                                        refine lv_aload_n hx hb dL_holds_957 rfl (lv_at hl 19 rfl) ?_
                                                        refine lv_iconst (v := 3) hx hb dL_holds_958 (by decide) ?_
                                                        obtain ⟨X_159, hO_160, hM9⟩ := o_count_3 (l := l) (D := D) hSR hOg
                                                        refine lo_I (n := 1) (As := [.int 3]) (rest := [.int (nI w)]) hx hb hml hown hts hK hN hM9 (OX.at0 hOg) gL_holds_X4_count rfl (by decide +kernel) (by decide) dL_holds_959 rfl rfl (Nat.le_of_ble_eq_true rfl) hl.1 (Nat.le_of_ble_eq_true rfl) (Nat.le_of_ble_eq_true rfl) (Nat.le_of_ble_eq_true rfl) (Nat.le_of_ble_eq_true rfl) hP hD hS hA (fun H locs hP hD hS => ?_)
                                                        clear hM9
                                                        refine tp_e (y := (nI nw)) hn ?_
                                                        refine lv_icmp_ge (tgt := 991) hx hb dL_holds_962 (by decide) (fun c_161 => ?_) (fun c_161 => ?_)
                                                        · have c_161 : nw ≤ w := (nI_leI (a := nw) (b := w) (by omega) (by omega)).mp c_161
                                                          have hz_w : nw = w := by omega
                                                          subst hz_w
                                                          refine lv_iload hx hb dL_holds_991 (lv_at hl 2 rfl) ?_
                                                          refine lv_if_eq (tgt := 1029) hx hb dL_holds_993 (by decide) (fun c_162 => ?_) (fun c_162 => ?_)
                                                          · exact absurd c_162 (by decide)
                                                          · refine lv_aload_n hx hb dL_holds_996 rfl (lv_at hl 19 rfl) ?_
                                                            refine lv_iload hx hb dL_holds_997 (lv_at hl 7 rfl) ?_
                                                            obtain ⟨X_163, hO_164, hM9⟩ := o_openWay (l := l) (D := D) hSR hO_160 (r := ((oL f).length)) (by omega)
                                                            refine lo_I (n := 1) (As := [.int (nI ((oL f).length))]) (rest := []) hx hb hml hown hts hK hN hM9 (OX.at0 hO_160) gL_holds_X4_openWay rfl (by decide +kernel) (by decide) dL_holds_999 rfl rfl (Nat.le_of_ble_eq_true rfl) hl.1 (Nat.le_of_ble_eq_true rfl) (Nat.le_of_ble_eq_true rfl) (Nat.le_of_ble_eq_true rfl) (Nat.le_of_ble_eq_true rfl) hP hD hS hA (fun H locs hP hD hS => ?_)
                                                            clear hM9
                                                            refine lv_iconst (v := (-1)) hx hb dL_holds_1002 (by decide) ?_
                                                            refine lv_icmp_ne (tgt := 1029) hx hb dL_holds_1003 (by decide) (fun c_165 => ?_) (fun c_165 => ?_)
                                                            · exact absurd (dif_len f) c_165
                                                            · refine lv_iload hx hb dL_holds_1006 (lv_at hl 1 rfl) ?_
                                                              refine lv_iload hx hb dL_holds_1008 (lv_at hl 10 rfl) ?_
                                                              refine lv_iload hx hb dL_holds_1010 (lv_at hl 9 rfl) ?_
                                                              refine lv_isub hx hb dL_holds_1012 ?_
                                                              refine lv_icmp_ne (tgt := 1029) hx hb dL_holds_1013 (by decide) (fun c_166 => ?_) (fun c_166 => ?_)
                                                              · exact absurd (by rw [dsF_9, dsF_9]; exact hEX nw hn2 hn) c_166
                                                              · refine lv_aload_n hx hb dL_holds_1016 rfl (lv_at hl 19 rfl) ?_
                                                                obtain ⟨X_167, hO_168, hM9⟩ := o_ifSplit (l := l) (D := D) hSR hO_164 (nw := nw) hn hn2
                                                                refine lo_I (n := 0) (As := []) (rest := []) hx hb hml hown hts hK hN hM9 (OX.at0 hO_164) gL_holds_X4_ifSplit rfl (by decide +kernel) (by decide) dL_holds_1017 rfl rfl (Nat.le_of_ble_eq_true rfl) hl.1 (Nat.le_of_ble_eq_true rfl) (Nat.le_of_ble_eq_true rfl) (Nat.le_of_ble_eq_true rfl) (Nat.le_of_ble_eq_true rfl) hP hD hS hA (fun H locs hP hD hS => ?_)
                                                                clear hM9
                                                                refine lv_topi (fun sv esv => ?_)
                                                                have hsv : sv ≤ dsF (S 4) 9 := by rw [dsF_9, esv]; exact hsl
                                                                clear esv
                                                                refine lv_iload hx hb dL_holds_1020 (lv_at hl 9 rfl) ?_
                                                                refine lv_icmp_gt (tgt := 1029) hx hb dL_holds_1022 (by decide) (fun c_169 => ?_) (fun c_169 => ?_)
                                                                · exact absurd c_169 (Int32.not_lt.mpr hsv)
                                                                · refine lv_iconst (v := 1) hx hb dL_holds_1025 (by decide) ?_
                                                                  refine lv_goto (tgt := 1030) hx hb dL_holds_1026 (by decide) ?_
                                                                  exact rt_zq (X' := X_167) hQ rfl rfl hx hb hr hlocks hS dL_holds_1030 (va_PR hP) (va_DR hD) rfl (⟨rfl, hO_168⟩)
                                                        · have c_161 : ¬ (nw ≤ w) := fun h9 => c_161 ((nI_leI (a := nw) (b := w) (by omega) (by omega)).mpr h9)
                                                          refine lv_iload hx hb dL_holds_965 (lv_at hl 1 rfl) ?_
                                                          refine lv_aload_n hx hb dL_holds_967 rfl (lv_at hl 19 rfl) ?_
                                                          refine lv_iload hx hb dL_holds_968 (lv_at hl 0 rfl) ?_
                                                          refine lv_iconst (v := 0) hx hb dL_holds_970 (by decide) ?_
                                                          obtain ⟨X_170, hO_171, hM9⟩ := o_noted_0 (l := l) (D := D) hSR hO_160 (r := w) (nw := nw) (by omega) hn hn2
                                                          refine lo_I (n := 2) (As := [.int (nI w), .int 0]) (rest := [.int (exF S w)]) hx hb hml hown hts hK hN hM9 (OX.at0 hO_160) gL_holds_X4_noted rfl (by decide +kernel) (by decide) dL_holds_971 rfl rfl (Nat.le_of_ble_eq_true rfl) hl.1 (Nat.le_of_ble_eq_true rfl) (Nat.le_of_ble_eq_true rfl) (Nat.le_of_ble_eq_true rfl) (Nat.le_of_ble_eq_true rfl) hP hD hS hA (fun H locs hP hD hS => ?_)
                                                          clear hM9
                                                          refine tp_e (y := (S 5 w)) (if_neg (show ¬ nw ≤ w from by omega)) ?_
                                                          refine lv_aload_n hx hb dL_holds_974 rfl (lv_at hl 19 rfl) ?_
                                                          refine lv_iload hx hb dL_holds_975 (lv_at hl 0 rfl) ?_
                                                          refine lv_iconst (v := 2) hx hb dL_holds_977 (by decide) ?_
                                                          obtain ⟨X_172, hO_173, hM9⟩ := o_noted_2 (l := l) (D := D) hSR hO_171 (r := w) (nw := nw) (by omega) hn hn2
                                                          refine lo_I (n := 2) (As := [.int (nI w), .int 2]) (rest := [.int (S 5 w), .int (exF S w)]) hx hb hml hown hts hK hN hM9 (OX.at0 hO_171) gL_holds_X4_noted rfl (by decide +kernel) (by decide) dL_holds_978 rfl rfl (Nat.le_of_ble_eq_true rfl) hl.1 (Nat.le_of_ble_eq_true rfl) (Nat.le_of_ble_eq_true rfl) (Nat.le_of_ble_eq_true rfl) (Nat.le_of_ble_eq_true rfl) hP hD hS hA (fun H locs hP hD hS => ?_)
                                                          clear hM9
                                                          refine tp_e (y := (bcF (S 6 w))) (if_neg (show ¬ nw ≤ w from by omega)) ?_
                                                          refine lv_imul hx hb dL_holds_981 ?_
                                                          refine lv_iadd hx hb dL_holds_982 ?_
                                                          refine lv_istore (lv' := [(18, .int ((exF S w) + ((S 5 w) * (bcF (S 6 w))))), (19, .int (nI w)), (11, .int 1), (17, .int (mdF (CO f) 9)), (16, .int ((bsF f S (512 - 1)).2)), (15, .int ((bsF f S (512 - 1)).1)), (14, .int (rwT f (512 - 1))), (13, .int (nI ((oL f).length))), (12, .int (wyF f 0 false (512 - 1))), (10, .int (dsF (S 4) 9)), (9, .int (dsF (S 0) 9)), (8, .int (dsF (mnS S) 9)), (7, .ref n_7), (6, .ref n_6), (5, .ref n_5), (4, .ref n_4), (3, .ref n_3), (2, .ref n_2), (1, .ref n_1), (0, .ref x0)]) hx hb dL_holds_983 hl (by decide) rfl (fun ls hl => ?_)
                                                          refine lv_iinc (v := (nI (w + 1))) (lv' := [(19, .int (nI (w + 1))), (18, .int ((exF S w) + ((S 5 w) * (bcF (S 6 w))))), (11, .int 1), (17, .int (mdF (CO f) 9)), (16, .int ((bsF f S (512 - 1)).2)), (15, .int ((bsF f S (512 - 1)).1)), (14, .int (rwT f (512 - 1))), (13, .int (nI ((oL f).length))), (12, .int (wyF f 0 false (512 - 1))), (10, .int (dsF (S 4) 9)), (9, .int (dsF (S 0) 9)), (8, .int (dsF (mnS S) 9)), (7, .ref n_7), (6, .ref n_6), (5, .ref n_5), (4, .ref n_4), (3, .ref n_3), (2, .ref n_2), (1, .ref n_1), (0, .ref x0)]) hx hb dL_holds_985 hl (k := 1) rfl (nI_1 w) (by decide) rfl (fun ls hl => ?_)
                                                          refine lv_goto (tgt := 955) hx hb dL_holds_988 (by decide) ?_
                                                          exact ih_w (w + 1) ((exF S w) + ((S 5 w) * (bcF (S 6 w)))) X_172 (by omega) (by omega) (rfl) (hO_173) _ _ _ hP hD hS (lv_sub hl [0, 1, 2, 3, 4, 5, 6, 7, 8, 9, 10, 11, 12, 13, 14, 15, 16, 17, 18, 19] rfl)
                                                    · have c_158 : ¬ (40 ≤ r) := fun h9 => c_158 ((nI_leI (a := 40) (b := r) (by omega) (by omega)).mpr h9)
                                                      refine lv_iload hx hb dL_holds_890 (lv_at hl 1 rfl) ?_
                                                      refine lv_if_eq (tgt := 949) hx hb dL_holds_892 (by decide) (fun c_174 => ?_) (fun c_174 => ?_)
                                                      · exact absurd c_174 (by decide)
                                                      · refine lv_aload_n hx hb dL_holds_895 rfl (lv_at hl 18 rfl) ?_
                                                        refine lv_iload hx hb dL_holds_896 (lv_at hl 0 rfl) ?_
                                                        obtain ⟨X_175, hO_176, hM9⟩ := o_openWay (l := l) (D := D) hSR hOf (r := r) (by omega)
                                                        refine lo_I (n := 1) (As := [.int (nI r)]) (rest := []) hx hb hml hown hts hK hN hM9 (OX.at0 hOf) gL_holds_X4_openWay rfl (by decide +kernel) (by decide) dL_holds_898 rfl rfl (Nat.le_of_ble_eq_true rfl) hl.1 (Nat.le_of_ble_eq_true rfl) (Nat.le_of_ble_eq_true rfl) (Nat.le_of_ble_eq_true rfl) (Nat.le_of_ble_eq_true rfl) hP hD hS hA (fun H locs hP hD hS => ?_)
                                                        clear hM9
                                                        have hr : r < (oL f).length := by omega
                                                        obtain ⟨z, hz⟩ : ∃ z, z = (oL f)[r] := ⟨_, rfl⟩
                                                        have hz1 : 1 ≤ z ∧ z < 512 ∧ ioB f (nI z) = true := by rw [hz]; exact oL_in.mp (List.getElem_mem hr)
                                                        refine tp_e (y := (nI z)) (by rw [dif_pos hr, hz]) ?_
                                                        refine lv_istore (lv' := [(19, .int (nI z)), (18, .int (nI r)), (11, .int 1), (17, .int (mdF (CO f) 9)), (16, .int ((bsF f S (512 - 1)).2)), (15, .int ((bsF f S (512 - 1)).1)), (14, .int (rwT f (512 - 1))), (13, .int (nI ((oL f).length))), (12, .int (wyF f 0 false (512 - 1))), (10, .int (dsF (S 4) 9)), (9, .int (dsF (S 0) 9)), (8, .int (dsF (mnS S) 9)), (7, .ref n_7), (6, .ref n_6), (5, .ref n_5), (4, .ref n_4), (3, .ref n_3), (2, .ref n_2), (1, .ref n_1), (0, .ref x0)]) hx hb dL_holds_901 hl (by decide) rfl (fun ls hl => ?_)
                                                        refine lv_aload_n hx hb dL_holds_903 rfl (lv_at hl 18 rfl) ?_
                                                        refine lv_aload_n hx hb dL_holds_904 rfl (lv_at hl 17 rfl) ?_
                                                        refine lv_aload_n hx hb dL_holds_905 rfl (lv_at hl 16 rfl) ?_
                                                        refine lv_iload hx hb dL_holds_906 (lv_at hl 0 rfl) ?_
                                                        have hPc : va_P D vwCl ([(n_1, .inl (k 0, 9, .inl (S 2))), (n_2, .inl (k 0, 9, .inl (S 1))), (n_3, .inl (k 0, 9, .inl (S 3)))]) H := hP.sub [6, 5, 4] rfl
                                                        have hDc : va_D A ([(n_1, .inl (k 0, 9, .inl (S 2))), (n_2, .inl (k 0, 9, .inl (S 1))), (n_3, .inl (k 0, 9, .inl (S 3)))]) := hD.sub [6, 5, 4] (by decide +kernel) rfl
                                                        refine cl_i0 (va_runS (As := [.ref n_1, .ref n_2, .ref n_3, .int (nI z)]) (rest := []) ⟨hx, hb, hml, hown, hts⟩ (c_L_way l D k n_1 n_2 n_3 S f z hG hz1.1 hz1.2.1 H.size) (va_cwS 4 hts gL_holds_L_way rfl rfl rfl (by decide +kernel) ⟨Nat.le_of_ble_eq_true rfl, Nat.le_of_ble_eq_true rfl⟩) ⟨pr_blind, pr_at hN hPc hK hDc⟩ rfl rfl hl.1 rfl (lv_room (Nat.le_of_ble_eq_true rfl)) dL_holds_908 ⟨Nat.le_of_ble_eq_true rfl, Nat.le_of_ble_eq_true rfl⟩) hP hD hS hA [6, 5, 4] rfl (fun H locs hP hD hS => ?_)
                                                        clear hPc hDc
                                                        refine lv_iconst (v := 2) hx hb dL_holds_911 (by decide) ?_
                                                        refine lv_icmp_ne (tgt := 940) hx hb dL_holds_912 (by decide) (fun c_177 => ?_) (fun c_177 => ?_)
                                                        · exact absurd (by unfold wyV; rw [if_pos hz1.2.2]) c_177
                                                        · refine lv_iload hx hb dL_holds_915 (lv_at hl 1 rfl) ?_
                                                          refine lv_if_eq (tgt := 936) hx hb dL_holds_917 (by decide) (fun c_178 => ?_) (fun c_178 => ?_)
                                                          · have c_178 : r = 0 := (nI_eq (a := r) (b := 0) (by omega) (by omega)).mp c_178
                                                            refine lv_iconst (v := 1) hx hb dL_holds_936 (by decide) ?_
                                                            refine lv_goto (tgt := 941) hx hb dL_holds_937 (by decide) ?_
                                                            refine lv_istore (lv' := [(11, .int 1), (19, .int (nI z)), (18, .int (nI r)), (17, .int (mdF (CO f) 9)), (16, .int ((bsF f S (512 - 1)).2)), (15, .int ((bsF f S (512 - 1)).1)), (14, .int (rwT f (512 - 1))), (13, .int (nI ((oL f).length))), (12, .int (wyF f 0 false (512 - 1))), (10, .int (dsF (S 4) 9)), (9, .int (dsF (S 0) 9)), (8, .int (dsF (mnS S) 9)), (7, .ref n_7), (6, .ref n_6), (5, .ref n_5), (4, .ref n_4), (3, .ref n_3), (2, .ref n_2), (1, .ref n_1), (0, .ref x0)]) hx hb dL_holds_941 hl (by decide) rfl (fun ls hl => ?_)
                                                            refine lv_iinc (v := (nI (r + 1))) (lv' := [(18, .int (nI (r + 1))), (11, .int 1), (19, .int (nI z)), (17, .int (mdF (CO f) 9)), (16, .int ((bsF f S (512 - 1)).2)), (15, .int ((bsF f S (512 - 1)).1)), (14, .int (rwT f (512 - 1))), (13, .int (nI ((oL f).length))), (12, .int (wyF f 0 false (512 - 1))), (10, .int (dsF (S 4) 9)), (9, .int (dsF (S 0) 9)), (8, .int (dsF (mnS S) 9)), (7, .ref n_7), (6, .ref n_6), (5, .ref n_5), (4, .ref n_4), (3, .ref n_3), (2, .ref n_2), (1, .ref n_1), (0, .ref x0)]) hx hb dL_holds_943 hl (k := 2) rfl (nI_1 r) (by decide) rfl (fun ls hl => ?_)
                                                            refine lv_goto (tgt := 876) hx hb dL_holds_946 (by decide) ?_
                                                            exact ih_r (r + 1) X_175 (by omega) (by omega)  (hO_176) _ _ _ hP hD hS (lv_sub hl [0, 1, 3, 4, 5, 6, 7, 8, 9, 10, 11, 12, 13, 14, 15, 16, 17, 18, 19] rfl)
                                                          · have c_178 : ¬ (r = 0) := fun h9 => c_178 ((nI_eq (a := r) (b := 0) (by omega) (by omega)).mpr h9)
                                                            refine lv_aload_n hx hb dL_holds_920 rfl (lv_at hl 19 rfl) ?_
                                                            refine lv_iload hx hb dL_holds_921 (lv_at hl 1 rfl) ?_
                                                            refine lv_iconst (v := 1) hx hb dL_holds_923 (by decide) ?_
                                                            refine lv_isub hx hb dL_holds_924 ?_
                                                            refine tp_e (y := (nI (r - 1))) (nI_subn (a := r) (b := 1) (by omega)) ?_
                                                            obtain ⟨X_179, hO_180, hM9⟩ := o_openWay (l := l) (D := D) hSR hO_176 (r := (r - 1)) (by omega)
                                                            refine lo_I (n := 1) (As := [.int (nI (r - 1))]) (rest := []) hx hb hml hown hts hK hN hM9 (OX.at0 hO_176) gL_holds_X4_openWay rfl (by decide +kernel) (by decide) dL_holds_925 rfl rfl (Nat.le_of_ble_eq_true rfl) hl.1 (Nat.le_of_ble_eq_true rfl) (Nat.le_of_ble_eq_true rfl) (Nat.le_of_ble_eq_true rfl) (Nat.le_of_ble_eq_true rfl) hP hD hS hA (fun H locs hP hD hS => ?_)
                                                            clear hM9
                                                            obtain ⟨z2, hz2⟩ : ∃ z2, z2 = (oL f)[r - 1] := ⟨_, rfl⟩
                                                            have hst := oL_st f (show r - 1 < r from by omega) hr hz2 hz
                                                            refine tp_e (y := (nI z2)) (by rw [dif_pos (show r - 1 < (oL f).length from by omega), hz2]) ?_
                                                            refine lv_iload hx hb dL_holds_928 (lv_at hl 0 rfl) ?_
                                                            have hPc : va_P D vwCl ([]) H := hP.sub [] rfl
                                                            have hDc : va_D A ([]) := hD.sub [] (by decide +kernel) rfl
                                                            refine cl_i0 (va_runS (As := [.int (nI z2), .int (nI z)]) (rest := []) ⟨hx, hb, hml, hown, hts⟩ (c_L_isAhead l D k z2 z hst.2.2.1 hst.2.2.2 hst.2.1 H.size) (va_cwS 2 hts gL_holds_L_isAhead rfl rfl rfl (by decide +kernel) ⟨Nat.le_of_ble_eq_true rfl, Nat.le_of_ble_eq_true rfl⟩) ⟨pr_blind, pr_at hN hPc hK hDc⟩ rfl rfl hl.1 rfl (lv_room (Nat.le_of_ble_eq_true rfl)) dL_holds_930 ⟨Nat.le_of_ble_eq_true rfl, Nat.le_of_ble_eq_true rfl⟩) hP hD hS hA [] rfl (fun H locs hP hD hS => ?_)
                                                            clear hPc hDc
                                                            refine lv_if_eq (tgt := 940) hx hb dL_holds_933 (by decide) (fun c_181 => ?_) (fun c_181 => ?_)
                                                            · have c_181 := bI_eq.mp c_181
                                                              exact absurd c_181 (by rw [hst.1]; decide)
                                                            · have c_181 := bI_ne.mp c_181
                                                              refine lv_iconst (v := 1) hx hb dL_holds_936 (by decide) ?_
                                                              refine lv_goto (tgt := 941) hx hb dL_holds_937 (by decide) ?_
                                                              refine lv_istore (lv' := [(11, .int 1), (19, .int (nI z)), (18, .int (nI r)), (17, .int (mdF (CO f) 9)), (16, .int ((bsF f S (512 - 1)).2)), (15, .int ((bsF f S (512 - 1)).1)), (14, .int (rwT f (512 - 1))), (13, .int (nI ((oL f).length))), (12, .int (wyF f 0 false (512 - 1))), (10, .int (dsF (S 4) 9)), (9, .int (dsF (S 0) 9)), (8, .int (dsF (mnS S) 9)), (7, .ref n_7), (6, .ref n_6), (5, .ref n_5), (4, .ref n_4), (3, .ref n_3), (2, .ref n_2), (1, .ref n_1), (0, .ref x0)]) hx hb dL_holds_941 hl (by decide) rfl (fun ls hl => ?_)
                                                              refine lv_iinc (v := (nI (r + 1))) (lv' := [(18, .int (nI (r + 1))), (11, .int 1), (19, .int (nI z)), (17, .int (mdF (CO f) 9)), (16, .int ((bsF f S (512 - 1)).2)), (15, .int ((bsF f S (512 - 1)).1)), (14, .int (rwT f (512 - 1))), (13, .int (nI ((oL f).length))), (12, .int (wyF f 0 false (512 - 1))), (10, .int (dsF (S 4) 9)), (9, .int (dsF (S 0) 9)), (8, .int (dsF (mnS S) 9)), (7, .ref n_7), (6, .ref n_6), (5, .ref n_5), (4, .ref n_4), (3, .ref n_3), (2, .ref n_2), (1, .ref n_1), (0, .ref x0)]) hx hb dL_holds_943 hl (k := 2) rfl (nI_1 r) (by decide) rfl (fun ls hl => ?_)
                                                              refine lv_goto (tgt := 876) hx hb dL_holds_946 (by decide) ?_
                                                              exact ih_r (r + 1) X_179 (by omega) (by omega)  (hO_180) _ _ _ hP hD hS (lv_sub hl [0, 1, 3, 4, 5, 6, 7, 8, 9, 10, 11, 12, 13, 14, 15, 16, 17, 18, 19] rfl)
                                            · have hcv := c_140
                                              refine lv_dconst1 hx hb dL_holds_848 ?_
                                              refine lv_goto (tgt := 862) hx hb dL_holds_849 (by decide) ?_
                                              refine lv_dcmp hx hb dL_holds_862 ?_
                                              refine lv_if_ne (tgt := 870) hx hb dL_holds_863 (by decide) (fun c_182 => ?_) (fun c_182 => ?_)
                                              · exact absurd (ex_0 hcv) c_182
                                              · refine lv_iconst (v := 1) hx hb dL_holds_866 (by decide) ?_
                                                refine lv_goto (tgt := 871) hx hb dL_holds_867 (by decide) ?_
                                                refine lv_istore (lv' := [(11, .int 1), (18, .int (nI (9 - 9) + (-1 : Int32))), (17, .int (mdF (CO f) 9)), (16, .int ((bsF f S (512 - 1)).2)), (15, .int ((bsF f S (512 - 1)).1)), (14, .int (rwT f (512 - 1))), (13, .int (wyF f 0 true (512 - 1))), (12, .int (wyF f 0 false (512 - 1))), (10, .int (dsF (S 4) 9)), (9, .int (dsF (S 0) 9)), (8, .int (dsF (mnS S) 9)), (7, .ref n_7), (6, .ref n_6), (5, .ref n_5), (4, .ref n_4), (3, .ref n_3), (2, .ref n_2), (1, .ref n_1), (0, .ref x0)]) hx hb dL_holds_871 hl (by decide) rfl (fun ls hl => ?_)
                                                have hol := oL_511 f
                                                rw [show wyF f 0 true (512 - 1) = nI (oL f).length from open_n hG] at hl
                                                have hl : lv_has ls 22 [(11, .int 1), (18, .int (nI (9 - 9) + (-1 : Int32))), (17, .int (mdF (CO f) 9)), (16, .int ((bsF f S (512 - 1)).2)), (15, .int ((bsF f S (512 - 1)).1)), (14, .int (rwT f (512 - 1))), (13, .int (nI ((oL f).length))), (12, .int (wyF f 0 false (512 - 1))), (10, .int (dsF (S 4) 9)), (9, .int (dsF (S 0) 9)), (8, .int (dsF (mnS S) 9)), (7, .ref n_7), (6, .ref n_6), (5, .ref n_5), (4, .ref n_4), (3, .ref n_3), (2, .ref n_2), (1, .ref n_1), (0, .ref x0)] := hl
                                                refine lv_iconst (v := 0) hx hb dL_holds_873 (by decide) ?_
                                                refine lv_istore (lv' := [(18, .int 0), (11, .int 1), (17, .int (mdF (CO f) 9)), (16, .int ((bsF f S (512 - 1)).2)), (15, .int ((bsF f S (512 - 1)).1)), (14, .int (rwT f (512 - 1))), (13, .int (nI ((oL f).length))), (12, .int (wyF f 0 false (512 - 1))), (10, .int (dsF (S 4) 9)), (9, .int (dsF (S 0) 9)), (8, .int (dsF (mnS S) 9)), (7, .ref n_7), (6, .ref n_6), (5, .ref n_5), (4, .ref n_4), (3, .ref n_3), (2, .ref n_2), (1, .ref n_1), (0, .ref x0)]) hx hb dL_holds_874 hl (by decide) rfl (fun ls hl => ?_)
                                                suffices LOOP_r : ∀ (fu_r r : Nat) (Xf : va_W), 40 - r < fu_r → r ≤ 40 → (OX k x0 ns S Z Y0 k0 Xf) → ∀ (H : Heap) (locs : List Loc) (ls : Array Slot), va_P D vwCl ([(n_7, .inl (k 0, 9, .inl (inW f true (512 - 1)))), (n_6, .inl (k 0, 9, .inl (inW f false (512 - 1)))), (n_5, .inl (k 0, 9, .inl (bhG (S 2)))), (n_4, .inl (k 0, 9, .inl (S 4))), (n_3, .inl (k 0, 9, .inl (S 3))), (n_2, .inl (k 0, 9, .inl (S 1))), (n_1, .inl (k 0, 9, .inl (S 2)))] ++ (Xf)) H → va_D A ([(n_7, .inl (k 0, 9, .inl (inW f true (512 - 1)))), (n_6, .inl (k 0, 9, .inl (inW f false (512 - 1)))), (n_5, .inl (k 0, 9, .inl (bhG (S 2)))), (n_4, .inl (k 0, 9, .inl (S 4))), (n_3, .inl (k 0, 9, .inl (S 3))), (n_2, .inl (k 0, 9, .inl (S 1))), (n_1, .inl (k 0, 9, .inl (S 2)))] ++ (Xf)) → va_S A s.heap H locs → lv_has ls 22 [(18, .int (nI r)), (11, .int 1), (17, .int (mdF (CO f) 9)), (16, .int ((bsF f S (512 - 1)).2)), (15, .int ((bsF f S (512 - 1)).1)), (14, .int (rwT f (512 - 1))), (13, .int (nI ((oL f).length))), (12, .int (wyF f 0 false (512 - 1))), (10, .int (dsF (S 4) 9)), (9, .int (dsF (S 0) 9)), (8, .int (dsF (mnS S) 9)), (7, .ref n_7), (6, .ref n_6), (5, .ref n_5), (4, .ref n_4), (3, .ref n_3), (2, .ref n_2), (1, .ref n_1), (0, .ref x0)] → W p l e ({ frames := 31, cells := 7, slots := 63, locals := 839 } : Room) s m ([.ref x0] : List Value).toArray below meth c H locs 7 63 Q (F0 m 876 ls []) from LOOP_r (40 + 1) 0 X_138 (by omega) (by omega)  (hO_139) _ _ _ hP hD hS (lv_sub hl [0, 1, 2, 3, 4, 5, 6, 7, 8, 9, 10, 11, 12, 13, 14, 15, 16, 17, 18] rfl)
                                                clear hP hD hS hl
                                                intro fu_r
                                                induction fu_r with
                                                | zero => intro r Xf hn_r; omega
                                                | succ fu_r ih_r =>
                                                  intro r Xf hn_r hle_r  hOf H locs ls hP hD hS hl
                                                  refine lv_iload hx hb dL_holds_876 (lv_at hl 0 rfl) ?_
                                                  refine lv_iload hx hb dL_holds_878 (lv_at hl 6 rfl) ?_
                                                  refine lv_icmp_ge (tgt := 949) hx hb dL_holds_880 (by decide) (fun c_183 => ?_) (fun c_183 => ?_)
                                                  · have c_183 : (oL f).length ≤ r := (nI_leI (a := (oL f).length) (b := r) (by omega) (by omega)).mp c_183
                                                    refine lv_iconst (v := 0) hx hb dL_holds_949 (by decide) ?_
                                                    refine lv_istore (lv' := [(18, .int 0), (11, .int 1), (17, .int (mdF (CO f) 9)), (16, .int ((bsF f S (512 - 1)).2)), (15, .int ((bsF f S (512 - 1)).1)), (14, .int (rwT f (512 - 1))), (13, .int (nI ((oL f).length))), (12, .int (wyF f 0 false (512 - 1))), (10, .int (dsF (S 4) 9)), (9, .int (dsF (S 0) 9)), (8, .int (dsF (mnS S) 9)), (7, .ref n_7), (6, .ref n_6), (5, .ref n_5), (4, .ref n_4), (3, .ref n_3), (2, .ref n_2), (1, .ref n_1), (0, .ref x0)]) hx hb dL_holds_950 hl (by decide) rfl (fun ls hl => ?_)
                                                    refine lv_iconst (v := 0) hx hb dL_holds_952 (by decide) ?_
                                                    refine lv_istore (lv' := [(19, .int 0), (18, .int 0), (11, .int 1), (17, .int (mdF (CO f) 9)), (16, .int ((bsF f S (512 - 1)).2)), (15, .int ((bsF f S (512 - 1)).1)), (14, .int (rwT f (512 - 1))), (13, .int (nI ((oL f).length))), (12, .int (wyF f 0 false (512 - 1))), (10, .int (dsF (S 4) 9)), (9, .int (dsF (S 0) 9)), (8, .int (dsF (mnS S) 9)), (7, .ref n_7), (6, .ref n_6), (5, .ref n_5), (4, .ref n_4), (3, .ref n_3), (2, .ref n_2), (1, .ref n_1), (0, .ref x0)]) hx hb dL_holds_953 hl (by decide) rfl (fun ls hl => ?_)
                                                    suffices LOOP_w : ∀ (fu_w w : Nat) (v18 : Int32) (Xg : va_W), nw - w < fu_w → w ≤ nw → v18 = exF S w → (OX k x0 ns S Z Y0 k0 Xg) → ∀ (H : Heap) (locs : List Loc) (ls : Array Slot), va_P D vwCl ([(n_7, .inl (k 0, 9, .inl (inW f true (512 - 1)))), (n_6, .inl (k 0, 9, .inl (inW f false (512 - 1)))), (n_5, .inl (k 0, 9, .inl (bhG (S 2)))), (n_4, .inl (k 0, 9, .inl (S 4))), (n_3, .inl (k 0, 9, .inl (S 3))), (n_2, .inl (k 0, 9, .inl (S 1))), (n_1, .inl (k 0, 9, .inl (S 2)))] ++ (Xg)) H → va_D A ([(n_7, .inl (k 0, 9, .inl (inW f true (512 - 1)))), (n_6, .inl (k 0, 9, .inl (inW f false (512 - 1)))), (n_5, .inl (k 0, 9, .inl (bhG (S 2)))), (n_4, .inl (k 0, 9, .inl (S 4))), (n_3, .inl (k 0, 9, .inl (S 3))), (n_2, .inl (k 0, 9, .inl (S 1))), (n_1, .inl (k 0, 9, .inl (S 2)))] ++ (Xg)) → va_S A s.heap H locs → lv_has ls 22 [(19, .int (nI w)), (18, .int v18), (11, .int 1), (17, .int (mdF (CO f) 9)), (16, .int ((bsF f S (512 - 1)).2)), (15, .int ((bsF f S (512 - 1)).1)), (14, .int (rwT f (512 - 1))), (13, .int (nI ((oL f).length))), (12, .int (wyF f 0 false (512 - 1))), (10, .int (dsF (S 4) 9)), (9, .int (dsF (S 0) 9)), (8, .int (dsF (mnS S) 9)), (7, .ref n_7), (6, .ref n_6), (5, .ref n_5), (4, .ref n_4), (3, .ref n_3), (2, .ref n_2), (1, .ref n_1), (0, .ref x0)] → W p l e ({ frames := 31, cells := 7, slots := 63, locals := 839 } : Room) s m ([.ref x0] : List Value).toArray below meth c H locs 7 63 Q (F0 m 955 ls []) from LOOP_w (nw + 1) 0 0 Xf (by omega) (by omega) (rfl) (hOf) _ _ _ hP hD hS (lv_sub hl [0, 1, 2, 3, 4, 5, 6, 7, 8, 9, 10, 11, 12, 13, 14, 15, 16, 17, 18, 19] rfl)
                                                    clear hP hD hS hl
                                                    intro fu_w
                                                    induction fu_w with
                                                    | zero => intro w v18 Xg hn_w; omega
                                                    | succ fu_w ih_w =>
                                                      intro w v18 Xg hn_w hle_w e_v18 hOg H locs ls hP hD hS hl
                                                      subst e_v18
                                                      refine lv_iload hx hb dL_holds_955 (lv_at hl 0 rfl) ?_
                                                      refine lv_aload_n hx hb dL_holds_957 rfl (lv_at hl 19 rfl) ?_
                                                      refine lv_iconst (v := 3) hx hb dL_holds_958 (by decide) ?_
                                                      obtain ⟨X_184, hO_185, hM9⟩ := o_count_3 (l := l) (D := D) hSR hOg
                                                      refine lo_I (n := 1) (As := [.int 3]) (rest := [.int (nI w)]) hx hb hml hown hts hK hN hM9 (OX.at0 hOg) gL_holds_X4_count rfl (by decide +kernel) (by decide) dL_holds_959 rfl rfl (Nat.le_of_ble_eq_true rfl) hl.1 (Nat.le_of_ble_eq_true rfl) (Nat.le_of_ble_eq_true rfl) (Nat.le_of_ble_eq_true rfl) (Nat.le_of_ble_eq_true rfl) hP hD hS hA (fun H locs hP hD hS => ?_)
                                                      clear hM9
                                                      refine tp_e (y := (nI nw)) hn ?_
                                                      refine lv_icmp_ge (tgt := 991) hx hb dL_holds_962 (by decide) (fun c_186 => ?_) (fun c_186 => ?_)
                                                      · have c_186 : nw ≤ w := (nI_leI (a := nw) (b := w) (by omega) (by omega)).mp c_186
                                                        have hz_w : nw = w := by omega
                                                        subst hz_w
                                                        refine lv_iload hx hb dL_holds_991 (lv_at hl 2 rfl) ?_
                                                        refine lv_if_eq (tgt := 1029) hx hb dL_holds_993 (by decide) (fun c_187 => ?_) (fun c_187 => ?_)
                                                        · exact absurd c_187 (by decide)
                                                        · refine lv_aload_n hx hb dL_holds_996 rfl (lv_at hl 19 rfl) ?_
                                                          refine lv_iload hx hb dL_holds_997 (lv_at hl 7 rfl) ?_
                                                          obtain ⟨X_188, hO_189, hM9⟩ := o_openWay (l := l) (D := D) hSR hO_185 (r := ((oL f).length)) (by omega)
                                                          refine lo_I (n := 1) (As := [.int (nI ((oL f).length))]) (rest := []) hx hb hml hown hts hK hN hM9 (OX.at0 hO_185) gL_holds_X4_openWay rfl (by decide +kernel) (by decide) dL_holds_999 rfl rfl (Nat.le_of_ble_eq_true rfl) hl.1 (Nat.le_of_ble_eq_true rfl) (Nat.le_of_ble_eq_true rfl) (Nat.le_of_ble_eq_true rfl) (Nat.le_of_ble_eq_true rfl) hP hD hS hA (fun H locs hP hD hS => ?_)
                                                          clear hM9
                                                          refine lv_iconst (v := (-1)) hx hb dL_holds_1002 (by decide) ?_
                                                          refine lv_icmp_ne (tgt := 1029) hx hb dL_holds_1003 (by decide) (fun c_190 => ?_) (fun c_190 => ?_)
                                                          · exact absurd (dif_len f) c_190
                                                          · refine lv_iload hx hb dL_holds_1006 (lv_at hl 1 rfl) ?_
                                                            refine lv_iload hx hb dL_holds_1008 (lv_at hl 10 rfl) ?_
                                                            refine lv_iload hx hb dL_holds_1010 (lv_at hl 9 rfl) ?_
                                                            refine lv_isub hx hb dL_holds_1012 ?_
                                                            refine lv_icmp_ne (tgt := 1029) hx hb dL_holds_1013 (by decide) (fun c_191 => ?_) (fun c_191 => ?_)
                                                            · exact absurd (by rw [dsF_9, dsF_9]; exact hEX nw hn2 hn) c_191
                                                            · refine lv_aload_n hx hb dL_holds_1016 rfl (lv_at hl 19 rfl) ?_
                                                              obtain ⟨X_192, hO_193, hM9⟩ := o_ifSplit (l := l) (D := D) hSR hO_189 (nw := nw) hn hn2
                                                              refine lo_I (n := 0) (As := []) (rest := []) hx hb hml hown hts hK hN hM9 (OX.at0 hO_189) gL_holds_X4_ifSplit rfl (by decide +kernel) (by decide) dL_holds_1017 rfl rfl (Nat.le_of_ble_eq_true rfl) hl.1 (Nat.le_of_ble_eq_true rfl) (Nat.le_of_ble_eq_true rfl) (Nat.le_of_ble_eq_true rfl) (Nat.le_of_ble_eq_true rfl) hP hD hS hA (fun H locs hP hD hS => ?_)
                                                              clear hM9
                                                              refine lv_topi (fun sv esv => ?_)
                                                              have hsv : sv ≤ dsF (S 4) 9 := by rw [dsF_9, esv]; exact hsl
                                                              clear esv
                                                              refine lv_iload hx hb dL_holds_1020 (lv_at hl 9 rfl) ?_
                                                              refine lv_icmp_gt (tgt := 1029) hx hb dL_holds_1022 (by decide) (fun c_194 => ?_) (fun c_194 => ?_)
                                                              · exact absurd c_194 (Int32.not_lt.mpr hsv)
                                                              · refine lv_iconst (v := 1) hx hb dL_holds_1025 (by decide) ?_
                                                                refine lv_goto (tgt := 1030) hx hb dL_holds_1026 (by decide) ?_
                                                                exact rt_zq (X' := X_192) hQ rfl rfl hx hb hr hlocks hS dL_holds_1030 (va_PR hP) (va_DR hD) rfl (⟨rfl, hO_193⟩)
                                                      · have c_186 : ¬ (nw ≤ w) := fun h9 => c_186 ((nI_leI (a := nw) (b := w) (by omega) (by omega)).mpr h9)
                                                        refine lv_iload hx hb dL_holds_965 (lv_at hl 1 rfl) ?_
                                                        refine lv_aload_n hx hb dL_holds_967 rfl (lv_at hl 19 rfl) ?_
                                                        refine lv_iload hx hb dL_holds_968 (lv_at hl 0 rfl) ?_
                                                        refine lv_iconst (v := 0) hx hb dL_holds_970 (by decide) ?_
                                                        obtain ⟨X_195, hO_196, hM9⟩ := o_noted_0 (l := l) (D := D) hSR hO_185 (r := w) (nw := nw) (by omega) hn hn2
                                                        refine lo_I (n := 2) (As := [.int (nI w), .int 0]) (rest := [.int (exF S w)]) hx hb hml hown hts hK hN hM9 (OX.at0 hO_185) gL_holds_X4_noted rfl (by decide +kernel) (by decide) dL_holds_971 rfl rfl (Nat.le_of_ble_eq_true rfl) hl.1 (Nat.le_of_ble_eq_true rfl) (Nat.le_of_ble_eq_true rfl) (Nat.le_of_ble_eq_true rfl) (Nat.le_of_ble_eq_true rfl) hP hD hS hA (fun H locs hP hD hS => ?_)
                                                        clear hM9
                                                        refine tp_e (y := (S 5 w)) (if_neg (show ¬ nw ≤ w from by omega)) ?_
                                                        refine lv_aload_n hx hb dL_holds_974 rfl (lv_at hl 19 rfl) ?_
                                                        refine lv_iload hx hb dL_holds_975 (lv_at hl 0 rfl) ?_
                                                        refine lv_iconst (v := 2) hx hb dL_holds_977 (by decide) ?_
                                                        obtain ⟨X_197, hO_198, hM9⟩ := o_noted_2 (l := l) (D := D) hSR hO_196 (r := w) (nw := nw) (by omega) hn hn2
                                                        refine lo_I (n := 2) (As := [.int (nI w), .int 2]) (rest := [.int (S 5 w), .int (exF S w)]) hx hb hml hown hts hK hN hM9 (OX.at0 hO_196) gL_holds_X4_noted rfl (by decide +kernel) (by decide) dL_holds_978 rfl rfl (Nat.le_of_ble_eq_true rfl) hl.1 (Nat.le_of_ble_eq_true rfl) (Nat.le_of_ble_eq_true rfl) (Nat.le_of_ble_eq_true rfl) (Nat.le_of_ble_eq_true rfl) hP hD hS hA (fun H locs hP hD hS => ?_)
                                                        clear hM9
                                                        refine tp_e (y := (bcF (S 6 w))) (if_neg (show ¬ nw ≤ w from by omega)) ?_
                                                        refine lv_imul hx hb dL_holds_981 ?_
                                                        refine lv_iadd hx hb dL_holds_982 ?_
                                                        refine lv_istore (lv' := [(18, .int ((exF S w) + ((S 5 w) * (bcF (S 6 w))))), (19, .int (nI w)), (11, .int 1), (17, .int (mdF (CO f) 9)), (16, .int ((bsF f S (512 - 1)).2)), (15, .int ((bsF f S (512 - 1)).1)), (14, .int (rwT f (512 - 1))), (13, .int (nI ((oL f).length))), (12, .int (wyF f 0 false (512 - 1))), (10, .int (dsF (S 4) 9)), (9, .int (dsF (S 0) 9)), (8, .int (dsF (mnS S) 9)), (7, .ref n_7), (6, .ref n_6), (5, .ref n_5), (4, .ref n_4), (3, .ref n_3), (2, .ref n_2), (1, .ref n_1), (0, .ref x0)]) hx hb dL_holds_983 hl (by decide) rfl (fun ls hl => ?_)
                                                        refine lv_iinc (v := (nI (w + 1))) (lv' := [(19, .int (nI (w + 1))), (18, .int ((exF S w) + ((S 5 w) * (bcF (S 6 w))))), (11, .int 1), (17, .int (mdF (CO f) 9)), (16, .int ((bsF f S (512 - 1)).2)), (15, .int ((bsF f S (512 - 1)).1)), (14, .int (rwT f (512 - 1))), (13, .int (nI ((oL f).length))), (12, .int (wyF f 0 false (512 - 1))), (10, .int (dsF (S 4) 9)), (9, .int (dsF (S 0) 9)), (8, .int (dsF (mnS S) 9)), (7, .ref n_7), (6, .ref n_6), (5, .ref n_5), (4, .ref n_4), (3, .ref n_3), (2, .ref n_2), (1, .ref n_1), (0, .ref x0)]) hx hb dL_holds_985 hl (k := 1) rfl (nI_1 w) (by decide) rfl (fun ls hl => ?_)
                                                        refine lv_goto (tgt := 955) hx hb dL_holds_988 (by decide) ?_
                                                        exact ih_w (w + 1) ((exF S w) + ((S 5 w) * (bcF (S 6 w)))) X_197 (by omega) (by omega) (rfl) (hO_198) _ _ _ hP hD hS (lv_sub hl [0, 1, 2, 3, 4, 5, 6, 7, 8, 9, 10, 11, 12, 13, 14, 15, 16, 17, 18, 19] rfl)
                                                  · have c_183 : ¬ ((oL f).length ≤ r) := fun h9 => c_183 ((nI_leI (a := (oL f).length) (b := r) (by omega) (by omega)).mpr h9)
                                                    refine lv_iload hx hb dL_holds_883 (lv_at hl 0 rfl) ?_
                                                    refine lv_bipush (v := 40) hx hb dL_holds_885 (by decide) ?_
                                                    refine lv_icmp_ge (tgt := 949) hx hb dL_holds_887 (by decide) (fun c_199 => ?_) (fun c_199 => ?_)
                                                    · have c_199 : 40 ≤ r := (nI_leI (a := 40) (b := r) (by omega) (by omega)).mp c_199
                                                      have hz_r : 40 = r := by omega
                                                      subst hz_r
                                                      refine lv_iconst (v := 0) hx hb dL_holds_949 (by decide) ?_
                                                      refine lv_istore (lv' := [(18, .int 0), (11, .int 1), (17, .int (mdF (CO f) 9)), (16, .int ((bsF f S (512 - 1)).2)), (15, .int ((bsF f S (512 - 1)).1)), (14, .int (rwT f (512 - 1))), (13, .int (nI ((oL f).length))), (12, .int (wyF f 0 false (512 - 1))), (10, .int (dsF (S 4) 9)), (9, .int (dsF (S 0) 9)), (8, .int (dsF (mnS S) 9)), (7, .ref n_7), (6, .ref n_6), (5, .ref n_5), (4, .ref n_4), (3, .ref n_3), (2, .ref n_2), (1, .ref n_1), (0, .ref x0)]) hx hb dL_holds_950 hl (by decide) rfl (fun ls hl => ?_)
                                                      refine lv_iconst (v := 0) hx hb dL_holds_952 (by decide) ?_
                                                      refine lv_istore (lv' := [(19, .int 0), (18, .int 0), (11, .int 1), (17, .int (mdF (CO f) 9)), (16, .int ((bsF f S (512 - 1)).2)), (15, .int ((bsF f S (512 - 1)).1)), (14, .int (rwT f (512 - 1))), (13, .int (nI ((oL f).length))), (12, .int (wyF f 0 false (512 - 1))), (10, .int (dsF (S 4) 9)), (9, .int (dsF (S 0) 9)), (8, .int (dsF (mnS S) 9)), (7, .ref n_7), (6, .ref n_6), (5, .ref n_5), (4, .ref n_4), (3, .ref n_3), (2, .ref n_2), (1, .ref n_1), (0, .ref x0)]) hx hb dL_holds_953 hl (by decide) rfl (fun ls hl => ?_)
                                                      suffices LOOP_w : ∀ (fu_w w : Nat) (v18 : Int32) (Xg : va_W), nw - w < fu_w → w ≤ nw → v18 = exF S w → (OX k x0 ns S Z Y0 k0 Xg) → ∀ (H : Heap) (locs : List Loc) (ls : Array Slot), va_P D vwCl ([(n_7, .inl (k 0, 9, .inl (inW f true (512 - 1)))), (n_6, .inl (k 0, 9, .inl (inW f false (512 - 1)))), (n_5, .inl (k 0, 9, .inl (bhG (S 2)))), (n_4, .inl (k 0, 9, .inl (S 4))), (n_3, .inl (k 0, 9, .inl (S 3))), (n_2, .inl (k 0, 9, .inl (S 1))), (n_1, .inl (k 0, 9, .inl (S 2)))] ++ (Xg)) H → va_D A ([(n_7, .inl (k 0, 9, .inl (inW f true (512 - 1)))), (n_6, .inl (k 0, 9, .inl (inW f false (512 - 1)))), (n_5, .inl (k 0, 9, .inl (bhG (S 2)))), (n_4, .inl (k 0, 9, .inl (S 4))), (n_3, .inl (k 0, 9, .inl (S 3))), (n_2, .inl (k 0, 9, .inl (S 1))), (n_1, .inl (k 0, 9, .inl (S 2)))] ++ (Xg)) → va_S A s.heap H locs → lv_has ls 22 [(19, .int (nI w)), (18, .int v18), (11, .int 1), (17, .int (mdF (CO f) 9)), (16, .int ((bsF f S (512 - 1)).2)), (15, .int ((bsF f S (512 - 1)).1)), (14, .int (rwT f (512 - 1))), (13, .int (nI ((oL f).length))), (12, .int (wyF f 0 false (512 - 1))), (10, .int (dsF (S 4) 9)), (9, .int (dsF (S 0) 9)), (8, .int (dsF (mnS S) 9)), (7, .ref n_7), (6, .ref n_6), (5, .ref n_5), (4, .ref n_4), (3, .ref n_3), (2, .ref n_2), (1, .ref n_1), (0, .ref x0)] → W p l e ({ frames := 31, cells := 7, slots := 63, locals := 839 } : Room) s m ([.ref x0] : List Value).toArray below meth c H locs 7 63 Q (F0 m 955 ls []) from LOOP_w (nw + 1) 0 0 Xf (by omega) (by omega) (rfl) (hOf) _ _ _ hP hD hS (lv_sub hl [0, 1, 2, 3, 4, 5, 6, 7, 8, 9, 10, 11, 12, 13, 14, 15, 16, 17, 18, 19] rfl)
                                                      clear hP hD hS hl
                                                      intro fu_w
                                                      induction fu_w with
                                                      | zero => intro w v18 Xg hn_w; omega
                                                      | succ fu_w ih_w =>
                                                        intro w v18 Xg hn_w hle_w e_v18 hOg H locs ls hP hD hS hl
                                                        subst e_v18
                                                        refine lv_iload hx hb dL_holds_955 (lv_at hl 0 rfl) ?_
                                                        refine lv_aload_n hx hb dL_holds_957 rfl (lv_at hl 19 rfl) ?_
                                                        refine lv_iconst (v := 3) hx hb dL_holds_958 (by decide) ?_
                                                        obtain ⟨X_200, hO_201, hM9⟩ := o_count_3 (l := l) (D := D) hSR hOg
                                                        refine lo_I (n := 1) (As := [.int 3]) (rest := [.int (nI w)]) hx hb hml hown hts hK hN hM9 (OX.at0 hOg) gL_holds_X4_count rfl (by decide +kernel) (by decide) dL_holds_959 rfl rfl (Nat.le_of_ble_eq_true rfl) hl.1 (Nat.le_of_ble_eq_true rfl) (Nat.le_of_ble_eq_true rfl) (Nat.le_of_ble_eq_true rfl) (Nat.le_of_ble_eq_true rfl) hP hD hS hA (fun H locs hP hD hS => ?_)
                                                        clear hM9
                                                        refine tp_e (y := (nI nw)) hn ?_
                                                        refine lv_icmp_ge (tgt := 991) hx hb dL_holds_962 (by decide) (fun c_202 => ?_) (fun c_202 => ?_)
                                                        · have c_202 : nw ≤ w := (nI_leI (a := nw) (b := w) (by omega) (by omega)).mp c_202
                                                          have hz_w : nw = w := by omega
                                                          subst hz_w
                                                          refine lv_iload hx hb dL_holds_991 (lv_at hl 2 rfl) ?_
                                                          refine lv_if_eq (tgt := 1029) hx hb dL_holds_993 (by decide) (fun c_203 => ?_) (fun c_203 => ?_)
                                                          · exact absurd c_203 (by decide)
                                                          · refine lv_aload_n hx hb dL_holds_996 rfl (lv_at hl 19 rfl) ?_
                                                            refine lv_iload hx hb dL_holds_997 (lv_at hl 7 rfl) ?_
                                                            obtain ⟨X_204, hO_205, hM9⟩ := o_openWay (l := l) (D := D) hSR hO_201 (r := ((oL f).length)) (by omega)
                                                            refine lo_I (n := 1) (As := [.int (nI ((oL f).length))]) (rest := []) hx hb hml hown hts hK hN hM9 (OX.at0 hO_201) gL_holds_X4_openWay rfl (by decide +kernel) (by decide) dL_holds_999 rfl rfl (Nat.le_of_ble_eq_true rfl) hl.1 (Nat.le_of_ble_eq_true rfl) (Nat.le_of_ble_eq_true rfl) (Nat.le_of_ble_eq_true rfl) (Nat.le_of_ble_eq_true rfl) hP hD hS hA (fun H locs hP hD hS => ?_)
                                                            clear hM9
                                                            refine lv_iconst (v := (-1)) hx hb dL_holds_1002 (by decide) ?_
                                                            refine lv_icmp_ne (tgt := 1029) hx hb dL_holds_1003 (by decide) (fun c_206 => ?_) (fun c_206 => ?_)
                                                            · exact absurd (dif_len f) c_206
                                                            · refine lv_iload hx hb dL_holds_1006 (lv_at hl 1 rfl) ?_
                                                              refine lv_iload hx hb dL_holds_1008 (lv_at hl 10 rfl) ?_
                                                              refine lv_iload hx hb dL_holds_1010 (lv_at hl 9 rfl) ?_
                                                              refine lv_isub hx hb dL_holds_1012 ?_
                                                              refine lv_icmp_ne (tgt := 1029) hx hb dL_holds_1013 (by decide) (fun c_207 => ?_) (fun c_207 => ?_)
                                                              · exact absurd (by rw [dsF_9, dsF_9]; exact hEX nw hn2 hn) c_207
                                                              · refine lv_aload_n hx hb dL_holds_1016 rfl (lv_at hl 19 rfl) ?_
                                                                obtain ⟨X_208, hO_209, hM9⟩ := o_ifSplit (l := l) (D := D) hSR hO_205 (nw := nw) hn hn2
                                                                refine lo_I (n := 0) (As := []) (rest := []) hx hb hml hown hts hK hN hM9 (OX.at0 hO_205) gL_holds_X4_ifSplit rfl (by decide +kernel) (by decide) dL_holds_1017 rfl rfl (Nat.le_of_ble_eq_true rfl) hl.1 (Nat.le_of_ble_eq_true rfl) (Nat.le_of_ble_eq_true rfl) (Nat.le_of_ble_eq_true rfl) (Nat.le_of_ble_eq_true rfl) hP hD hS hA (fun H locs hP hD hS => ?_)
                                                                clear hM9
                                                                refine lv_topi (fun sv esv => ?_)
                                                                have hsv : sv ≤ dsF (S 4) 9 := by rw [dsF_9, esv]; exact hsl
                                                                clear esv
                                                                refine lv_iload hx hb dL_holds_1020 (lv_at hl 9 rfl) ?_
                                                                refine lv_icmp_gt (tgt := 1029) hx hb dL_holds_1022 (by decide) (fun c_210 => ?_) (fun c_210 => ?_)
                                                                · exact absurd c_210 (Int32.not_lt.mpr hsv)
                                                                · refine lv_iconst (v := 1) hx hb dL_holds_1025 (by decide) ?_
                                                                  refine lv_goto (tgt := 1030) hx hb dL_holds_1026 (by decide) ?_
                                                                  exact rt_zq (X' := X_208) hQ rfl rfl hx hb hr hlocks hS dL_holds_1030 (va_PR hP) (va_DR hD) rfl (⟨rfl, hO_209⟩)
                                                        · have c_202 : ¬ (nw ≤ w) := fun h9 => c_202 ((nI_leI (a := nw) (b := w) (by omega) (by omega)).mpr h9)
                                                          refine lv_iload hx hb dL_holds_965 (lv_at hl 1 rfl) ?_
                                                          refine lv_aload_n hx hb dL_holds_967 rfl (lv_at hl 19 rfl) ?_
                                                          refine lv_iload hx hb dL_holds_968 (lv_at hl 0 rfl) ?_
                                                          refine lv_iconst (v := 0) hx hb dL_holds_970 (by decide) ?_
                                                          obtain ⟨X_211, hO_212, hM9⟩ := o_noted_0 (l := l) (D := D) hSR hO_201 (r := w) (nw := nw) (by omega) hn hn2
                                                          refine lo_I (n := 2) (As := [.int (nI w), .int 0]) (rest := [.int (exF S w)]) hx hb hml hown hts hK hN hM9 (OX.at0 hO_201) gL_holds_X4_noted rfl (by decide +kernel) (by decide) dL_holds_971 rfl rfl (Nat.le_of_ble_eq_true rfl) hl.1 (Nat.le_of_ble_eq_true rfl) (Nat.le_of_ble_eq_true rfl) (Nat.le_of_ble_eq_true rfl) (Nat.le_of_ble_eq_true rfl) hP hD hS hA (fun H locs hP hD hS => ?_)
                                                          clear hM9
                                                          refine tp_e (y := (S 5 w)) (if_neg (show ¬ nw ≤ w from by omega)) ?_
                                                          refine lv_aload_n hx hb dL_holds_974 rfl (lv_at hl 19 rfl) ?_
                                                          refine lv_iload hx hb dL_holds_975 (lv_at hl 0 rfl) ?_
                                                          refine lv_iconst (v := 2) hx hb dL_holds_977 (by decide) ?_
                                                          obtain ⟨X_213, hO_214, hM9⟩ := o_noted_2 (l := l) (D := D) hSR hO_212 (r := w) (nw := nw) (by omega) hn hn2
                                                          refine lo_I (n := 2) (As := [.int (nI w), .int 2]) (rest := [.int (S 5 w), .int (exF S w)]) hx hb hml hown hts hK hN hM9 (OX.at0 hO_212) gL_holds_X4_noted rfl (by decide +kernel) (by decide) dL_holds_978 rfl rfl (Nat.le_of_ble_eq_true rfl) hl.1 (Nat.le_of_ble_eq_true rfl) (Nat.le_of_ble_eq_true rfl) (Nat.le_of_ble_eq_true rfl) (Nat.le_of_ble_eq_true rfl) hP hD hS hA (fun H locs hP hD hS => ?_)
                                                          clear hM9
                                                          refine tp_e (y := (bcF (S 6 w))) (if_neg (show ¬ nw ≤ w from by omega)) ?_
                                                          refine lv_imul hx hb dL_holds_981 ?_
                                                          refine lv_iadd hx hb dL_holds_982 ?_
                                                          refine lv_istore (lv' := [(18, .int ((exF S w) + ((S 5 w) * (bcF (S 6 w))))), (19, .int (nI w)), (11, .int 1), (17, .int (mdF (CO f) 9)), (16, .int ((bsF f S (512 - 1)).2)), (15, .int ((bsF f S (512 - 1)).1)), (14, .int (rwT f (512 - 1))), (13, .int (nI ((oL f).length))), (12, .int (wyF f 0 false (512 - 1))), (10, .int (dsF (S 4) 9)), (9, .int (dsF (S 0) 9)), (8, .int (dsF (mnS S) 9)), (7, .ref n_7), (6, .ref n_6), (5, .ref n_5), (4, .ref n_4), (3, .ref n_3), (2, .ref n_2), (1, .ref n_1), (0, .ref x0)]) hx hb dL_holds_983 hl (by decide) rfl (fun ls hl => ?_)
                                                          refine lv_iinc (v := (nI (w + 1))) (lv' := [(19, .int (nI (w + 1))), (18, .int ((exF S w) + ((S 5 w) * (bcF (S 6 w))))), (11, .int 1), (17, .int (mdF (CO f) 9)), (16, .int ((bsF f S (512 - 1)).2)), (15, .int ((bsF f S (512 - 1)).1)), (14, .int (rwT f (512 - 1))), (13, .int (nI ((oL f).length))), (12, .int (wyF f 0 false (512 - 1))), (10, .int (dsF (S 4) 9)), (9, .int (dsF (S 0) 9)), (8, .int (dsF (mnS S) 9)), (7, .ref n_7), (6, .ref n_6), (5, .ref n_5), (4, .ref n_4), (3, .ref n_3), (2, .ref n_2), (1, .ref n_1), (0, .ref x0)]) hx hb dL_holds_985 hl (k := 1) rfl (nI_1 w) (by decide) rfl (fun ls hl => ?_)
                                                          refine lv_goto (tgt := 955) hx hb dL_holds_988 (by decide) ?_
                                                          exact ih_w (w + 1) ((exF S w) + ((S 5 w) * (bcF (S 6 w)))) X_213 (by omega) (by omega) (rfl) (hO_214) _ _ _ hP hD hS (lv_sub hl [0, 1, 2, 3, 4, 5, 6, 7, 8, 9, 10, 11, 12, 13, 14, 15, 16, 17, 18, 19] rfl)
                                                    · have c_199 : ¬ (40 ≤ r) := fun h9 => c_199 ((nI_leI (a := 40) (b := r) (by omega) (by omega)).mpr h9)
                                                      refine lv_iload hx hb dL_holds_890 (lv_at hl 1 rfl) ?_
                                                      refine lv_if_eq (tgt := 949) hx hb dL_holds_892 (by decide) (fun c_215 => ?_) (fun c_215 => ?_)
                                                      · exact absurd c_215 (by decide)
                                                      · refine lv_aload_n hx hb dL_holds_895 rfl (lv_at hl 18 rfl) ?_
                                                        refine lv_iload hx hb dL_holds_896 (lv_at hl 0 rfl) ?_
                                                        obtain ⟨X_216, hO_217, hM9⟩ := o_openWay (l := l) (D := D) hSR hOf (r := r) (by omega)
                                                        refine lo_I (n := 1) (As := [.int (nI r)]) (rest := []) hx hb hml hown hts hK hN hM9 (OX.at0 hOf) gL_holds_X4_openWay rfl (by decide +kernel) (by decide) dL_holds_898 rfl rfl (Nat.le_of_ble_eq_true rfl) hl.1 (Nat.le_of_ble_eq_true rfl) (Nat.le_of_ble_eq_true rfl) (Nat.le_of_ble_eq_true rfl) (Nat.le_of_ble_eq_true rfl) hP hD hS hA (fun H locs hP hD hS => ?_)
                                                        clear hM9
                                                        have hr : r < (oL f).length := by omega
                                                        obtain ⟨z, hz⟩ : ∃ z, z = (oL f)[r] := ⟨_, rfl⟩
                                                        have hz1 : 1 ≤ z ∧ z < 512 ∧ ioB f (nI z) = true := by rw [hz]; exact oL_in.mp (List.getElem_mem hr)
                                                        refine tp_e (y := (nI z)) (by rw [dif_pos hr, hz]) ?_
                                                        refine lv_istore (lv' := [(19, .int (nI z)), (18, .int (nI r)), (11, .int 1), (17, .int (mdF (CO f) 9)), (16, .int ((bsF f S (512 - 1)).2)), (15, .int ((bsF f S (512 - 1)).1)), (14, .int (rwT f (512 - 1))), (13, .int (nI ((oL f).length))), (12, .int (wyF f 0 false (512 - 1))), (10, .int (dsF (S 4) 9)), (9, .int (dsF (S 0) 9)), (8, .int (dsF (mnS S) 9)), (7, .ref n_7), (6, .ref n_6), (5, .ref n_5), (4, .ref n_4), (3, .ref n_3), (2, .ref n_2), (1, .ref n_1), (0, .ref x0)]) hx hb dL_holds_901 hl (by decide) rfl (fun ls hl => ?_)
                                                        refine lv_aload_n hx hb dL_holds_903 rfl (lv_at hl 18 rfl) ?_
                                                        refine lv_aload_n hx hb dL_holds_904 rfl (lv_at hl 17 rfl) ?_
                                                        refine lv_aload_n hx hb dL_holds_905 rfl (lv_at hl 16 rfl) ?_
                                                        refine lv_iload hx hb dL_holds_906 (lv_at hl 0 rfl) ?_
                                                        have hPc : va_P D vwCl ([(n_1, .inl (k 0, 9, .inl (S 2))), (n_2, .inl (k 0, 9, .inl (S 1))), (n_3, .inl (k 0, 9, .inl (S 3)))]) H := hP.sub [6, 5, 4] rfl
                                                        have hDc : va_D A ([(n_1, .inl (k 0, 9, .inl (S 2))), (n_2, .inl (k 0, 9, .inl (S 1))), (n_3, .inl (k 0, 9, .inl (S 3)))]) := hD.sub [6, 5, 4] (by decide +kernel) rfl
                                                        refine cl_i0 (va_runS (As := [.ref n_1, .ref n_2, .ref n_3, .int (nI z)]) (rest := []) ⟨hx, hb, hml, hown, hts⟩ (c_L_way l D k n_1 n_2 n_3 S f z hG hz1.1 hz1.2.1 H.size) (va_cwS 4 hts gL_holds_L_way rfl rfl rfl (by decide +kernel) ⟨Nat.le_of_ble_eq_true rfl, Nat.le_of_ble_eq_true rfl⟩) ⟨pr_blind, pr_at hN hPc hK hDc⟩ rfl rfl hl.1 rfl (lv_room (Nat.le_of_ble_eq_true rfl)) dL_holds_908 ⟨Nat.le_of_ble_eq_true rfl, Nat.le_of_ble_eq_true rfl⟩) hP hD hS hA [6, 5, 4] rfl (fun H locs hP hD hS => ?_)
                                                        clear hPc hDc
                                                        refine lv_iconst (v := 2) hx hb dL_holds_911 (by decide) ?_
                                                        refine lv_icmp_ne (tgt := 940) hx hb dL_holds_912 (by decide) (fun c_218 => ?_) (fun c_218 => ?_)
                                                        · exact absurd (by unfold wyV; rw [if_pos hz1.2.2]) c_218
                                                        · refine lv_iload hx hb dL_holds_915 (lv_at hl 1 rfl) ?_
                                                          refine lv_if_eq (tgt := 936) hx hb dL_holds_917 (by decide) (fun c_219 => ?_) (fun c_219 => ?_)
                                                          · have c_219 : r = 0 := (nI_eq (a := r) (b := 0) (by omega) (by omega)).mp c_219
                                                            refine lv_iconst (v := 1) hx hb dL_holds_936 (by decide) ?_
                                                            refine lv_goto (tgt := 941) hx hb dL_holds_937 (by decide) ?_
                                                            refine lv_istore (lv' := [(11, .int 1), (19, .int (nI z)), (18, .int (nI r)), (17, .int (mdF (CO f) 9)), (16, .int ((bsF f S (512 - 1)).2)), (15, .int ((bsF f S (512 - 1)).1)), (14, .int (rwT f (512 - 1))), (13, .int (nI ((oL f).length))), (12, .int (wyF f 0 false (512 - 1))), (10, .int (dsF (S 4) 9)), (9, .int (dsF (S 0) 9)), (8, .int (dsF (mnS S) 9)), (7, .ref n_7), (6, .ref n_6), (5, .ref n_5), (4, .ref n_4), (3, .ref n_3), (2, .ref n_2), (1, .ref n_1), (0, .ref x0)]) hx hb dL_holds_941 hl (by decide) rfl (fun ls hl => ?_)
                                                            refine lv_iinc (v := (nI (r + 1))) (lv' := [(18, .int (nI (r + 1))), (11, .int 1), (19, .int (nI z)), (17, .int (mdF (CO f) 9)), (16, .int ((bsF f S (512 - 1)).2)), (15, .int ((bsF f S (512 - 1)).1)), (14, .int (rwT f (512 - 1))), (13, .int (nI ((oL f).length))), (12, .int (wyF f 0 false (512 - 1))), (10, .int (dsF (S 4) 9)), (9, .int (dsF (S 0) 9)), (8, .int (dsF (mnS S) 9)), (7, .ref n_7), (6, .ref n_6), (5, .ref n_5), (4, .ref n_4), (3, .ref n_3), (2, .ref n_2), (1, .ref n_1), (0, .ref x0)]) hx hb dL_holds_943 hl (k := 2) rfl (nI_1 r) (by decide) rfl (fun ls hl => ?_)
                                                            refine lv_goto (tgt := 876) hx hb dL_holds_946 (by decide) ?_
                                                            exact ih_r (r + 1) X_216 (by omega) (by omega)  (hO_217) _ _ _ hP hD hS (lv_sub hl [0, 1, 3, 4, 5, 6, 7, 8, 9, 10, 11, 12, 13, 14, 15, 16, 17, 18, 19] rfl)
                                                          · have c_219 : ¬ (r = 0) := fun h9 => c_219 ((nI_eq (a := r) (b := 0) (by omega) (by omega)).mpr h9)
                                                            refine lv_aload_n hx hb dL_holds_920 rfl (lv_at hl 19 rfl) ?_
                                                            refine lv_iload hx hb dL_holds_921 (lv_at hl 1 rfl) ?_
                                                            refine lv_iconst (v := 1) hx hb dL_holds_923 (by decide) ?_
                                                            refine lv_isub hx hb dL_holds_924 ?_
                                                            refine tp_e (y := (nI (r - 1))) (nI_subn (a := r) (b := 1) (by omega)) ?_
                                                            obtain ⟨X_220, hO_221, hM9⟩ := o_openWay (l := l) (D := D) hSR hO_217 (r := (r - 1)) (by omega)
                                                            refine lo_I (n := 1) (As := [.int (nI (r - 1))]) (rest := []) hx hb hml hown hts hK hN hM9 (OX.at0 hO_217) gL_holds_X4_openWay rfl (by decide +kernel) (by decide) dL_holds_925 rfl rfl (Nat.le_of_ble_eq_true rfl) hl.1 (Nat.le_of_ble_eq_true rfl) (Nat.le_of_ble_eq_true rfl) (Nat.le_of_ble_eq_true rfl) (Nat.le_of_ble_eq_true rfl) hP hD hS hA (fun H locs hP hD hS => ?_)
                                                            clear hM9
                                                            obtain ⟨z2, hz2⟩ : ∃ z2, z2 = (oL f)[r - 1] := ⟨_, rfl⟩
                                                            have hst := oL_st f (show r - 1 < r from by omega) hr hz2 hz
                                                            refine tp_e (y := (nI z2)) (by rw [dif_pos (show r - 1 < (oL f).length from by omega), hz2]) ?_
                                                            refine lv_iload hx hb dL_holds_928 (lv_at hl 0 rfl) ?_
                                                            have hPc : va_P D vwCl ([]) H := hP.sub [] rfl
                                                            have hDc : va_D A ([]) := hD.sub [] (by decide +kernel) rfl
                                                            refine cl_i0 (va_runS (As := [.int (nI z2), .int (nI z)]) (rest := []) ⟨hx, hb, hml, hown, hts⟩ (c_L_isAhead l D k z2 z hst.2.2.1 hst.2.2.2 hst.2.1 H.size) (va_cwS 2 hts gL_holds_L_isAhead rfl rfl rfl (by decide +kernel) ⟨Nat.le_of_ble_eq_true rfl, Nat.le_of_ble_eq_true rfl⟩) ⟨pr_blind, pr_at hN hPc hK hDc⟩ rfl rfl hl.1 rfl (lv_room (Nat.le_of_ble_eq_true rfl)) dL_holds_930 ⟨Nat.le_of_ble_eq_true rfl, Nat.le_of_ble_eq_true rfl⟩) hP hD hS hA [] rfl (fun H locs hP hD hS => ?_)
                                                            clear hPc hDc
                                                            refine lv_if_eq (tgt := 940) hx hb dL_holds_933 (by decide) (fun c_222 => ?_) (fun c_222 => ?_)
                                                            · have c_222 := bI_eq.mp c_222
                                                              exact absurd c_222 (by rw [hst.1]; decide)
                                                            · have c_222 := bI_ne.mp c_222
                                                              refine lv_iconst (v := 1) hx hb dL_holds_936 (by decide) ?_
                                                              refine lv_goto (tgt := 941) hx hb dL_holds_937 (by decide) ?_
                                                              refine lv_istore (lv' := [(11, .int 1), (19, .int (nI z)), (18, .int (nI r)), (17, .int (mdF (CO f) 9)), (16, .int ((bsF f S (512 - 1)).2)), (15, .int ((bsF f S (512 - 1)).1)), (14, .int (rwT f (512 - 1))), (13, .int (nI ((oL f).length))), (12, .int (wyF f 0 false (512 - 1))), (10, .int (dsF (S 4) 9)), (9, .int (dsF (S 0) 9)), (8, .int (dsF (mnS S) 9)), (7, .ref n_7), (6, .ref n_6), (5, .ref n_5), (4, .ref n_4), (3, .ref n_3), (2, .ref n_2), (1, .ref n_1), (0, .ref x0)]) hx hb dL_holds_941 hl (by decide) rfl (fun ls hl => ?_)
                                                              refine lv_iinc (v := (nI (r + 1))) (lv' := [(18, .int (nI (r + 1))), (11, .int 1), (19, .int (nI z)), (17, .int (mdF (CO f) 9)), (16, .int ((bsF f S (512 - 1)).2)), (15, .int ((bsF f S (512 - 1)).1)), (14, .int (rwT f (512 - 1))), (13, .int (nI ((oL f).length))), (12, .int (wyF f 0 false (512 - 1))), (10, .int (dsF (S 4) 9)), (9, .int (dsF (S 0) 9)), (8, .int (dsF (mnS S) 9)), (7, .ref n_7), (6, .ref n_6), (5, .ref n_5), (4, .ref n_4), (3, .ref n_3), (2, .ref n_2), (1, .ref n_1), (0, .ref x0)]) hx hb dL_holds_943 hl (k := 2) rfl (nI_1 r) (by decide) rfl (fun ls hl => ?_)
                                                              refine lv_goto (tgt := 876) hx hb dL_holds_946 (by decide) ?_
                                                              exact ih_r (r + 1) X_220 (by omega) (by omega)  (hO_221) _ _ _ hP hD hS (lv_sub hl [0, 1, 3, 4, 5, 6, 7, 8, 9, 10, 11, 12, 13, 14, 15, 16, 17, 18, 19] rfl)
            · obtain ⟨q, hq, hx2⟩ := dn_pos (show 9 - u ≤ 9 from by omega) c_10
              rw [hx2] at hl
              have hl : lv_has ls 22 [(18, .int (nI q)), (17, .int (mdF (CO f) u)), (16, .int ((bsF f S (512 - 1)).2)), (15, .int ((bsF f S (512 - 1)).1)), (14, .int (rwT f (512 - 1))), (13, .int (wyF f 0 true (512 - 1))), (12, .int (wyF f 0 false (512 - 1))), (11, .int 1), (10, .int (dsF (S 4) 9)), (9, .int (dsF (S 0) 9)), (8, .int (dsF (mnS S) 9)), (7, .ref n_7), (6, .ref n_6), (5, .ref n_5), (4, .ref n_4), (3, .ref n_3), (2, .ref n_2), (1, .ref n_1), (0, .ref x0)] := hl
              have hq9 : q < 9 := by omega
              refine lv_iload hx hb dL_holds_622 (lv_at hl 7 rfl) ?_
              refine lv_if_eq (tgt := 692) hx hb dL_holds_624 (by decide) (fun c_223 => ?_) (fun c_223 => ?_)
              · exact absurd c_223 (by decide)
              · refine lv_aload_n hx hb dL_holds_627 rfl (lv_at hl 18 rfl) ?_
                refine lv_iload hx hb dL_holds_628 (lv_at hl 0 rfl) ?_
                refine lv_bipush (v := 6) hx hb dL_holds_630 (by decide) ?_
                obtain ⟨X_224, hO_225, hM9⟩ := o_pieceOf_6 (l := l) (D := D) hSR hOe (q := q) (by omega)
                refine lo_I (n := 2) (As := [.int (nI q), .int 6]) (rest := []) hx hb hml hown hts hK hN hM9 (OX.at0 hOe) gL_holds_X4_pieceOf rfl (by decide +kernel) (by decide) dL_holds_632 rfl rfl (Nat.le_of_ble_eq_true rfl) hl.1 (Nat.le_of_ble_eq_true rfl) (Nat.le_of_ble_eq_true rfl) (Nat.le_of_ble_eq_true rfl) (Nat.le_of_ble_eq_true rfl) hP hD hS hA (fun H locs hP hD hS => ?_)
                clear hM9
                refine lv_aload hx hb dL_holds_635 (lv_at hl 12 rfl) ?_
                refine lv_iload hx hb dL_holds_637 (lv_at hl 0 rfl) ?_
                refine ar_ld hx hb hK hP 1 rfl q (nI_clamp (by omega)) (vp_in_nI (by omega) (by omega)) dL_holds_639 ?_
                refine lv_icmp_ne (tgt := 647) hx hb dL_holds_640 (by decide) (fun c_226 => ?_) (fun c_226 => ?_)
                · exact absurd (rfl) c_226
                · refine lv_iconst (v := 1) hx hb dL_holds_643 (by decide) ?_
                  refine lv_goto (tgt := 648) hx hb dL_holds_644 (by decide) ?_
                  refine lv_istore (lv' := [(11, .int 1), (18, .int (nI q)), (17, .int (mdF (CO f) u)), (16, .int ((bsF f S (512 - 1)).2)), (15, .int ((bsF f S (512 - 1)).1)), (14, .int (rwT f (512 - 1))), (13, .int (wyF f 0 true (512 - 1))), (12, .int (wyF f 0 false (512 - 1))), (10, .int (dsF (S 4) 9)), (9, .int (dsF (S 0) 9)), (8, .int (dsF (mnS S) 9)), (7, .ref n_7), (6, .ref n_6), (5, .ref n_5), (4, .ref n_4), (3, .ref n_3), (2, .ref n_2), (1, .ref n_1), (0, .ref x0)]) hx hb dL_holds_648 hl (by decide) rfl (fun ls hl => ?_)
                  refine lv_aload hx hb dL_holds_650 (lv_at hl 11 rfl) ?_
                  refine lv_iload hx hb dL_holds_652 (lv_at hl 1 rfl) ?_
                  refine ar_ld hx hb hK hP 0 rfl q (nI_clamp (by omega)) (vp_in_nI (by omega) (by omega)) dL_holds_654 ?_
                  refine lv_if_le (tgt := 682) hx hb dL_holds_655 (by decide) (fun c_227 => ?_) (fun c_227 => ?_)
                  · have hmd : mdF (CO f) (u + 1) = mdF (CO f) u := md_keep hq (fun h9 => absurd h9.1 (Int32.not_lt.mpr c_227))
                    refine lv_iload hx hb dL_holds_682 (lv_at hl 2 rfl) ?_
                    refine lv_istore (lv' := [(17, .int (mdF (CO f) u)), (11, .int 1), (18, .int (nI q)), (16, .int ((bsF f S (512 - 1)).2)), (15, .int ((bsF f S (512 - 1)).1)), (14, .int (rwT f (512 - 1))), (13, .int (wyF f 0 true (512 - 1))), (12, .int (wyF f 0 false (512 - 1))), (10, .int (dsF (S 4) 9)), (9, .int (dsF (S 0) 9)), (8, .int (dsF (mnS S) 9)), (7, .ref n_7), (6, .ref n_6), (5, .ref n_5), (4, .ref n_4), (3, .ref n_3), (2, .ref n_2), (1, .ref n_1), (0, .ref x0)]) hx hb dL_holds_684 hl (by decide) rfl (fun ls hl => ?_)
                    refine lv_iinc (v := (nI q) + (-1)) (lv' := [(18, .int ((nI q) + (-1))), (17, .int (mdF (CO f) u)), (11, .int 1), (16, .int ((bsF f S (512 - 1)).2)), (15, .int ((bsF f S (512 - 1)).1)), (14, .int (rwT f (512 - 1))), (13, .int (wyF f 0 true (512 - 1))), (12, .int (wyF f 0 false (512 - 1))), (10, .int (dsF (S 4) 9)), (9, .int (dsF (S 0) 9)), (8, .int (dsF (mnS S) 9)), (7, .ref n_7), (6, .ref n_6), (5, .ref n_5), (4, .ref n_4), (3, .ref n_3), (2, .ref n_2), (1, .ref n_1), (0, .ref x0)]) hx hb dL_holds_686 hl (k := 2) rfl rfl (by decide) rfl (fun ls hl => ?_)
                    refine lv_goto (tgt := 617) hx hb dL_holds_689 (by decide) ?_
                    exact ih_u (u + 1) ((nI q) + (-1)) (mdF (CO f) u) X_224 (by omega) (by omega) (by rw [show 9 - (u + 1) = q from by omega]) (hmd.symm) (hO_225) _ _ _ hP hD hS (lv_sub hl [0, 1, 3, 4, 5, 6, 7, 2, 8, 9, 10, 11, 12, 13, 14, 15, 16, 17, 18] rfl)
                  · have hpos : 0 < CO f q := Int32.not_le.mp c_227
                    refine lv_iload hx hb dL_holds_658 (lv_at hl 2 rfl) ?_
                    refine lv_iconst (v := (-1)) hx hb dL_holds_660 (by decide) ?_
                    refine lv_icmp_eq (tgt := 677) hx hb dL_holds_661 (by decide) (fun c_228 => ?_) (fun c_228 => ?_)
                    · have hmd : mdF (CO f) (u + 1) = nI q := md_set hq hpos (Or.inl c_228)
                      refine lv_iload hx hb dL_holds_677 (lv_at hl 1 rfl) ?_
                      refine lv_goto (tgt := 684) hx hb dL_holds_679 (by decide) ?_
                      refine lv_istore (lv' := [(17, .int (nI q)), (11, .int 1), (18, .int (nI q)), (16, .int ((bsF f S (512 - 1)).2)), (15, .int ((bsF f S (512 - 1)).1)), (14, .int (rwT f (512 - 1))), (13, .int (wyF f 0 true (512 - 1))), (12, .int (wyF f 0 false (512 - 1))), (10, .int (dsF (S 4) 9)), (9, .int (dsF (S 0) 9)), (8, .int (dsF (mnS S) 9)), (7, .ref n_7), (6, .ref n_6), (5, .ref n_5), (4, .ref n_4), (3, .ref n_3), (2, .ref n_2), (1, .ref n_1), (0, .ref x0)]) hx hb dL_holds_684 hl (by decide) rfl (fun ls hl => ?_)
                      refine lv_iinc (v := (nI q) + (-1)) (lv' := [(18, .int ((nI q) + (-1))), (17, .int (nI q)), (11, .int 1), (16, .int ((bsF f S (512 - 1)).2)), (15, .int ((bsF f S (512 - 1)).1)), (14, .int (rwT f (512 - 1))), (13, .int (wyF f 0 true (512 - 1))), (12, .int (wyF f 0 false (512 - 1))), (10, .int (dsF (S 4) 9)), (9, .int (dsF (S 0) 9)), (8, .int (dsF (mnS S) 9)), (7, .ref n_7), (6, .ref n_6), (5, .ref n_5), (4, .ref n_4), (3, .ref n_3), (2, .ref n_2), (1, .ref n_1), (0, .ref x0)]) hx hb dL_holds_686 hl (k := 2) rfl rfl (by decide) rfl (fun ls hl => ?_)
                      refine lv_goto (tgt := 617) hx hb dL_holds_689 (by decide) ?_
                      exact ih_u (u + 1) ((nI q) + (-1)) (nI q) X_224 (by omega) (by omega) (by rw [show 9 - (u + 1) = q from by omega]) (hmd.symm) (hO_225) _ _ _ hP hD hS (lv_sub hl [0, 1, 3, 4, 5, 6, 7, 2, 8, 9, 10, 11, 12, 13, 14, 15, 16, 17, 18] rfl)
                    · have hne := c_228
                      obtain ⟨j, hj, hmj⟩ := (md_in (c := CO f) u (by omega)).resolve_left hne
                      have hcl : (mdF (CO f) u).toNatClampNeg = j := by rw [hmj, nI_clamp (by omega)]
                      rw [hmj] at hl
                      have hl : lv_has ls 22 [(11, .int 1), (18, .int (nI q)), (17, .int (nI j)), (16, .int ((bsF f S (512 - 1)).2)), (15, .int ((bsF f S (512 - 1)).1)), (14, .int (rwT f (512 - 1))), (13, .int (wyF f 0 true (512 - 1))), (12, .int (wyF f 0 false (512 - 1))), (10, .int (dsF (S 4) 9)), (9, .int (dsF (S 0) 9)), (8, .int (dsF (mnS S) 9)), (7, .ref n_7), (6, .ref n_6), (5, .ref n_5), (4, .ref n_4), (3, .ref n_3), (2, .ref n_2), (1, .ref n_1), (0, .ref x0)] := hl
                      refine lv_aload hx hb dL_holds_664 (lv_at hl 11 rfl) ?_
                      refine lv_iload hx hb dL_holds_666 (lv_at hl 1 rfl) ?_
                      refine ar_ld hx hb hK hP 0 rfl q (nI_clamp (by omega)) (vp_in_nI (by omega) (by omega)) dL_holds_668 ?_
                      refine lv_aload hx hb dL_holds_669 (lv_at hl 11 rfl) ?_
                      refine lv_iload hx hb dL_holds_671 (lv_at hl 2 rfl) ?_
                      refine ar_ld hx hb hK hP 0 rfl j (nI_clamp (by omega)) (vp_in_nI (by omega) (by omega)) dL_holds_673 ?_
                      refine lv_icmp_lt (tgt := 682) hx hb dL_holds_674 (by decide) (fun c_229 => ?_) (fun c_229 => ?_)
                      · have hmd : mdF (CO f) (u + 1) = mdF (CO f) u := md_keep hq (fun h9 => h9.2.elim hne (fun h8 => by rw [hcl] at h8; exact absurd h8 (Int32.not_le.mpr c_229)))
                        refine lv_iload hx hb dL_holds_682 (lv_at hl 2 rfl) ?_
                        refine lv_istore (lv' := [(17, .int (nI j)), (11, .int 1), (18, .int (nI q)), (16, .int ((bsF f S (512 - 1)).2)), (15, .int ((bsF f S (512 - 1)).1)), (14, .int (rwT f (512 - 1))), (13, .int (wyF f 0 true (512 - 1))), (12, .int (wyF f 0 false (512 - 1))), (10, .int (dsF (S 4) 9)), (9, .int (dsF (S 0) 9)), (8, .int (dsF (mnS S) 9)), (7, .ref n_7), (6, .ref n_6), (5, .ref n_5), (4, .ref n_4), (3, .ref n_3), (2, .ref n_2), (1, .ref n_1), (0, .ref x0)]) hx hb dL_holds_684 hl (by decide) rfl (fun ls hl => ?_)
                        refine lv_iinc (v := (nI q) + (-1)) (lv' := [(18, .int ((nI q) + (-1))), (17, .int (nI j)), (11, .int 1), (16, .int ((bsF f S (512 - 1)).2)), (15, .int ((bsF f S (512 - 1)).1)), (14, .int (rwT f (512 - 1))), (13, .int (wyF f 0 true (512 - 1))), (12, .int (wyF f 0 false (512 - 1))), (10, .int (dsF (S 4) 9)), (9, .int (dsF (S 0) 9)), (8, .int (dsF (mnS S) 9)), (7, .ref n_7), (6, .ref n_6), (5, .ref n_5), (4, .ref n_4), (3, .ref n_3), (2, .ref n_2), (1, .ref n_1), (0, .ref x0)]) hx hb dL_holds_686 hl (k := 2) rfl rfl (by decide) rfl (fun ls hl => ?_)
                        refine lv_goto (tgt := 617) hx hb dL_holds_689 (by decide) ?_
                        exact ih_u (u + 1) ((nI q) + (-1)) (nI j) X_224 (by omega) (by omega) (by rw [show 9 - (u + 1) = q from by omega]) (by rw [hmd, hmj]) (hO_225) _ _ _ hP hD hS (lv_sub hl [0, 1, 3, 4, 5, 6, 7, 2, 8, 9, 10, 11, 12, 13, 14, 15, 16, 17, 18] rfl)
                      · have hmd : mdF (CO f) (u + 1) = nI q := md_set hq hpos (Or.inr (by rw [hcl]; exact Int32.not_lt.mp c_229))
                        refine lv_iload hx hb dL_holds_677 (lv_at hl 1 rfl) ?_
                        refine lv_goto (tgt := 684) hx hb dL_holds_679 (by decide) ?_
                        refine lv_istore (lv' := [(17, .int (nI q)), (11, .int 1), (18, .int (nI q)), (16, .int ((bsF f S (512 - 1)).2)), (15, .int ((bsF f S (512 - 1)).1)), (14, .int (rwT f (512 - 1))), (13, .int (wyF f 0 true (512 - 1))), (12, .int (wyF f 0 false (512 - 1))), (10, .int (dsF (S 4) 9)), (9, .int (dsF (S 0) 9)), (8, .int (dsF (mnS S) 9)), (7, .ref n_7), (6, .ref n_6), (5, .ref n_5), (4, .ref n_4), (3, .ref n_3), (2, .ref n_2), (1, .ref n_1), (0, .ref x0)]) hx hb dL_holds_684 hl (by decide) rfl (fun ls hl => ?_)
                        refine lv_iinc (v := (nI q) + (-1)) (lv' := [(18, .int ((nI q) + (-1))), (17, .int (nI q)), (11, .int 1), (16, .int ((bsF f S (512 - 1)).2)), (15, .int ((bsF f S (512 - 1)).1)), (14, .int (rwT f (512 - 1))), (13, .int (wyF f 0 true (512 - 1))), (12, .int (wyF f 0 false (512 - 1))), (10, .int (dsF (S 4) 9)), (9, .int (dsF (S 0) 9)), (8, .int (dsF (mnS S) 9)), (7, .ref n_7), (6, .ref n_6), (5, .ref n_5), (4, .ref n_4), (3, .ref n_3), (2, .ref n_2), (1, .ref n_1), (0, .ref x0)]) hx hb dL_holds_686 hl (k := 2) rfl rfl (by decide) rfl (fun ls hl => ?_)
                        refine lv_goto (tgt := 617) hx hb dL_holds_689 (by decide) ?_
                        exact ih_u (u + 1) ((nI q) + (-1)) (nI q) X_224 (by omega) (by omega) (by rw [show 9 - (u + 1) = q from by omega]) (hmd.symm) (hO_225) _ _ _ hP hD hS (lv_sub hl [0, 1, 3, 4, 5, 6, 7, 2, 8, 9, 10, 11, 12, 13, 14, 15, 16, 17, 18] rfl)
        · have c_9 : ¬ (512 ≤ t) := fun h9 => c_9 ((nI_leI (a := 512) (b := t) (by omega) (by omega)).mpr h9)
          refine lv_aload_n hx hb dL_holds_376 rfl (lv_at hl 16 rfl) ?_
          refine lv_aload_n hx hb dL_holds_377 rfl (lv_at hl 15 rfl) ?_
          refine lv_aload_n hx hb dL_holds_378 rfl (lv_at hl 14 rfl) ?_
          refine lv_iload hx hb dL_holds_379 (lv_at hl 0 rfl) ?_
          have hPc : va_P D vwCl ([(n_1, .inl (k 0, 9, .inl (S 2))), (n_2, .inl (k 0, 9, .inl (S 1))), (n_3, .inl (k 0, 9, .inl (S 3)))]) H := hP.sub [6, 5, 4] rfl
          have hDc : va_D A ([(n_1, .inl (k 0, 9, .inl (S 2))), (n_2, .inl (k 0, 9, .inl (S 1))), (n_3, .inl (k 0, 9, .inl (S 3)))]) := hD.sub [6, 5, 4] (by decide +kernel) rfl
          refine cl_i0 (va_runS (As := [.ref n_1, .ref n_2, .ref n_3, .int (nI t)]) (rest := []) ⟨hx, hb, hml, hown, hts⟩ (c_L_way l D k n_1 n_2 n_3 S f t hG (by omega) (by omega) H.size) (va_cwS 4 hts gL_holds_L_way rfl rfl rfl (by decide +kernel) ⟨Nat.le_of_ble_eq_true rfl, Nat.le_of_ble_eq_true rfl⟩) ⟨pr_blind, pr_at hN hPc hK hDc⟩ rfl rfl hl.1 rfl (lv_room (Nat.le_of_ble_eq_true rfl)) dL_holds_381 ⟨Nat.le_of_ble_eq_true rfl, Nat.le_of_ble_eq_true rfl⟩) hP hD hS hA [6, 5, 4] rfl (fun H locs hP hD hS => ?_)
          clear hPc hDc
          rcases wyV_c hG (show t < 512 from by omega) with ⟨ew, eo, ei⟩ | ⟨ew, eo, ei⟩ | ⟨ew, eo, ei⟩
          ·
            refine tp_e (y := 0) ew ?_
            refine lv_istore (lv' := [(18, .int 0), (17, .int (nI t)), (16, .int ((bsF f S (t - 1)).2)), (15, .int ((bsF f S (t - 1)).1)), (14, .int (rwT f (t - 1))), (13, .int (wyF f 0 true (t - 1))), (12, .int (wyF f 0 false (t - 1))), (11, .int 1), (10, .int (dsF (S 4) 9)), (9, .int (dsF (S 0) 9)), (8, .int (dsF (mnS S) 9)), (7, .ref n_7), (6, .ref n_6), (5, .ref n_5), (4, .ref n_4), (3, .ref n_3), (2, .ref n_2), (1, .ref n_1), (0, .ref x0)]) hx hb dL_holds_384 hl (by decide) rfl (fun ls hl => ?_)
            refine lv_sipush (v := 1000) hx hb dL_holds_386 (by decide) ?_
            refine lv_istore (lv' := [(19, .int 1000), (18, .int 0), (17, .int (nI t)), (16, .int ((bsF f S (t - 1)).2)), (15, .int ((bsF f S (t - 1)).1)), (14, .int (rwT f (t - 1))), (13, .int (wyF f 0 true (t - 1))), (12, .int (wyF f 0 false (t - 1))), (11, .int 1), (10, .int (dsF (S 4) 9)), (9, .int (dsF (S 0) 9)), (8, .int (dsF (mnS S) 9)), (7, .ref n_7), (6, .ref n_6), (5, .ref n_5), (4, .ref n_4), (3, .ref n_3), (2, .ref n_2), (1, .ref n_1), (0, .ref x0)]) hx hb dL_holds_389 hl (by decide) rfl (fun ls hl => ?_)
            refine lv_iconst (v := 1) hx hb dL_holds_391 (by decide) ?_
            refine lv_istore (lv' := [(20, .int 1), (19, .int 1000), (18, .int 0), (17, .int (nI t)), (16, .int ((bsF f S (t - 1)).2)), (15, .int ((bsF f S (t - 1)).1)), (14, .int (rwT f (t - 1))), (13, .int (wyF f 0 true (t - 1))), (12, .int (wyF f 0 false (t - 1))), (11, .int 1), (10, .int (dsF (S 4) 9)), (9, .int (dsF (S 0) 9)), (8, .int (dsF (mnS S) 9)), (7, .ref n_7), (6, .ref n_6), (5, .ref n_5), (4, .ref n_4), (3, .ref n_3), (2, .ref n_2), (1, .ref n_1), (0, .ref x0)]) hx hb dL_holds_392 hl (by decide) rfl (fun ls hl => ?_)
            refine lv_iconst (v := 0) hx hb dL_holds_394 (by decide) ?_
            refine lv_istore (lv' := [(21, .int 0), (20, .int 1), (19, .int 1000), (18, .int 0), (17, .int (nI t)), (16, .int ((bsF f S (t - 1)).2)), (15, .int ((bsF f S (t - 1)).1)), (14, .int (rwT f (t - 1))), (13, .int (wyF f 0 true (t - 1))), (12, .int (wyF f 0 false (t - 1))), (11, .int 1), (10, .int (dsF (S 4) 9)), (9, .int (dsF (S 0) 9)), (8, .int (dsF (mnS S) 9)), (7, .ref n_7), (6, .ref n_6), (5, .ref n_5), (4, .ref n_4), (3, .ref n_3), (2, .ref n_2), (1, .ref n_1), (0, .ref x0)]) hx hb dL_holds_395 hl (by decide) rfl (fun ls hl => ?_)
            suffices LOOP_j : ∀ (fu_j j : Nat) (g10 : Nat → Int32) (g11 : Nat → Int32) (z19 : Int32) (z20 : Int32), 9 - j < fu_j → j ≤ 9 → g10 = fil (inW f false t) (inW f false (t - 1)) j → g11 = fil (inW f true t) (inW f true (t - 1)) j → z19 = lsW (S 4) (nI t) j → z20 = bI (apF (bhG (S 2)) (nI t) j) → ∀ (H : Heap) (locs : List Loc) (ls : Array Slot), va_P D vwCl ([(n_7, .inl (k 0, 9, .inl g11)), (n_6, .inl (k 0, 9, .inl g10)), (n_5, .inl (k 0, 9, .inl (bhG (S 2)))), (n_4, .inl (k 0, 9, .inl (S 4))), (n_3, .inl (k 0, 9, .inl (S 3))), (n_2, .inl (k 0, 9, .inl (S 1))), (n_1, .inl (k 0, 9, .inl (S 2)))] ++ (Xa)) H → va_D A ([(n_7, .inl (k 0, 9, .inl g11)), (n_6, .inl (k 0, 9, .inl g10)), (n_5, .inl (k 0, 9, .inl (bhG (S 2)))), (n_4, .inl (k 0, 9, .inl (S 4))), (n_3, .inl (k 0, 9, .inl (S 3))), (n_2, .inl (k 0, 9, .inl (S 1))), (n_1, .inl (k 0, 9, .inl (S 2)))] ++ (Xa)) → va_S A s.heap H locs → lv_has ls 22 [(21, .int (nI j)), (20, .int z20), (19, .int z19), (18, .int 0), (17, .int (nI t)), (16, .int ((bsF f S (t - 1)).2)), (15, .int ((bsF f S (t - 1)).1)), (14, .int (rwT f (t - 1))), (13, .int (wyF f 0 true (t - 1))), (12, .int (wyF f 0 false (t - 1))), (11, .int 1), (10, .int (dsF (S 4) 9)), (9, .int (dsF (S 0) 9)), (8, .int (dsF (mnS S) 9)), (7, .ref n_7), (6, .ref n_6), (5, .ref n_5), (4, .ref n_4), (3, .ref n_3), (2, .ref n_2), (1, .ref n_1), (0, .ref x0)] → W p l e ({ frames := 31, cells := 7, slots := 63, locals := 839 } : Room) s m ([.ref x0] : List Value).toArray below meth c H locs 7 63 Q (F0 m 397 ls []) from LOOP_j (9 + 1) 0 (inW f false (t - 1)) (inW f true (t - 1)) 1000 1 (by omega) (by omega) ((fil_0 _ _).symm) ((fil_0 _ _).symm) (rfl) (rfl)  _ _ _ hP hD hS (lv_sub hl [0, 1, 2, 3, 4, 5, 6, 7, 8, 9, 10, 11, 12, 13, 14, 15, 16, 17, 18, 19, 20, 21] rfl)
            clear hP hD hS hl
            intro fu_j
            induction fu_j with
            | zero => intro j g10 g11 z19 z20 hn_j; omega
            | succ fu_j ih_j =>
              intro j g10 g11 z19 z20 hn_j hle_j e_g10 e_g11 e_z19 e_z20  H locs ls hP hD hS hl
              subst e_g10
              subst e_g11
              subst e_z19
              subst e_z20
              refine lv_iload hx hb dL_holds_397 (lv_at hl 0 rfl) ?_
              refine lv_bipush (v := 9) hx hb dL_holds_399 (by decide) ?_
              refine lv_icmp_ge (tgt := 503) hx hb dL_holds_401 (by decide) (fun c_230 => ?_) (fun c_230 => ?_)
              · have c_230 : 9 ≤ j := (nI_leI (a := 9) (b := j) (by omega) (by omega)).mp c_230
                have hz_j : 9 = j := by omega
                subst hz_j
                have hP : va_P D vwCl ([(n_7, .inl (k 0, 9, .inl (fil (inW f true t) (inW f true (t - 1)) 9))), (n_6, .inl (k 0, 9, .inl (inW f false t))), (n_5, .inl (k 0, 9, .inl (bhG (S 2)))), (n_4, .inl (k 0, 9, .inl (S 4))), (n_3, .inl (k 0, 9, .inl (S 3))), (n_2, .inl (k 0, 9, .inl (S 1))), (n_1, .inl (k 0, 9, .inl (S 2)))] ++ (Xa)) H := va_P.ext hP hD 1 rfl (inW f false t) (fun j hj => fil_at _ _ hj)
                have hD : va_D A ([(n_7, .inl (k 0, 9, .inl (fil (inW f true t) (inW f true (t - 1)) 9))), (n_6, .inl (k 0, 9, .inl (inW f false t))), (n_5, .inl (k 0, 9, .inl (bhG (S 2)))), (n_4, .inl (k 0, 9, .inl (S 4))), (n_3, .inl (k 0, 9, .inl (S 3))), (n_2, .inl (k 0, 9, .inl (S 1))), (n_1, .inl (k 0, 9, .inl (S 2)))] ++ (Xa)) := hD.addr rfl
                have hP : va_P D vwCl ([(n_7, .inl (k 0, 9, .inl (inW f true t))), (n_6, .inl (k 0, 9, .inl (inW f false t))), (n_5, .inl (k 0, 9, .inl (bhG (S 2)))), (n_4, .inl (k 0, 9, .inl (S 4))), (n_3, .inl (k 0, 9, .inl (S 3))), (n_2, .inl (k 0, 9, .inl (S 1))), (n_1, .inl (k 0, 9, .inl (S 2)))] ++ (Xa)) H := va_P.ext hP hD 0 rfl (inW f true t) (fun j hj => fil_at _ _ hj)
                have hD : va_D A ([(n_7, .inl (k 0, 9, .inl (inW f true t))), (n_6, .inl (k 0, 9, .inl (inW f false t))), (n_5, .inl (k 0, 9, .inl (bhG (S 2)))), (n_4, .inl (k 0, 9, .inl (S 4))), (n_3, .inl (k 0, 9, .inl (S 3))), (n_2, .inl (k 0, 9, .inl (S 1))), (n_1, .inl (k 0, 9, .inl (S 2)))] ++ (Xa)) := hD.addr rfl
                refine lv_iload hx hb dL_holds_503 (lv_at hl 9 rfl) ?_
                refine lv_iload hx hb dL_holds_505 (lv_at hl 3 rfl) ?_
                refine lv_if_le (tgt := 514) hx hb dL_holds_507 (by decide) (fun c_231 => ?_) (fun c_231 => ?_)
                · refine lv_iconst (v := 0) hx hb dL_holds_514 (by decide) ?_
                  refine lv_iadd hx hb dL_holds_515 ?_
                  refine lv_istore (lv' := [(12, .int ((wyF f 0 false (t - 1)) + 0)), (21, .int (nI 9)), (20, .int (bI (apF (bhG (S 2)) (nI t) 9))), (19, .int (lsW (S 4) (nI t) 9)), (18, .int 0), (17, .int (nI t)), (16, .int ((bsF f S (t - 1)).2)), (15, .int ((bsF f S (t - 1)).1)), (14, .int (rwT f (t - 1))), (13, .int (wyF f 0 true (t - 1))), (11, .int 1), (10, .int (dsF (S 4) 9)), (9, .int (dsF (S 0) 9)), (8, .int (dsF (mnS S) 9)), (7, .ref n_7), (6, .ref n_6), (5, .ref n_5), (4, .ref n_4), (3, .ref n_3), (2, .ref n_2), (1, .ref n_1), (0, .ref x0)]) hx hb dL_holds_516 hl (by decide) rfl (fun ls hl => ?_)
                  refine lv_iload hx hb dL_holds_518 (lv_at hl 9 rfl) ?_
                  refine lv_iload hx hb dL_holds_520 (lv_at hl 4 rfl) ?_
                  refine lv_iconst (v := 1) hx hb dL_holds_522 (by decide) ?_
                  refine lv_icmp_le (tgt := 530) hx hb dL_holds_523 (by decide) (fun c_232 => ?_) (fun c_232 => ?_)
                  · refine lv_iconst (v := 0) hx hb dL_holds_530 (by decide) ?_
                    refine lv_iadd hx hb dL_holds_531 ?_
                    refine lv_istore (lv' := [(13, .int ((wyF f 0 true (t - 1)) + 0)), (12, .int ((wyF f 0 false (t - 1)) + 0)), (21, .int (nI 9)), (20, .int (bI (apF (bhG (S 2)) (nI t) 9))), (19, .int (lsW (S 4) (nI t) 9)), (18, .int 0), (17, .int (nI t)), (16, .int ((bsF f S (t - 1)).2)), (15, .int ((bsF f S (t - 1)).1)), (14, .int (rwT f (t - 1))), (11, .int 1), (10, .int (dsF (S 4) 9)), (9, .int (dsF (S 0) 9)), (8, .int (dsF (mnS S) 9)), (7, .ref n_7), (6, .ref n_6), (5, .ref n_5), (4, .ref n_4), (3, .ref n_3), (2, .ref n_2), (1, .ref n_1), (0, .ref x0)]) hx hb dL_holds_532 hl (by decide) rfl (fun ls hl => ?_)
                    refine lv_iload hx hb dL_holds_534 (lv_at hl 3 rfl) ?_
                    refine lv_if_eq (tgt := 557) hx hb dL_holds_536 (by decide) (fun c_233 => ?_) (fun c_233 => ?_)
                    · refine lv_iload hx hb dL_holds_557 (lv_at hl 9 rfl) ?_
                      refine lv_istore (lv' := [(14, .int (rwT f (t - 1))), (13, .int ((wyF f 0 true (t - 1)) + 0)), (12, .int ((wyF f 0 false (t - 1)) + 0)), (21, .int (nI 9)), (20, .int (bI (apF (bhG (S 2)) (nI t) 9))), (19, .int (lsW (S 4) (nI t) 9)), (18, .int 0), (17, .int (nI t)), (16, .int ((bsF f S (t - 1)).2)), (15, .int ((bsF f S (t - 1)).1)), (11, .int 1), (10, .int (dsF (S 4) 9)), (9, .int (dsF (S 0) 9)), (8, .int (dsF (mnS S) 9)), (7, .ref n_7), (6, .ref n_6), (5, .ref n_5), (4, .ref n_4), (3, .ref n_3), (2, .ref n_2), (1, .ref n_1), (0, .ref x0)]) hx hb dL_holds_559 hl (by decide) rfl (fun ls hl => ?_)
                      refine lv_iload hx hb dL_holds_561 (lv_at hl 6 rfl) ?_
                      refine lv_iconst (v := 1) hx hb dL_holds_563 (by decide) ?_
                      refine lv_icmp_le (tgt := 604) hx hb dL_holds_564 (by decide) (fun c_234 => ?_) (fun c_234 => ?_)
                      · have hbs : bsF f S (t + 1 - 1) = bsF f S (t - 1) := bs_no (by omega) eo
                        refine lv_iinc (v := (nI (t + 1))) (lv' := [(17, .int (nI (t + 1))), (14, .int (rwT f (t - 1))), (13, .int ((wyF f 0 true (t - 1)) + 0)), (12, .int ((wyF f 0 false (t - 1)) + 0)), (21, .int (nI 9)), (20, .int (bI (apF (bhG (S 2)) (nI t) 9))), (19, .int (lsW (S 4) (nI t) 9)), (18, .int 0), (16, .int ((bsF f S (t - 1)).2)), (15, .int ((bsF f S (t - 1)).1)), (11, .int 1), (10, .int (dsF (S 4) 9)), (9, .int (dsF (S 0) 9)), (8, .int (dsF (mnS S) 9)), (7, .ref n_7), (6, .ref n_6), (5, .ref n_5), (4, .ref n_4), (3, .ref n_3), (2, .ref n_2), (1, .ref n_1), (0, .ref x0)]) hx hb dL_holds_604 hl (k := 7) rfl (nI_1 t) (by decide) rfl (fun ls hl => ?_)
                        refine lv_goto (tgt := 368) hx hb dL_holds_607 (by decide) ?_
                        exact ih_t (t + 1) (inW f false t) (inW f true t) ((wyF f 0 false (t - 1)) + 0) ((wyF f 0 true (t - 1)) + 0) (rwT f (t - 1)) ((bsF f S (t - 1)).1) ((bsF f S (t - 1)).2) (by omega) (by omega) (by rw [show t + 1 - 1 = t from by omega]) (by rw [show t + 1 - 1 = t from by omega]) (wy_t f false (by omega) (by rw [if_neg (by decide), ei]; rfl)) (wy_t f true (by omega) (by rw [if_pos rfl, eo]; rfl)) (rw_a hG (by omega) (bI_eq.mp c_233)) (by rw [hbs]) (by rw [hbs]) (by omega) _ _ _ hP hD hS (lv_sub hl [0, 8, 9, 1, 2, 3, 10, 11, 12, 13, 14, 15, 16, 17, 18, 19, 20, 21] rfl)
                      · exact absurd c_234 (by decide)
                    · refine lv_iload hx hb dL_holds_539 (lv_at hl 6 rfl) ?_
                      have hPc : va_P D vwCl ([]) H := hP.sub [] rfl
                      have hDc : va_D A ([]) := hD.sub [] (by decide +kernel) rfl
                      refine cl_i0 (va_runS (As := [.int (nI t)]) (rest := []) ⟨hx, hb, hml, hown, hts⟩ (c_L_bits l D k (nI t) H.size) (va_cwS 1 hts gL_holds_L_bits rfl rfl rfl (by decide +kernel) ⟨Nat.le_of_ble_eq_true rfl, Nat.le_of_ble_eq_true rfl⟩) ⟨pr_blind, pr_at hN hPc hK hDc⟩ rfl rfl hl.1 rfl (lv_room (Nat.le_of_ble_eq_true rfl)) dL_holds_541 ⟨Nat.le_of_ble_eq_true rfl, Nat.le_of_ble_eq_true rfl⟩) hP hD hS hA [] rfl (fun H locs hP hD hS => ?_)
                      clear hPc hDc
                      refine lv_iload hx hb dL_holds_544 (lv_at hl 9 rfl) ?_
                      refine lv_icmp_le (tgt := 557) hx hb dL_holds_546 (by decide) (fun c_235 => ?_) (fun c_235 => ?_)
                      · refine lv_iload hx hb dL_holds_557 (lv_at hl 9 rfl) ?_
                        refine lv_istore (lv' := [(14, .int (rwT f (t - 1))), (13, .int ((wyF f 0 true (t - 1)) + 0)), (12, .int ((wyF f 0 false (t - 1)) + 0)), (21, .int (nI 9)), (20, .int (bI (apF (bhG (S 2)) (nI t) 9))), (19, .int (lsW (S 4) (nI t) 9)), (18, .int 0), (17, .int (nI t)), (16, .int ((bsF f S (t - 1)).2)), (15, .int ((bsF f S (t - 1)).1)), (11, .int 1), (10, .int (dsF (S 4) 9)), (9, .int (dsF (S 0) 9)), (8, .int (dsF (mnS S) 9)), (7, .ref n_7), (6, .ref n_6), (5, .ref n_5), (4, .ref n_4), (3, .ref n_3), (2, .ref n_2), (1, .ref n_1), (0, .ref x0)]) hx hb dL_holds_559 hl (by decide) rfl (fun ls hl => ?_)
                        refine lv_iload hx hb dL_holds_561 (lv_at hl 6 rfl) ?_
                        refine lv_iconst (v := 1) hx hb dL_holds_563 (by decide) ?_
                        refine lv_icmp_le (tgt := 604) hx hb dL_holds_564 (by decide) (fun c_236 => ?_) (fun c_236 => ?_)
                        · have hbs : bsF f S (t + 1 - 1) = bsF f S (t - 1) := bs_no (by omega) eo
                          refine lv_iinc (v := (nI (t + 1))) (lv' := [(17, .int (nI (t + 1))), (14, .int (rwT f (t - 1))), (13, .int ((wyF f 0 true (t - 1)) + 0)), (12, .int ((wyF f 0 false (t - 1)) + 0)), (21, .int (nI 9)), (20, .int (bI (apF (bhG (S 2)) (nI t) 9))), (19, .int (lsW (S 4) (nI t) 9)), (18, .int 0), (16, .int ((bsF f S (t - 1)).2)), (15, .int ((bsF f S (t - 1)).1)), (11, .int 1), (10, .int (dsF (S 4) 9)), (9, .int (dsF (S 0) 9)), (8, .int (dsF (mnS S) 9)), (7, .ref n_7), (6, .ref n_6), (5, .ref n_5), (4, .ref n_4), (3, .ref n_3), (2, .ref n_2), (1, .ref n_1), (0, .ref x0)]) hx hb dL_holds_604 hl (k := 7) rfl (nI_1 t) (by decide) rfl (fun ls hl => ?_)
                          refine lv_goto (tgt := 368) hx hb dL_holds_607 (by decide) ?_
                          exact ih_t (t + 1) (inW f false t) (inW f true t) ((wyF f 0 false (t - 1)) + 0) ((wyF f 0 true (t - 1)) + 0) (rwT f (t - 1)) ((bsF f S (t - 1)).1) ((bsF f S (t - 1)).2) (by omega) (by omega) (by rw [show t + 1 - 1 = t from by omega]) (by rw [show t + 1 - 1 = t from by omega]) (wy_t f false (by omega) (by rw [if_neg (by decide), ei]; rfl)) (wy_t f true (by omega) (by rw [if_pos rfl, eo]; rfl)) (rw_b hG (by omega) (bI_ne.mp c_233) c_235) (by rw [hbs]) (by rw [hbs]) (by omega) _ _ _ hP hD hS (lv_sub hl [0, 8, 9, 1, 2, 3, 10, 11, 12, 13, 14, 15, 16, 17, 18, 19, 20, 21] rfl)
                        · exact absurd c_236 (by decide)
                      · refine lv_iload hx hb dL_holds_549 (lv_at hl 6 rfl) ?_
                        have hPc : va_P D vwCl ([]) H := hP.sub [] rfl
                        have hDc : va_D A ([]) := hD.sub [] (by decide +kernel) rfl
                        refine cl_i0 (va_runS (As := [.int (nI t)]) (rest := []) ⟨hx, hb, hml, hown, hts⟩ (c_L_bits l D k (nI t) H.size) (va_cwS 1 hts gL_holds_L_bits rfl rfl rfl (by decide +kernel) ⟨Nat.le_of_ble_eq_true rfl, Nat.le_of_ble_eq_true rfl⟩) ⟨pr_blind, pr_at hN hPc hK hDc⟩ rfl rfl hl.1 rfl (lv_room (Nat.le_of_ble_eq_true rfl)) dL_holds_551 ⟨Nat.le_of_ble_eq_true rfl, Nat.le_of_ble_eq_true rfl⟩) hP hD hS hA [] rfl (fun H locs hP hD hS => ?_)
                        clear hPc hDc
                        refine lv_goto (tgt := 559) hx hb dL_holds_554 (by decide) ?_
                        refine lv_istore (lv' := [(14, .int (mnF (nI t) 9)), (13, .int ((wyF f 0 true (t - 1)) + 0)), (12, .int ((wyF f 0 false (t - 1)) + 0)), (21, .int (nI 9)), (20, .int (bI (apF (bhG (S 2)) (nI t) 9))), (19, .int (lsW (S 4) (nI t) 9)), (18, .int 0), (17, .int (nI t)), (16, .int ((bsF f S (t - 1)).2)), (15, .int ((bsF f S (t - 1)).1)), (11, .int 1), (10, .int (dsF (S 4) 9)), (9, .int (dsF (S 0) 9)), (8, .int (dsF (mnS S) 9)), (7, .ref n_7), (6, .ref n_6), (5, .ref n_5), (4, .ref n_4), (3, .ref n_3), (2, .ref n_2), (1, .ref n_1), (0, .ref x0)]) hx hb dL_holds_559 hl (by decide) rfl (fun ls hl => ?_)
                        refine lv_iload hx hb dL_holds_561 (lv_at hl 6 rfl) ?_
                        refine lv_iconst (v := 1) hx hb dL_holds_563 (by decide) ?_
                        refine lv_icmp_le (tgt := 604) hx hb dL_holds_564 (by decide) (fun c_237 => ?_) (fun c_237 => ?_)
                        · have hbs : bsF f S (t + 1 - 1) = bsF f S (t - 1) := bs_no (by omega) eo
                          refine lv_iinc (v := (nI (t + 1))) (lv' := [(17, .int (nI (t + 1))), (14, .int (mnF (nI t) 9)), (13, .int ((wyF f 0 true (t - 1)) + 0)), (12, .int ((wyF f 0 false (t - 1)) + 0)), (21, .int (nI 9)), (20, .int (bI (apF (bhG (S 2)) (nI t) 9))), (19, .int (lsW (S 4) (nI t) 9)), (18, .int 0), (16, .int ((bsF f S (t - 1)).2)), (15, .int ((bsF f S (t - 1)).1)), (11, .int 1), (10, .int (dsF (S 4) 9)), (9, .int (dsF (S 0) 9)), (8, .int (dsF (mnS S) 9)), (7, .ref n_7), (6, .ref n_6), (5, .ref n_5), (4, .ref n_4), (3, .ref n_3), (2, .ref n_2), (1, .ref n_1), (0, .ref x0)]) hx hb dL_holds_604 hl (k := 7) rfl (nI_1 t) (by decide) rfl (fun ls hl => ?_)
                          refine lv_goto (tgt := 368) hx hb dL_holds_607 (by decide) ?_
                          exact ih_t (t + 1) (inW f false t) (inW f true t) ((wyF f 0 false (t - 1)) + 0) ((wyF f 0 true (t - 1)) + 0) (mnF (nI t) 9) ((bsF f S (t - 1)).1) ((bsF f S (t - 1)).2) (by omega) (by omega) (by rw [show t + 1 - 1 = t from by omega]) (by rw [show t + 1 - 1 = t from by omega]) (wy_t f false (by omega) (by rw [if_neg (by decide), ei]; rfl)) (wy_t f true (by omega) (by rw [if_pos rfl, eo]; rfl)) (rw_c hG (by omega) (bI_ne.mp c_233) c_235) (by rw [hbs]) (by rw [hbs]) (by omega) _ _ _ hP hD hS (lv_sub hl [0, 8, 9, 1, 2, 3, 10, 11, 12, 13, 14, 15, 16, 17, 18, 19, 20, 21] rfl)
                        · exact absurd c_237 (by decide)
                  · exact absurd c_232 (by decide)
                · exact absurd c_231 (by decide)
              · have c_230 : ¬ (9 ≤ j) := fun h9 => c_230 ((nI_leI (a := 9) (b := j) (by omega) (by omega)).mpr h9)
                refine lv_iload hx hb dL_holds_404 (lv_at hl 4 rfl) ?_
                refine lv_iload hx hb dL_holds_406 (lv_at hl 0 rfl) ?_
                refine lv_ishr hx hb dL_holds_408 ?_
                refine lv_iconst (v := 1) hx hb dL_holds_409 (by decide) ?_
                refine lv_iand hx hb dL_holds_410 ?_
                refine lv_iconst (v := 1) hx hb dL_holds_411 (by decide) ?_
                refine lv_icmp_ne (tgt := 497) hx hb dL_holds_412 (by decide) (fun c_238 => ?_) (fun c_238 => ?_)
                · have hbt : ¬ bitv (nI t) (nI j) = 1 := c_238
                  have hb0 : bitv (nI t) (nI j) = 0 := (bv_01 (show t < 512 from by omega) j (by omega)).resolve_right hbt
                  refine lv_iinc (v := (nI (j + 1))) (lv' := [(21, .int (nI (j + 1))), (20, .int (bI (apF (bhG (S 2)) (nI t) j))), (19, .int (lsW (S 4) (nI t) j)), (18, .int 0), (17, .int (nI t)), (16, .int ((bsF f S (t - 1)).2)), (15, .int ((bsF f S (t - 1)).1)), (14, .int (rwT f (t - 1))), (13, .int (wyF f 0 true (t - 1))), (12, .int (wyF f 0 false (t - 1))), (11, .int 1), (10, .int (dsF (S 4) 9)), (9, .int (dsF (S 0) 9)), (8, .int (dsF (mnS S) 9)), (7, .ref n_7), (6, .ref n_6), (5, .ref n_5), (4, .ref n_4), (3, .ref n_3), (2, .ref n_2), (1, .ref n_1), (0, .ref x0)]) hx hb dL_holds_497 hl (k := 0) rfl (nI_1 j) (by decide) rfl (fun ls hl => ?_)
                  refine lv_goto (tgt := 397) hx hb dL_holds_500 (by decide) ?_
                  exact ih_j (j + 1) (fil (inW f false t) (inW f false (t - 1)) j) (fil (inW f true t) (inW f true (t - 1)) j) (lsW (S 4) (nI t) j) (bI (apF (bhG (S 2)) (nI t) j)) (by omega) (by omega) (in_no f false (by omega) (by omega) (by omega) hbt) (in_no f true (by omega) (by omega) (by omega) hbt) (by rw [lsW, if_neg hbt]) (by rw [apF, decide_eq_true (Or.inl hb0), Bool.and_true])  _ _ _ hP hD hS (lv_sub hl [0, 1, 2, 3, 4, 5, 6, 7, 8, 9, 10, 11, 12, 13, 14, 15, 16, 17, 18, 19, 20, 21] rfl)
                · have hbt : bitv (nI t) (nI j) = 1 := c_238
                  refine lv_aload hx hb dL_holds_415 (lv_at hl 15 rfl) ?_
                  refine lv_iload hx hb dL_holds_417 (lv_at hl 0 rfl) ?_
                  refine lv_dup2_11 hx hb dL_holds_419 rfl rfl ?_
                  refine ar_ld hx hb hK hP 1 rfl j (nI_clamp (by omega)) (vp_in_nI (by omega) (by omega)) dL_holds_420 ?_
                  refine lv_iload hx hb dL_holds_421 (lv_at hl 3 rfl) ?_
                  refine lv_if_le (tgt := 430) hx hb dL_holds_423 (by decide) (fun c_239 => ?_) (fun c_239 => ?_)
                  · refine lv_iconst (v := 0) hx hb dL_holds_430 (by decide) ?_
                    refine lv_iadd hx hb dL_holds_431 ?_
                    refine ar_st hx hb hK hP hD hS 1 rfl j (nI_clamp (by omega)) (vp_in_nI (by omega) (by omega)) dL_holds_432 (wn := ([(n_7, .inl (k 0, 9, .inl (fil (inW f true t) (inW f true (t - 1)) j))), (n_6, .inl (k 0, 9, .inl (upd (fil (inW f false t) (inW f false (t - 1)) j) j (((fil (inW f false t) (inW f false (t - 1)) j) j) + 0)))), (n_5, .inl (k 0, 9, .inl (bhG (S 2)))), (n_4, .inl (k 0, 9, .inl (S 4))), (n_3, .inl (k 0, 9, .inl (S 3))), (n_2, .inl (k 0, 9, .inl (S 1))), (n_1, .inl (k 0, 9, .inl (S 2)))] ++ (Xa))) rfl (fun H locs hP hD hS => ?_)
                    refine lv_aload hx hb dL_holds_433 (lv_at hl 14 rfl) ?_
                    refine lv_iload hx hb dL_holds_435 (lv_at hl 0 rfl) ?_
                    refine lv_dup2_11 hx hb dL_holds_437 rfl rfl ?_
                    refine ar_ld hx hb hK hP 0 rfl j (nI_clamp (by omega)) (vp_in_nI (by omega) (by omega)) dL_holds_438 ?_
                    refine lv_iload hx hb dL_holds_439 (lv_at hl 3 rfl) ?_
                    refine lv_iconst (v := 1) hx hb dL_holds_441 (by decide) ?_
                    refine lv_icmp_le (tgt := 449) hx hb dL_holds_442 (by decide) (fun c_240 => ?_) (fun c_240 => ?_)
                    · refine lv_iconst (v := 0) hx hb dL_holds_449 (by decide) ?_
                      refine lv_iadd hx hb dL_holds_450 ?_
                      refine ar_st hx hb hK hP hD hS 0 rfl j (nI_clamp (by omega)) (vp_in_nI (by omega) (by omega)) dL_holds_451 (wn := ([(n_7, .inl (k 0, 9, .inl (upd (fil (inW f true t) (inW f true (t - 1)) j) j (((fil (inW f true t) (inW f true (t - 1)) j) j) + 0)))), (n_6, .inl (k 0, 9, .inl (upd (fil (inW f false t) (inW f false (t - 1)) j) j (((fil (inW f false t) (inW f false (t - 1)) j) j) + 0)))), (n_5, .inl (k 0, 9, .inl (bhG (S 2)))), (n_4, .inl (k 0, 9, .inl (S 4))), (n_3, .inl (k 0, 9, .inl (S 3))), (n_2, .inl (k 0, 9, .inl (S 1))), (n_1, .inl (k 0, 9, .inl (S 2)))] ++ (Xa))) rfl (fun H locs hP hD hS => ?_)
                      refine lv_aload hx hb dL_holds_452 (lv_at hl 17 rfl) ?_
                      refine lv_iload hx hb dL_holds_454 (lv_at hl 0 rfl) ?_
                      refine ar_ld hx hb hK hP 3 rfl j (nI_clamp (by omega)) (vp_in_nI (by omega) (by omega)) dL_holds_456 ?_
                      refine lv_iload hx hb dL_holds_457 (lv_at hl 2 rfl) ?_
                      refine lv_icmp_ge (tgt := 470) hx hb dL_holds_459 (by decide) (fun c_241 => ?_) (fun c_241 => ?_)
                      · refine lv_iload hx hb dL_holds_470 (lv_at hl 2 rfl) ?_
                        refine lv_istore (lv' := [(19, .int (lsW (S 4) (nI t) j)), (21, .int (nI j)), (20, .int (bI (apF (bhG (S 2)) (nI t) j))), (18, .int 0), (17, .int (nI t)), (16, .int ((bsF f S (t - 1)).2)), (15, .int ((bsF f S (t - 1)).1)), (14, .int (rwT f (t - 1))), (13, .int (wyF f 0 true (t - 1))), (12, .int (wyF f 0 false (t - 1))), (11, .int 1), (10, .int (dsF (S 4) 9)), (9, .int (dsF (S 0) 9)), (8, .int (dsF (mnS S) 9)), (7, .ref n_7), (6, .ref n_6), (5, .ref n_5), (4, .ref n_4), (3, .ref n_3), (2, .ref n_2), (1, .ref n_1), (0, .ref x0)]) hx hb dL_holds_472 hl (by decide) rfl (fun ls hl => ?_)
                        refine lv_iload hx hb dL_holds_474 (lv_at hl 2 rfl) ?_
                        refine lv_if_eq (tgt := 494) hx hb dL_holds_476 (by decide) (fun c_242 => ?_) (fun c_242 => ?_)
                        · refine lv_iconst (v := 0) hx hb dL_holds_494 (by decide) ?_
                          refine lv_istore (lv' := [(20, .int 0), (19, .int (lsW (S 4) (nI t) j)), (21, .int (nI j)), (18, .int 0), (17, .int (nI t)), (16, .int ((bsF f S (t - 1)).2)), (15, .int ((bsF f S (t - 1)).1)), (14, .int (rwT f (t - 1))), (13, .int (wyF f 0 true (t - 1))), (12, .int (wyF f 0 false (t - 1))), (11, .int 1), (10, .int (dsF (S 4) 9)), (9, .int (dsF (S 0) 9)), (8, .int (dsF (mnS S) 9)), (7, .ref n_7), (6, .ref n_6), (5, .ref n_5), (4, .ref n_4), (3, .ref n_3), (2, .ref n_2), (1, .ref n_1), (0, .ref x0)]) hx hb dL_holds_495 hl (by decide) rfl (fun ls hl => ?_)
                          refine lv_iinc (v := (nI (j + 1))) (lv' := [(21, .int (nI (j + 1))), (20, .int 0), (19, .int (lsW (S 4) (nI t) j)), (18, .int 0), (17, .int (nI t)), (16, .int ((bsF f S (t - 1)).2)), (15, .int ((bsF f S (t - 1)).1)), (14, .int (rwT f (t - 1))), (13, .int (wyF f 0 true (t - 1))), (12, .int (wyF f 0 false (t - 1))), (11, .int 1), (10, .int (dsF (S 4) 9)), (9, .int (dsF (S 0) 9)), (8, .int (dsF (mnS S) 9)), (7, .ref n_7), (6, .ref n_6), (5, .ref n_5), (4, .ref n_4), (3, .ref n_3), (2, .ref n_2), (1, .ref n_1), (0, .ref x0)]) hx hb dL_holds_497 hl (k := 2) rfl (nI_1 j) (by decide) rfl (fun ls hl => ?_)
                          refine lv_goto (tgt := 397) hx hb dL_holds_500 (by decide) ?_
                          exact ih_j (j + 1) (upd (fil (inW f false t) (inW f false (t - 1)) j) j (((fil (inW f false t) (inW f false (t - 1)) j) j) + 0)) (upd (fil (inW f true t) (inW f true (t - 1)) j) j (((fil (inW f true t) (inW f true (t - 1)) j) j) + 0)) (lsW (S 4) (nI t) j) 0 (by omega) (by omega) (in_up f false (by omega) (by omega) (by omega) hbt (by rw [if_neg (by decide), ei]; rfl)) (in_up f true (by omega) (by omega) (by omega) hbt (by rw [if_pos rfl, eo]; rfl)) (by rw [lsW, if_pos hbt, if_neg (Int32.not_lt.mpr c_241)]) (by rw [apF, bI_eq.mp c_242]; rfl)  _ _ _ hP hD hS (lv_sub hl [0, 1, 2, 3, 4, 5, 6, 7, 8, 9, 10, 11, 12, 13, 14, 15, 16, 17, 18, 19, 20, 21] rfl)
                        · refine lv_aload hx hb dL_holds_479 (lv_at hl 16 rfl) ?_
                          refine lv_iload hx hb dL_holds_481 (lv_at hl 1 rfl) ?_
                          refine ar_ld hx hb hK hP 2 rfl j (nI_clamp (by omega)) (vp_in_nI (by omega) (by omega)) dL_holds_483 ?_
                          refine lv_iload hx hb dL_holds_484 (lv_at hl 4 rfl) ?_
                          refine lv_iand hx hb dL_holds_486 ?_
                          refine lv_if_ne (tgt := 494) hx hb dL_holds_487 (by decide) (fun c_243 => ?_) (fun c_243 => ?_)
                          · refine lv_iconst (v := 0) hx hb dL_holds_494 (by decide) ?_
                            refine lv_istore (lv' := [(20, .int 0), (19, .int (lsW (S 4) (nI t) j)), (21, .int (nI j)), (18, .int 0), (17, .int (nI t)), (16, .int ((bsF f S (t - 1)).2)), (15, .int ((bsF f S (t - 1)).1)), (14, .int (rwT f (t - 1))), (13, .int (wyF f 0 true (t - 1))), (12, .int (wyF f 0 false (t - 1))), (11, .int 1), (10, .int (dsF (S 4) 9)), (9, .int (dsF (S 0) 9)), (8, .int (dsF (mnS S) 9)), (7, .ref n_7), (6, .ref n_6), (5, .ref n_5), (4, .ref n_4), (3, .ref n_3), (2, .ref n_2), (1, .ref n_1), (0, .ref x0)]) hx hb dL_holds_495 hl (by decide) rfl (fun ls hl => ?_)
                            refine lv_iinc (v := (nI (j + 1))) (lv' := [(21, .int (nI (j + 1))), (20, .int 0), (19, .int (lsW (S 4) (nI t) j)), (18, .int 0), (17, .int (nI t)), (16, .int ((bsF f S (t - 1)).2)), (15, .int ((bsF f S (t - 1)).1)), (14, .int (rwT f (t - 1))), (13, .int (wyF f 0 true (t - 1))), (12, .int (wyF f 0 false (t - 1))), (11, .int 1), (10, .int (dsF (S 4) 9)), (9, .int (dsF (S 0) 9)), (8, .int (dsF (mnS S) 9)), (7, .ref n_7), (6, .ref n_6), (5, .ref n_5), (4, .ref n_4), (3, .ref n_3), (2, .ref n_2), (1, .ref n_1), (0, .ref x0)]) hx hb dL_holds_497 hl (k := 2) rfl (nI_1 j) (by decide) rfl (fun ls hl => ?_)
                            refine lv_goto (tgt := 397) hx hb dL_holds_500 (by decide) ?_
                            exact ih_j (j + 1) (upd (fil (inW f false t) (inW f false (t - 1)) j) j (((fil (inW f false t) (inW f false (t - 1)) j) j) + 0)) (upd (fil (inW f true t) (inW f true (t - 1)) j) j (((fil (inW f true t) (inW f true (t - 1)) j) j) + 0)) (lsW (S 4) (nI t) j) 0 (by omega) (by omega) (in_up f false (by omega) (by omega) (by omega) hbt (by rw [if_neg (by decide), ei]; rfl)) (in_up f true (by omega) (by omega) (by omega) hbt (by rw [if_pos rfl, eo]; rfl)) (by rw [lsW, if_pos hbt, if_neg (Int32.not_lt.mpr c_241)]) (by rw [apF, decide_eq_false (fun h9 => h9.elim (fun h8 => absurd (hbt.symm.trans h8) (by decide)) c_243), Bool.and_false]; rfl)  _ _ _ hP hD hS (lv_sub hl [0, 1, 2, 3, 4, 5, 6, 7, 8, 9, 10, 11, 12, 13, 14, 15, 16, 17, 18, 19, 20, 21] rfl)
                          · refine lv_iconst (v := 1) hx hb dL_holds_490 (by decide) ?_
                            refine lv_goto (tgt := 495) hx hb dL_holds_491 (by decide) ?_
                            refine lv_istore (lv' := [(20, .int 1), (19, .int (lsW (S 4) (nI t) j)), (21, .int (nI j)), (18, .int 0), (17, .int (nI t)), (16, .int ((bsF f S (t - 1)).2)), (15, .int ((bsF f S (t - 1)).1)), (14, .int (rwT f (t - 1))), (13, .int (wyF f 0 true (t - 1))), (12, .int (wyF f 0 false (t - 1))), (11, .int 1), (10, .int (dsF (S 4) 9)), (9, .int (dsF (S 0) 9)), (8, .int (dsF (mnS S) 9)), (7, .ref n_7), (6, .ref n_6), (5, .ref n_5), (4, .ref n_4), (3, .ref n_3), (2, .ref n_2), (1, .ref n_1), (0, .ref x0)]) hx hb dL_holds_495 hl (by decide) rfl (fun ls hl => ?_)
                            refine lv_iinc (v := (nI (j + 1))) (lv' := [(21, .int (nI (j + 1))), (20, .int 1), (19, .int (lsW (S 4) (nI t) j)), (18, .int 0), (17, .int (nI t)), (16, .int ((bsF f S (t - 1)).2)), (15, .int ((bsF f S (t - 1)).1)), (14, .int (rwT f (t - 1))), (13, .int (wyF f 0 true (t - 1))), (12, .int (wyF f 0 false (t - 1))), (11, .int 1), (10, .int (dsF (S 4) 9)), (9, .int (dsF (S 0) 9)), (8, .int (dsF (mnS S) 9)), (7, .ref n_7), (6, .ref n_6), (5, .ref n_5), (4, .ref n_4), (3, .ref n_3), (2, .ref n_2), (1, .ref n_1), (0, .ref x0)]) hx hb dL_holds_497 hl (k := 2) rfl (nI_1 j) (by decide) rfl (fun ls hl => ?_)
                            refine lv_goto (tgt := 397) hx hb dL_holds_500 (by decide) ?_
                            exact ih_j (j + 1) (upd (fil (inW f false t) (inW f false (t - 1)) j) j (((fil (inW f false t) (inW f false (t - 1)) j) j) + 0)) (upd (fil (inW f true t) (inW f true (t - 1)) j) j (((fil (inW f true t) (inW f true (t - 1)) j) j) + 0)) (lsW (S 4) (nI t) j) 1 (by omega) (by omega) (in_up f false (by omega) (by omega) (by omega) hbt (by rw [if_neg (by decide), ei]; rfl)) (in_up f true (by omega) (by omega) (by omega) hbt (by rw [if_pos rfl, eo]; rfl)) (by rw [lsW, if_pos hbt, if_neg (Int32.not_lt.mpr c_241)]) (by rw [apF, bI_ne.mp c_242, decide_eq_true (Or.inr c_243)]; rfl)  _ _ _ hP hD hS (lv_sub hl [0, 1, 2, 3, 4, 5, 6, 7, 8, 9, 10, 11, 12, 13, 14, 15, 16, 17, 18, 19, 20, 21] rfl)
                      · refine lv_aload hx hb dL_holds_462 (lv_at hl 17 rfl) ?_
                        refine lv_iload hx hb dL_holds_464 (lv_at hl 0 rfl) ?_
                        refine ar_ld hx hb hK hP 3 rfl j (nI_clamp (by omega)) (vp_in_nI (by omega) (by omega)) dL_holds_466 ?_
                        refine lv_goto (tgt := 472) hx hb dL_holds_467 (by decide) ?_
                        refine lv_istore (lv' := [(19, .int ((S 4) j)), (21, .int (nI j)), (20, .int (bI (apF (bhG (S 2)) (nI t) j))), (18, .int 0), (17, .int (nI t)), (16, .int ((bsF f S (t - 1)).2)), (15, .int ((bsF f S (t - 1)).1)), (14, .int (rwT f (t - 1))), (13, .int (wyF f 0 true (t - 1))), (12, .int (wyF f 0 false (t - 1))), (11, .int 1), (10, .int (dsF (S 4) 9)), (9, .int (dsF (S 0) 9)), (8, .int (dsF (mnS S) 9)), (7, .ref n_7), (6, .ref n_6), (5, .ref n_5), (4, .ref n_4), (3, .ref n_3), (2, .ref n_2), (1, .ref n_1), (0, .ref x0)]) hx hb dL_holds_472 hl (by decide) rfl (fun ls hl => ?_)
                        refine lv_iload hx hb dL_holds_474 (lv_at hl 2 rfl) ?_
                        refine lv_if_eq (tgt := 494) hx hb dL_holds_476 (by decide) (fun c_244 => ?_) (fun c_244 => ?_)
                        · refine lv_iconst (v := 0) hx hb dL_holds_494 (by decide) ?_
                          refine lv_istore (lv' := [(20, .int 0), (19, .int ((S 4) j)), (21, .int (nI j)), (18, .int 0), (17, .int (nI t)), (16, .int ((bsF f S (t - 1)).2)), (15, .int ((bsF f S (t - 1)).1)), (14, .int (rwT f (t - 1))), (13, .int (wyF f 0 true (t - 1))), (12, .int (wyF f 0 false (t - 1))), (11, .int 1), (10, .int (dsF (S 4) 9)), (9, .int (dsF (S 0) 9)), (8, .int (dsF (mnS S) 9)), (7, .ref n_7), (6, .ref n_6), (5, .ref n_5), (4, .ref n_4), (3, .ref n_3), (2, .ref n_2), (1, .ref n_1), (0, .ref x0)]) hx hb dL_holds_495 hl (by decide) rfl (fun ls hl => ?_)
                          refine lv_iinc (v := (nI (j + 1))) (lv' := [(21, .int (nI (j + 1))), (20, .int 0), (19, .int ((S 4) j)), (18, .int 0), (17, .int (nI t)), (16, .int ((bsF f S (t - 1)).2)), (15, .int ((bsF f S (t - 1)).1)), (14, .int (rwT f (t - 1))), (13, .int (wyF f 0 true (t - 1))), (12, .int (wyF f 0 false (t - 1))), (11, .int 1), (10, .int (dsF (S 4) 9)), (9, .int (dsF (S 0) 9)), (8, .int (dsF (mnS S) 9)), (7, .ref n_7), (6, .ref n_6), (5, .ref n_5), (4, .ref n_4), (3, .ref n_3), (2, .ref n_2), (1, .ref n_1), (0, .ref x0)]) hx hb dL_holds_497 hl (k := 2) rfl (nI_1 j) (by decide) rfl (fun ls hl => ?_)
                          refine lv_goto (tgt := 397) hx hb dL_holds_500 (by decide) ?_
                          exact ih_j (j + 1) (upd (fil (inW f false t) (inW f false (t - 1)) j) j (((fil (inW f false t) (inW f false (t - 1)) j) j) + 0)) (upd (fil (inW f true t) (inW f true (t - 1)) j) j (((fil (inW f true t) (inW f true (t - 1)) j) j) + 0)) ((S 4) j) 0 (by omega) (by omega) (in_up f false (by omega) (by omega) (by omega) hbt (by rw [if_neg (by decide), ei]; rfl)) (in_up f true (by omega) (by omega) (by omega) hbt (by rw [if_pos rfl, eo]; rfl)) (by rw [lsW, if_pos hbt, if_pos (Int32.not_le.mp c_241)]) (by rw [apF, bI_eq.mp c_244]; rfl)  _ _ _ hP hD hS (lv_sub hl [0, 1, 2, 3, 4, 5, 6, 7, 8, 9, 10, 11, 12, 13, 14, 15, 16, 17, 18, 19, 20, 21] rfl)
                        · refine lv_aload hx hb dL_holds_479 (lv_at hl 16 rfl) ?_
                          refine lv_iload hx hb dL_holds_481 (lv_at hl 1 rfl) ?_
                          refine ar_ld hx hb hK hP 2 rfl j (nI_clamp (by omega)) (vp_in_nI (by omega) (by omega)) dL_holds_483 ?_
                          refine lv_iload hx hb dL_holds_484 (lv_at hl 4 rfl) ?_
                          refine lv_iand hx hb dL_holds_486 ?_
                          refine lv_if_ne (tgt := 494) hx hb dL_holds_487 (by decide) (fun c_245 => ?_) (fun c_245 => ?_)
                          · refine lv_iconst (v := 0) hx hb dL_holds_494 (by decide) ?_
                            refine lv_istore (lv' := [(20, .int 0), (19, .int ((S 4) j)), (21, .int (nI j)), (18, .int 0), (17, .int (nI t)), (16, .int ((bsF f S (t - 1)).2)), (15, .int ((bsF f S (t - 1)).1)), (14, .int (rwT f (t - 1))), (13, .int (wyF f 0 true (t - 1))), (12, .int (wyF f 0 false (t - 1))), (11, .int 1), (10, .int (dsF (S 4) 9)), (9, .int (dsF (S 0) 9)), (8, .int (dsF (mnS S) 9)), (7, .ref n_7), (6, .ref n_6), (5, .ref n_5), (4, .ref n_4), (3, .ref n_3), (2, .ref n_2), (1, .ref n_1), (0, .ref x0)]) hx hb dL_holds_495 hl (by decide) rfl (fun ls hl => ?_)
                            refine lv_iinc (v := (nI (j + 1))) (lv' := [(21, .int (nI (j + 1))), (20, .int 0), (19, .int ((S 4) j)), (18, .int 0), (17, .int (nI t)), (16, .int ((bsF f S (t - 1)).2)), (15, .int ((bsF f S (t - 1)).1)), (14, .int (rwT f (t - 1))), (13, .int (wyF f 0 true (t - 1))), (12, .int (wyF f 0 false (t - 1))), (11, .int 1), (10, .int (dsF (S 4) 9)), (9, .int (dsF (S 0) 9)), (8, .int (dsF (mnS S) 9)), (7, .ref n_7), (6, .ref n_6), (5, .ref n_5), (4, .ref n_4), (3, .ref n_3), (2, .ref n_2), (1, .ref n_1), (0, .ref x0)]) hx hb dL_holds_497 hl (k := 2) rfl (nI_1 j) (by decide) rfl (fun ls hl => ?_)
                            refine lv_goto (tgt := 397) hx hb dL_holds_500 (by decide) ?_
                            exact ih_j (j + 1) (upd (fil (inW f false t) (inW f false (t - 1)) j) j (((fil (inW f false t) (inW f false (t - 1)) j) j) + 0)) (upd (fil (inW f true t) (inW f true (t - 1)) j) j (((fil (inW f true t) (inW f true (t - 1)) j) j) + 0)) ((S 4) j) 0 (by omega) (by omega) (in_up f false (by omega) (by omega) (by omega) hbt (by rw [if_neg (by decide), ei]; rfl)) (in_up f true (by omega) (by omega) (by omega) hbt (by rw [if_pos rfl, eo]; rfl)) (by rw [lsW, if_pos hbt, if_pos (Int32.not_le.mp c_241)]) (by rw [apF, decide_eq_false (fun h9 => h9.elim (fun h8 => absurd (hbt.symm.trans h8) (by decide)) c_245), Bool.and_false]; rfl)  _ _ _ hP hD hS (lv_sub hl [0, 1, 2, 3, 4, 5, 6, 7, 8, 9, 10, 11, 12, 13, 14, 15, 16, 17, 18, 19, 20, 21] rfl)
                          · refine lv_iconst (v := 1) hx hb dL_holds_490 (by decide) ?_
                            refine lv_goto (tgt := 495) hx hb dL_holds_491 (by decide) ?_
                            refine lv_istore (lv' := [(20, .int 1), (19, .int ((S 4) j)), (21, .int (nI j)), (18, .int 0), (17, .int (nI t)), (16, .int ((bsF f S (t - 1)).2)), (15, .int ((bsF f S (t - 1)).1)), (14, .int (rwT f (t - 1))), (13, .int (wyF f 0 true (t - 1))), (12, .int (wyF f 0 false (t - 1))), (11, .int 1), (10, .int (dsF (S 4) 9)), (9, .int (dsF (S 0) 9)), (8, .int (dsF (mnS S) 9)), (7, .ref n_7), (6, .ref n_6), (5, .ref n_5), (4, .ref n_4), (3, .ref n_3), (2, .ref n_2), (1, .ref n_1), (0, .ref x0)]) hx hb dL_holds_495 hl (by decide) rfl (fun ls hl => ?_)
                            refine lv_iinc (v := (nI (j + 1))) (lv' := [(21, .int (nI (j + 1))), (20, .int 1), (19, .int ((S 4) j)), (18, .int 0), (17, .int (nI t)), (16, .int ((bsF f S (t - 1)).2)), (15, .int ((bsF f S (t - 1)).1)), (14, .int (rwT f (t - 1))), (13, .int (wyF f 0 true (t - 1))), (12, .int (wyF f 0 false (t - 1))), (11, .int 1), (10, .int (dsF (S 4) 9)), (9, .int (dsF (S 0) 9)), (8, .int (dsF (mnS S) 9)), (7, .ref n_7), (6, .ref n_6), (5, .ref n_5), (4, .ref n_4), (3, .ref n_3), (2, .ref n_2), (1, .ref n_1), (0, .ref x0)]) hx hb dL_holds_497 hl (k := 2) rfl (nI_1 j) (by decide) rfl (fun ls hl => ?_)
                            refine lv_goto (tgt := 397) hx hb dL_holds_500 (by decide) ?_
                            exact ih_j (j + 1) (upd (fil (inW f false t) (inW f false (t - 1)) j) j (((fil (inW f false t) (inW f false (t - 1)) j) j) + 0)) (upd (fil (inW f true t) (inW f true (t - 1)) j) j (((fil (inW f true t) (inW f true (t - 1)) j) j) + 0)) ((S 4) j) 1 (by omega) (by omega) (in_up f false (by omega) (by omega) (by omega) hbt (by rw [if_neg (by decide), ei]; rfl)) (in_up f true (by omega) (by omega) (by omega) hbt (by rw [if_pos rfl, eo]; rfl)) (by rw [lsW, if_pos hbt, if_pos (Int32.not_le.mp c_241)]) (by rw [apF, bI_ne.mp c_244, decide_eq_true (Or.inr c_245)]; rfl)  _ _ _ hP hD hS (lv_sub hl [0, 1, 2, 3, 4, 5, 6, 7, 8, 9, 10, 11, 12, 13, 14, 15, 16, 17, 18, 19, 20, 21] rfl)
                    · exact absurd c_240 (by decide)
                  · exact absurd c_239 (by decide)
          ·
            refine tp_e (y := 1) ew ?_
            refine lv_istore (lv' := [(18, .int 1), (17, .int (nI t)), (16, .int ((bsF f S (t - 1)).2)), (15, .int ((bsF f S (t - 1)).1)), (14, .int (rwT f (t - 1))), (13, .int (wyF f 0 true (t - 1))), (12, .int (wyF f 0 false (t - 1))), (11, .int 1), (10, .int (dsF (S 4) 9)), (9, .int (dsF (S 0) 9)), (8, .int (dsF (mnS S) 9)), (7, .ref n_7), (6, .ref n_6), (5, .ref n_5), (4, .ref n_4), (3, .ref n_3), (2, .ref n_2), (1, .ref n_1), (0, .ref x0)]) hx hb dL_holds_384 hl (by decide) rfl (fun ls hl => ?_)
            refine lv_sipush (v := 1000) hx hb dL_holds_386 (by decide) ?_
            refine lv_istore (lv' := [(19, .int 1000), (18, .int 1), (17, .int (nI t)), (16, .int ((bsF f S (t - 1)).2)), (15, .int ((bsF f S (t - 1)).1)), (14, .int (rwT f (t - 1))), (13, .int (wyF f 0 true (t - 1))), (12, .int (wyF f 0 false (t - 1))), (11, .int 1), (10, .int (dsF (S 4) 9)), (9, .int (dsF (S 0) 9)), (8, .int (dsF (mnS S) 9)), (7, .ref n_7), (6, .ref n_6), (5, .ref n_5), (4, .ref n_4), (3, .ref n_3), (2, .ref n_2), (1, .ref n_1), (0, .ref x0)]) hx hb dL_holds_389 hl (by decide) rfl (fun ls hl => ?_)
            refine lv_iconst (v := 1) hx hb dL_holds_391 (by decide) ?_
            refine lv_istore (lv' := [(20, .int 1), (19, .int 1000), (18, .int 1), (17, .int (nI t)), (16, .int ((bsF f S (t - 1)).2)), (15, .int ((bsF f S (t - 1)).1)), (14, .int (rwT f (t - 1))), (13, .int (wyF f 0 true (t - 1))), (12, .int (wyF f 0 false (t - 1))), (11, .int 1), (10, .int (dsF (S 4) 9)), (9, .int (dsF (S 0) 9)), (8, .int (dsF (mnS S) 9)), (7, .ref n_7), (6, .ref n_6), (5, .ref n_5), (4, .ref n_4), (3, .ref n_3), (2, .ref n_2), (1, .ref n_1), (0, .ref x0)]) hx hb dL_holds_392 hl (by decide) rfl (fun ls hl => ?_)
            refine lv_iconst (v := 0) hx hb dL_holds_394 (by decide) ?_
            refine lv_istore (lv' := [(21, .int 0), (20, .int 1), (19, .int 1000), (18, .int 1), (17, .int (nI t)), (16, .int ((bsF f S (t - 1)).2)), (15, .int ((bsF f S (t - 1)).1)), (14, .int (rwT f (t - 1))), (13, .int (wyF f 0 true (t - 1))), (12, .int (wyF f 0 false (t - 1))), (11, .int 1), (10, .int (dsF (S 4) 9)), (9, .int (dsF (S 0) 9)), (8, .int (dsF (mnS S) 9)), (7, .ref n_7), (6, .ref n_6), (5, .ref n_5), (4, .ref n_4), (3, .ref n_3), (2, .ref n_2), (1, .ref n_1), (0, .ref x0)]) hx hb dL_holds_395 hl (by decide) rfl (fun ls hl => ?_)
            suffices LOOP_j : ∀ (fu_j j : Nat) (g10 : Nat → Int32) (g11 : Nat → Int32) (z19 : Int32) (z20 : Int32), 9 - j < fu_j → j ≤ 9 → g10 = fil (inW f false t) (inW f false (t - 1)) j → g11 = fil (inW f true t) (inW f true (t - 1)) j → z19 = lsW (S 4) (nI t) j → z20 = bI (apF (bhG (S 2)) (nI t) j) → ∀ (H : Heap) (locs : List Loc) (ls : Array Slot), va_P D vwCl ([(n_7, .inl (k 0, 9, .inl g11)), (n_6, .inl (k 0, 9, .inl g10)), (n_5, .inl (k 0, 9, .inl (bhG (S 2)))), (n_4, .inl (k 0, 9, .inl (S 4))), (n_3, .inl (k 0, 9, .inl (S 3))), (n_2, .inl (k 0, 9, .inl (S 1))), (n_1, .inl (k 0, 9, .inl (S 2)))] ++ (Xa)) H → va_D A ([(n_7, .inl (k 0, 9, .inl g11)), (n_6, .inl (k 0, 9, .inl g10)), (n_5, .inl (k 0, 9, .inl (bhG (S 2)))), (n_4, .inl (k 0, 9, .inl (S 4))), (n_3, .inl (k 0, 9, .inl (S 3))), (n_2, .inl (k 0, 9, .inl (S 1))), (n_1, .inl (k 0, 9, .inl (S 2)))] ++ (Xa)) → va_S A s.heap H locs → lv_has ls 22 [(21, .int (nI j)), (20, .int z20), (19, .int z19), (18, .int 1), (17, .int (nI t)), (16, .int ((bsF f S (t - 1)).2)), (15, .int ((bsF f S (t - 1)).1)), (14, .int (rwT f (t - 1))), (13, .int (wyF f 0 true (t - 1))), (12, .int (wyF f 0 false (t - 1))), (11, .int 1), (10, .int (dsF (S 4) 9)), (9, .int (dsF (S 0) 9)), (8, .int (dsF (mnS S) 9)), (7, .ref n_7), (6, .ref n_6), (5, .ref n_5), (4, .ref n_4), (3, .ref n_3), (2, .ref n_2), (1, .ref n_1), (0, .ref x0)] → W p l e ({ frames := 31, cells := 7, slots := 63, locals := 839 } : Room) s m ([.ref x0] : List Value).toArray below meth c H locs 7 63 Q (F0 m 397 ls []) from LOOP_j (9 + 1) 0 (inW f false (t - 1)) (inW f true (t - 1)) 1000 1 (by omega) (by omega) ((fil_0 _ _).symm) ((fil_0 _ _).symm) (rfl) (rfl)  _ _ _ hP hD hS (lv_sub hl [0, 1, 2, 3, 4, 5, 6, 7, 8, 9, 10, 11, 12, 13, 14, 15, 16, 17, 18, 19, 20, 21] rfl)
            clear hP hD hS hl
            intro fu_j
            induction fu_j with
            | zero => intro j g10 g11 z19 z20 hn_j; omega
            | succ fu_j ih_j =>
              intro j g10 g11 z19 z20 hn_j hle_j e_g10 e_g11 e_z19 e_z20  H locs ls hP hD hS hl
              subst e_g10
              subst e_g11
              subst e_z19
              subst e_z20
              refine lv_iload hx hb dL_holds_397 (lv_at hl 0 rfl) ?_
              refine lv_bipush (v := 9) hx hb dL_holds_399 (by decide) ?_
              refine lv_icmp_ge (tgt := 503) hx hb dL_holds_401 (by decide) (fun c_246 => ?_) (fun c_246 => ?_)
              · have c_246 : 9 ≤ j := (nI_leI (a := 9) (b := j) (by omega) (by omega)).mp c_246
                have hz_j : 9 = j := by omega
                subst hz_j
                have hP : va_P D vwCl ([(n_7, .inl (k 0, 9, .inl (fil (inW f true t) (inW f true (t - 1)) 9))), (n_6, .inl (k 0, 9, .inl (inW f false t))), (n_5, .inl (k 0, 9, .inl (bhG (S 2)))), (n_4, .inl (k 0, 9, .inl (S 4))), (n_3, .inl (k 0, 9, .inl (S 3))), (n_2, .inl (k 0, 9, .inl (S 1))), (n_1, .inl (k 0, 9, .inl (S 2)))] ++ (Xa)) H := va_P.ext hP hD 1 rfl (inW f false t) (fun j hj => fil_at _ _ hj)
                have hD : va_D A ([(n_7, .inl (k 0, 9, .inl (fil (inW f true t) (inW f true (t - 1)) 9))), (n_6, .inl (k 0, 9, .inl (inW f false t))), (n_5, .inl (k 0, 9, .inl (bhG (S 2)))), (n_4, .inl (k 0, 9, .inl (S 4))), (n_3, .inl (k 0, 9, .inl (S 3))), (n_2, .inl (k 0, 9, .inl (S 1))), (n_1, .inl (k 0, 9, .inl (S 2)))] ++ (Xa)) := hD.addr rfl
                have hP : va_P D vwCl ([(n_7, .inl (k 0, 9, .inl (inW f true t))), (n_6, .inl (k 0, 9, .inl (inW f false t))), (n_5, .inl (k 0, 9, .inl (bhG (S 2)))), (n_4, .inl (k 0, 9, .inl (S 4))), (n_3, .inl (k 0, 9, .inl (S 3))), (n_2, .inl (k 0, 9, .inl (S 1))), (n_1, .inl (k 0, 9, .inl (S 2)))] ++ (Xa)) H := va_P.ext hP hD 0 rfl (inW f true t) (fun j hj => fil_at _ _ hj)
                have hD : va_D A ([(n_7, .inl (k 0, 9, .inl (inW f true t))), (n_6, .inl (k 0, 9, .inl (inW f false t))), (n_5, .inl (k 0, 9, .inl (bhG (S 2)))), (n_4, .inl (k 0, 9, .inl (S 4))), (n_3, .inl (k 0, 9, .inl (S 3))), (n_2, .inl (k 0, 9, .inl (S 1))), (n_1, .inl (k 0, 9, .inl (S 2)))] ++ (Xa)) := hD.addr rfl
                refine lv_iload hx hb dL_holds_503 (lv_at hl 9 rfl) ?_
                refine lv_iload hx hb dL_holds_505 (lv_at hl 3 rfl) ?_
                refine lv_if_le (tgt := 514) hx hb dL_holds_507 (by decide) (fun c_247 => ?_) (fun c_247 => ?_)
                · exact absurd c_247 (by decide)
                · refine lv_iconst (v := 1) hx hb dL_holds_510 (by decide) ?_
                  refine lv_goto (tgt := 515) hx hb dL_holds_511 (by decide) ?_
                  refine lv_iadd hx hb dL_holds_515 ?_
                  refine lv_istore (lv' := [(12, .int ((wyF f 0 false (t - 1)) + 1)), (21, .int (nI 9)), (20, .int (bI (apF (bhG (S 2)) (nI t) 9))), (19, .int (lsW (S 4) (nI t) 9)), (18, .int 1), (17, .int (nI t)), (16, .int ((bsF f S (t - 1)).2)), (15, .int ((bsF f S (t - 1)).1)), (14, .int (rwT f (t - 1))), (13, .int (wyF f 0 true (t - 1))), (11, .int 1), (10, .int (dsF (S 4) 9)), (9, .int (dsF (S 0) 9)), (8, .int (dsF (mnS S) 9)), (7, .ref n_7), (6, .ref n_6), (5, .ref n_5), (4, .ref n_4), (3, .ref n_3), (2, .ref n_2), (1, .ref n_1), (0, .ref x0)]) hx hb dL_holds_516 hl (by decide) rfl (fun ls hl => ?_)
                  refine lv_iload hx hb dL_holds_518 (lv_at hl 9 rfl) ?_
                  refine lv_iload hx hb dL_holds_520 (lv_at hl 4 rfl) ?_
                  refine lv_iconst (v := 1) hx hb dL_holds_522 (by decide) ?_
                  refine lv_icmp_le (tgt := 530) hx hb dL_holds_523 (by decide) (fun c_248 => ?_) (fun c_248 => ?_)
                  · refine lv_iconst (v := 0) hx hb dL_holds_530 (by decide) ?_
                    refine lv_iadd hx hb dL_holds_531 ?_
                    refine lv_istore (lv' := [(13, .int ((wyF f 0 true (t - 1)) + 0)), (12, .int ((wyF f 0 false (t - 1)) + 1)), (21, .int (nI 9)), (20, .int (bI (apF (bhG (S 2)) (nI t) 9))), (19, .int (lsW (S 4) (nI t) 9)), (18, .int 1), (17, .int (nI t)), (16, .int ((bsF f S (t - 1)).2)), (15, .int ((bsF f S (t - 1)).1)), (14, .int (rwT f (t - 1))), (11, .int 1), (10, .int (dsF (S 4) 9)), (9, .int (dsF (S 0) 9)), (8, .int (dsF (mnS S) 9)), (7, .ref n_7), (6, .ref n_6), (5, .ref n_5), (4, .ref n_4), (3, .ref n_3), (2, .ref n_2), (1, .ref n_1), (0, .ref x0)]) hx hb dL_holds_532 hl (by decide) rfl (fun ls hl => ?_)
                    refine lv_iload hx hb dL_holds_534 (lv_at hl 3 rfl) ?_
                    refine lv_if_eq (tgt := 557) hx hb dL_holds_536 (by decide) (fun c_249 => ?_) (fun c_249 => ?_)
                    · refine lv_iload hx hb dL_holds_557 (lv_at hl 9 rfl) ?_
                      refine lv_istore (lv' := [(14, .int (rwT f (t - 1))), (13, .int ((wyF f 0 true (t - 1)) + 0)), (12, .int ((wyF f 0 false (t - 1)) + 1)), (21, .int (nI 9)), (20, .int (bI (apF (bhG (S 2)) (nI t) 9))), (19, .int (lsW (S 4) (nI t) 9)), (18, .int 1), (17, .int (nI t)), (16, .int ((bsF f S (t - 1)).2)), (15, .int ((bsF f S (t - 1)).1)), (11, .int 1), (10, .int (dsF (S 4) 9)), (9, .int (dsF (S 0) 9)), (8, .int (dsF (mnS S) 9)), (7, .ref n_7), (6, .ref n_6), (5, .ref n_5), (4, .ref n_4), (3, .ref n_3), (2, .ref n_2), (1, .ref n_1), (0, .ref x0)]) hx hb dL_holds_559 hl (by decide) rfl (fun ls hl => ?_)
                      refine lv_iload hx hb dL_holds_561 (lv_at hl 6 rfl) ?_
                      refine lv_iconst (v := 1) hx hb dL_holds_563 (by decide) ?_
                      refine lv_icmp_le (tgt := 604) hx hb dL_holds_564 (by decide) (fun c_250 => ?_) (fun c_250 => ?_)
                      · have hbs : bsF f S (t + 1 - 1) = bsF f S (t - 1) := bs_no (by omega) eo
                        refine lv_iinc (v := (nI (t + 1))) (lv' := [(17, .int (nI (t + 1))), (14, .int (rwT f (t - 1))), (13, .int ((wyF f 0 true (t - 1)) + 0)), (12, .int ((wyF f 0 false (t - 1)) + 1)), (21, .int (nI 9)), (20, .int (bI (apF (bhG (S 2)) (nI t) 9))), (19, .int (lsW (S 4) (nI t) 9)), (18, .int 1), (16, .int ((bsF f S (t - 1)).2)), (15, .int ((bsF f S (t - 1)).1)), (11, .int 1), (10, .int (dsF (S 4) 9)), (9, .int (dsF (S 0) 9)), (8, .int (dsF (mnS S) 9)), (7, .ref n_7), (6, .ref n_6), (5, .ref n_5), (4, .ref n_4), (3, .ref n_3), (2, .ref n_2), (1, .ref n_1), (0, .ref x0)]) hx hb dL_holds_604 hl (k := 7) rfl (nI_1 t) (by decide) rfl (fun ls hl => ?_)
                        refine lv_goto (tgt := 368) hx hb dL_holds_607 (by decide) ?_
                        exact ih_t (t + 1) (inW f false t) (inW f true t) ((wyF f 0 false (t - 1)) + 1) ((wyF f 0 true (t - 1)) + 0) (rwT f (t - 1)) ((bsF f S (t - 1)).1) ((bsF f S (t - 1)).2) (by omega) (by omega) (by rw [show t + 1 - 1 = t from by omega]) (by rw [show t + 1 - 1 = t from by omega]) (wy_t f false (by omega) (by rw [if_neg (by decide), ei]; rfl)) (wy_t f true (by omega) (by rw [if_pos rfl, eo]; rfl)) (rw_a hG (by omega) (bI_eq.mp c_249)) (by rw [hbs]) (by rw [hbs]) (by omega) _ _ _ hP hD hS (lv_sub hl [0, 8, 9, 1, 2, 3, 10, 11, 12, 13, 14, 15, 16, 17, 18, 19, 20, 21] rfl)
                      · exact absurd c_250 (by decide)
                    · refine lv_iload hx hb dL_holds_539 (lv_at hl 6 rfl) ?_
                      have hPc : va_P D vwCl ([]) H := hP.sub [] rfl
                      have hDc : va_D A ([]) := hD.sub [] (by decide +kernel) rfl
                      refine cl_i0 (va_runS (As := [.int (nI t)]) (rest := []) ⟨hx, hb, hml, hown, hts⟩ (c_L_bits l D k (nI t) H.size) (va_cwS 1 hts gL_holds_L_bits rfl rfl rfl (by decide +kernel) ⟨Nat.le_of_ble_eq_true rfl, Nat.le_of_ble_eq_true rfl⟩) ⟨pr_blind, pr_at hN hPc hK hDc⟩ rfl rfl hl.1 rfl (lv_room (Nat.le_of_ble_eq_true rfl)) dL_holds_541 ⟨Nat.le_of_ble_eq_true rfl, Nat.le_of_ble_eq_true rfl⟩) hP hD hS hA [] rfl (fun H locs hP hD hS => ?_)
                      clear hPc hDc
                      refine lv_iload hx hb dL_holds_544 (lv_at hl 9 rfl) ?_
                      refine lv_icmp_le (tgt := 557) hx hb dL_holds_546 (by decide) (fun c_251 => ?_) (fun c_251 => ?_)
                      · refine lv_iload hx hb dL_holds_557 (lv_at hl 9 rfl) ?_
                        refine lv_istore (lv' := [(14, .int (rwT f (t - 1))), (13, .int ((wyF f 0 true (t - 1)) + 0)), (12, .int ((wyF f 0 false (t - 1)) + 1)), (21, .int (nI 9)), (20, .int (bI (apF (bhG (S 2)) (nI t) 9))), (19, .int (lsW (S 4) (nI t) 9)), (18, .int 1), (17, .int (nI t)), (16, .int ((bsF f S (t - 1)).2)), (15, .int ((bsF f S (t - 1)).1)), (11, .int 1), (10, .int (dsF (S 4) 9)), (9, .int (dsF (S 0) 9)), (8, .int (dsF (mnS S) 9)), (7, .ref n_7), (6, .ref n_6), (5, .ref n_5), (4, .ref n_4), (3, .ref n_3), (2, .ref n_2), (1, .ref n_1), (0, .ref x0)]) hx hb dL_holds_559 hl (by decide) rfl (fun ls hl => ?_)
                        refine lv_iload hx hb dL_holds_561 (lv_at hl 6 rfl) ?_
                        refine lv_iconst (v := 1) hx hb dL_holds_563 (by decide) ?_
                        refine lv_icmp_le (tgt := 604) hx hb dL_holds_564 (by decide) (fun c_252 => ?_) (fun c_252 => ?_)
                        · have hbs : bsF f S (t + 1 - 1) = bsF f S (t - 1) := bs_no (by omega) eo
                          refine lv_iinc (v := (nI (t + 1))) (lv' := [(17, .int (nI (t + 1))), (14, .int (rwT f (t - 1))), (13, .int ((wyF f 0 true (t - 1)) + 0)), (12, .int ((wyF f 0 false (t - 1)) + 1)), (21, .int (nI 9)), (20, .int (bI (apF (bhG (S 2)) (nI t) 9))), (19, .int (lsW (S 4) (nI t) 9)), (18, .int 1), (16, .int ((bsF f S (t - 1)).2)), (15, .int ((bsF f S (t - 1)).1)), (11, .int 1), (10, .int (dsF (S 4) 9)), (9, .int (dsF (S 0) 9)), (8, .int (dsF (mnS S) 9)), (7, .ref n_7), (6, .ref n_6), (5, .ref n_5), (4, .ref n_4), (3, .ref n_3), (2, .ref n_2), (1, .ref n_1), (0, .ref x0)]) hx hb dL_holds_604 hl (k := 7) rfl (nI_1 t) (by decide) rfl (fun ls hl => ?_)
                          refine lv_goto (tgt := 368) hx hb dL_holds_607 (by decide) ?_
                          exact ih_t (t + 1) (inW f false t) (inW f true t) ((wyF f 0 false (t - 1)) + 1) ((wyF f 0 true (t - 1)) + 0) (rwT f (t - 1)) ((bsF f S (t - 1)).1) ((bsF f S (t - 1)).2) (by omega) (by omega) (by rw [show t + 1 - 1 = t from by omega]) (by rw [show t + 1 - 1 = t from by omega]) (wy_t f false (by omega) (by rw [if_neg (by decide), ei]; rfl)) (wy_t f true (by omega) (by rw [if_pos rfl, eo]; rfl)) (rw_b hG (by omega) (bI_ne.mp c_249) c_251) (by rw [hbs]) (by rw [hbs]) (by omega) _ _ _ hP hD hS (lv_sub hl [0, 8, 9, 1, 2, 3, 10, 11, 12, 13, 14, 15, 16, 17, 18, 19, 20, 21] rfl)
                        · exact absurd c_252 (by decide)
                      · refine lv_iload hx hb dL_holds_549 (lv_at hl 6 rfl) ?_
                        have hPc : va_P D vwCl ([]) H := hP.sub [] rfl
                        have hDc : va_D A ([]) := hD.sub [] (by decide +kernel) rfl
                        refine cl_i0 (va_runS (As := [.int (nI t)]) (rest := []) ⟨hx, hb, hml, hown, hts⟩ (c_L_bits l D k (nI t) H.size) (va_cwS 1 hts gL_holds_L_bits rfl rfl rfl (by decide +kernel) ⟨Nat.le_of_ble_eq_true rfl, Nat.le_of_ble_eq_true rfl⟩) ⟨pr_blind, pr_at hN hPc hK hDc⟩ rfl rfl hl.1 rfl (lv_room (Nat.le_of_ble_eq_true rfl)) dL_holds_551 ⟨Nat.le_of_ble_eq_true rfl, Nat.le_of_ble_eq_true rfl⟩) hP hD hS hA [] rfl (fun H locs hP hD hS => ?_)
                        clear hPc hDc
                        refine lv_goto (tgt := 559) hx hb dL_holds_554 (by decide) ?_
                        refine lv_istore (lv' := [(14, .int (mnF (nI t) 9)), (13, .int ((wyF f 0 true (t - 1)) + 0)), (12, .int ((wyF f 0 false (t - 1)) + 1)), (21, .int (nI 9)), (20, .int (bI (apF (bhG (S 2)) (nI t) 9))), (19, .int (lsW (S 4) (nI t) 9)), (18, .int 1), (17, .int (nI t)), (16, .int ((bsF f S (t - 1)).2)), (15, .int ((bsF f S (t - 1)).1)), (11, .int 1), (10, .int (dsF (S 4) 9)), (9, .int (dsF (S 0) 9)), (8, .int (dsF (mnS S) 9)), (7, .ref n_7), (6, .ref n_6), (5, .ref n_5), (4, .ref n_4), (3, .ref n_3), (2, .ref n_2), (1, .ref n_1), (0, .ref x0)]) hx hb dL_holds_559 hl (by decide) rfl (fun ls hl => ?_)
                        refine lv_iload hx hb dL_holds_561 (lv_at hl 6 rfl) ?_
                        refine lv_iconst (v := 1) hx hb dL_holds_563 (by decide) ?_
                        refine lv_icmp_le (tgt := 604) hx hb dL_holds_564 (by decide) (fun c_253 => ?_) (fun c_253 => ?_)
                        · have hbs : bsF f S (t + 1 - 1) = bsF f S (t - 1) := bs_no (by omega) eo
                          refine lv_iinc (v := (nI (t + 1))) (lv' := [(17, .int (nI (t + 1))), (14, .int (mnF (nI t) 9)), (13, .int ((wyF f 0 true (t - 1)) + 0)), (12, .int ((wyF f 0 false (t - 1)) + 1)), (21, .int (nI 9)), (20, .int (bI (apF (bhG (S 2)) (nI t) 9))), (19, .int (lsW (S 4) (nI t) 9)), (18, .int 1), (16, .int ((bsF f S (t - 1)).2)), (15, .int ((bsF f S (t - 1)).1)), (11, .int 1), (10, .int (dsF (S 4) 9)), (9, .int (dsF (S 0) 9)), (8, .int (dsF (mnS S) 9)), (7, .ref n_7), (6, .ref n_6), (5, .ref n_5), (4, .ref n_4), (3, .ref n_3), (2, .ref n_2), (1, .ref n_1), (0, .ref x0)]) hx hb dL_holds_604 hl (k := 7) rfl (nI_1 t) (by decide) rfl (fun ls hl => ?_)
                          refine lv_goto (tgt := 368) hx hb dL_holds_607 (by decide) ?_
                          exact ih_t (t + 1) (inW f false t) (inW f true t) ((wyF f 0 false (t - 1)) + 1) ((wyF f 0 true (t - 1)) + 0) (mnF (nI t) 9) ((bsF f S (t - 1)).1) ((bsF f S (t - 1)).2) (by omega) (by omega) (by rw [show t + 1 - 1 = t from by omega]) (by rw [show t + 1 - 1 = t from by omega]) (wy_t f false (by omega) (by rw [if_neg (by decide), ei]; rfl)) (wy_t f true (by omega) (by rw [if_pos rfl, eo]; rfl)) (rw_c hG (by omega) (bI_ne.mp c_249) c_251) (by rw [hbs]) (by rw [hbs]) (by omega) _ _ _ hP hD hS (lv_sub hl [0, 8, 9, 1, 2, 3, 10, 11, 12, 13, 14, 15, 16, 17, 18, 19, 20, 21] rfl)
                        · exact absurd c_253 (by decide)
                  · exact absurd c_248 (by decide)
              · have c_246 : ¬ (9 ≤ j) := fun h9 => c_246 ((nI_leI (a := 9) (b := j) (by omega) (by omega)).mpr h9)
                refine lv_iload hx hb dL_holds_404 (lv_at hl 4 rfl) ?_
                refine lv_iload hx hb dL_holds_406 (lv_at hl 0 rfl) ?_
                refine lv_ishr hx hb dL_holds_408 ?_
                refine lv_iconst (v := 1) hx hb dL_holds_409 (by decide) ?_
                refine lv_iand hx hb dL_holds_410 ?_
                refine lv_iconst (v := 1) hx hb dL_holds_411 (by decide) ?_
                refine lv_icmp_ne (tgt := 497) hx hb dL_holds_412 (by decide) (fun c_254 => ?_) (fun c_254 => ?_)
                · have hbt : ¬ bitv (nI t) (nI j) = 1 := c_254
                  have hb0 : bitv (nI t) (nI j) = 0 := (bv_01 (show t < 512 from by omega) j (by omega)).resolve_right hbt
                  refine lv_iinc (v := (nI (j + 1))) (lv' := [(21, .int (nI (j + 1))), (20, .int (bI (apF (bhG (S 2)) (nI t) j))), (19, .int (lsW (S 4) (nI t) j)), (18, .int 1), (17, .int (nI t)), (16, .int ((bsF f S (t - 1)).2)), (15, .int ((bsF f S (t - 1)).1)), (14, .int (rwT f (t - 1))), (13, .int (wyF f 0 true (t - 1))), (12, .int (wyF f 0 false (t - 1))), (11, .int 1), (10, .int (dsF (S 4) 9)), (9, .int (dsF (S 0) 9)), (8, .int (dsF (mnS S) 9)), (7, .ref n_7), (6, .ref n_6), (5, .ref n_5), (4, .ref n_4), (3, .ref n_3), (2, .ref n_2), (1, .ref n_1), (0, .ref x0)]) hx hb dL_holds_497 hl (k := 0) rfl (nI_1 j) (by decide) rfl (fun ls hl => ?_)
                  refine lv_goto (tgt := 397) hx hb dL_holds_500 (by decide) ?_
                  exact ih_j (j + 1) (fil (inW f false t) (inW f false (t - 1)) j) (fil (inW f true t) (inW f true (t - 1)) j) (lsW (S 4) (nI t) j) (bI (apF (bhG (S 2)) (nI t) j)) (by omega) (by omega) (in_no f false (by omega) (by omega) (by omega) hbt) (in_no f true (by omega) (by omega) (by omega) hbt) (by rw [lsW, if_neg hbt]) (by rw [apF, decide_eq_true (Or.inl hb0), Bool.and_true])  _ _ _ hP hD hS (lv_sub hl [0, 1, 2, 3, 4, 5, 6, 7, 8, 9, 10, 11, 12, 13, 14, 15, 16, 17, 18, 19, 20, 21] rfl)
                · have hbt : bitv (nI t) (nI j) = 1 := c_254
                  refine lv_aload hx hb dL_holds_415 (lv_at hl 15 rfl) ?_
                  refine lv_iload hx hb dL_holds_417 (lv_at hl 0 rfl) ?_
                  refine lv_dup2_11 hx hb dL_holds_419 rfl rfl ?_
                  refine ar_ld hx hb hK hP 1 rfl j (nI_clamp (by omega)) (vp_in_nI (by omega) (by omega)) dL_holds_420 ?_
                  refine lv_iload hx hb dL_holds_421 (lv_at hl 3 rfl) ?_
                  refine lv_if_le (tgt := 430) hx hb dL_holds_423 (by decide) (fun c_255 => ?_) (fun c_255 => ?_)
                  · exact absurd c_255 (by decide)
                  · refine lv_iconst (v := 1) hx hb dL_holds_426 (by decide) ?_
                    refine lv_goto (tgt := 431) hx hb dL_holds_427 (by decide) ?_
                    refine lv_iadd hx hb dL_holds_431 ?_
                    refine ar_st hx hb hK hP hD hS 1 rfl j (nI_clamp (by omega)) (vp_in_nI (by omega) (by omega)) dL_holds_432 (wn := ([(n_7, .inl (k 0, 9, .inl (fil (inW f true t) (inW f true (t - 1)) j))), (n_6, .inl (k 0, 9, .inl (upd (fil (inW f false t) (inW f false (t - 1)) j) j (((fil (inW f false t) (inW f false (t - 1)) j) j) + 1)))), (n_5, .inl (k 0, 9, .inl (bhG (S 2)))), (n_4, .inl (k 0, 9, .inl (S 4))), (n_3, .inl (k 0, 9, .inl (S 3))), (n_2, .inl (k 0, 9, .inl (S 1))), (n_1, .inl (k 0, 9, .inl (S 2)))] ++ (Xa))) rfl (fun H locs hP hD hS => ?_)
                    refine lv_aload hx hb dL_holds_433 (lv_at hl 14 rfl) ?_
                    refine lv_iload hx hb dL_holds_435 (lv_at hl 0 rfl) ?_
                    refine lv_dup2_11 hx hb dL_holds_437 rfl rfl ?_
                    refine ar_ld hx hb hK hP 0 rfl j (nI_clamp (by omega)) (vp_in_nI (by omega) (by omega)) dL_holds_438 ?_
                    refine lv_iload hx hb dL_holds_439 (lv_at hl 3 rfl) ?_
                    refine lv_iconst (v := 1) hx hb dL_holds_441 (by decide) ?_
                    refine lv_icmp_le (tgt := 449) hx hb dL_holds_442 (by decide) (fun c_256 => ?_) (fun c_256 => ?_)
                    · refine lv_iconst (v := 0) hx hb dL_holds_449 (by decide) ?_
                      refine lv_iadd hx hb dL_holds_450 ?_
                      refine ar_st hx hb hK hP hD hS 0 rfl j (nI_clamp (by omega)) (vp_in_nI (by omega) (by omega)) dL_holds_451 (wn := ([(n_7, .inl (k 0, 9, .inl (upd (fil (inW f true t) (inW f true (t - 1)) j) j (((fil (inW f true t) (inW f true (t - 1)) j) j) + 0)))), (n_6, .inl (k 0, 9, .inl (upd (fil (inW f false t) (inW f false (t - 1)) j) j (((fil (inW f false t) (inW f false (t - 1)) j) j) + 1)))), (n_5, .inl (k 0, 9, .inl (bhG (S 2)))), (n_4, .inl (k 0, 9, .inl (S 4))), (n_3, .inl (k 0, 9, .inl (S 3))), (n_2, .inl (k 0, 9, .inl (S 1))), (n_1, .inl (k 0, 9, .inl (S 2)))] ++ (Xa))) rfl (fun H locs hP hD hS => ?_)
                      refine lv_aload hx hb dL_holds_452 (lv_at hl 17 rfl) ?_
                      refine lv_iload hx hb dL_holds_454 (lv_at hl 0 rfl) ?_
                      refine ar_ld hx hb hK hP 3 rfl j (nI_clamp (by omega)) (vp_in_nI (by omega) (by omega)) dL_holds_456 ?_
                      refine lv_iload hx hb dL_holds_457 (lv_at hl 2 rfl) ?_
                      refine lv_icmp_ge (tgt := 470) hx hb dL_holds_459 (by decide) (fun c_257 => ?_) (fun c_257 => ?_)
                      · refine lv_iload hx hb dL_holds_470 (lv_at hl 2 rfl) ?_
                        refine lv_istore (lv' := [(19, .int (lsW (S 4) (nI t) j)), (21, .int (nI j)), (20, .int (bI (apF (bhG (S 2)) (nI t) j))), (18, .int 1), (17, .int (nI t)), (16, .int ((bsF f S (t - 1)).2)), (15, .int ((bsF f S (t - 1)).1)), (14, .int (rwT f (t - 1))), (13, .int (wyF f 0 true (t - 1))), (12, .int (wyF f 0 false (t - 1))), (11, .int 1), (10, .int (dsF (S 4) 9)), (9, .int (dsF (S 0) 9)), (8, .int (dsF (mnS S) 9)), (7, .ref n_7), (6, .ref n_6), (5, .ref n_5), (4, .ref n_4), (3, .ref n_3), (2, .ref n_2), (1, .ref n_1), (0, .ref x0)]) hx hb dL_holds_472 hl (by decide) rfl (fun ls hl => ?_)
                        refine lv_iload hx hb dL_holds_474 (lv_at hl 2 rfl) ?_
                        refine lv_if_eq (tgt := 494) hx hb dL_holds_476 (by decide) (fun c_258 => ?_) (fun c_258 => ?_)
                        · refine lv_iconst (v := 0) hx hb dL_holds_494 (by decide) ?_
                          refine lv_istore (lv' := [(20, .int 0), (19, .int (lsW (S 4) (nI t) j)), (21, .int (nI j)), (18, .int 1), (17, .int (nI t)), (16, .int ((bsF f S (t - 1)).2)), (15, .int ((bsF f S (t - 1)).1)), (14, .int (rwT f (t - 1))), (13, .int (wyF f 0 true (t - 1))), (12, .int (wyF f 0 false (t - 1))), (11, .int 1), (10, .int (dsF (S 4) 9)), (9, .int (dsF (S 0) 9)), (8, .int (dsF (mnS S) 9)), (7, .ref n_7), (6, .ref n_6), (5, .ref n_5), (4, .ref n_4), (3, .ref n_3), (2, .ref n_2), (1, .ref n_1), (0, .ref x0)]) hx hb dL_holds_495 hl (by decide) rfl (fun ls hl => ?_)
                          refine lv_iinc (v := (nI (j + 1))) (lv' := [(21, .int (nI (j + 1))), (20, .int 0), (19, .int (lsW (S 4) (nI t) j)), (18, .int 1), (17, .int (nI t)), (16, .int ((bsF f S (t - 1)).2)), (15, .int ((bsF f S (t - 1)).1)), (14, .int (rwT f (t - 1))), (13, .int (wyF f 0 true (t - 1))), (12, .int (wyF f 0 false (t - 1))), (11, .int 1), (10, .int (dsF (S 4) 9)), (9, .int (dsF (S 0) 9)), (8, .int (dsF (mnS S) 9)), (7, .ref n_7), (6, .ref n_6), (5, .ref n_5), (4, .ref n_4), (3, .ref n_3), (2, .ref n_2), (1, .ref n_1), (0, .ref x0)]) hx hb dL_holds_497 hl (k := 2) rfl (nI_1 j) (by decide) rfl (fun ls hl => ?_)
                          refine lv_goto (tgt := 397) hx hb dL_holds_500 (by decide) ?_
                          exact ih_j (j + 1) (upd (fil (inW f false t) (inW f false (t - 1)) j) j (((fil (inW f false t) (inW f false (t - 1)) j) j) + 1)) (upd (fil (inW f true t) (inW f true (t - 1)) j) j (((fil (inW f true t) (inW f true (t - 1)) j) j) + 0)) (lsW (S 4) (nI t) j) 0 (by omega) (by omega) (in_up f false (by omega) (by omega) (by omega) hbt (by rw [if_neg (by decide), ei]; rfl)) (in_up f true (by omega) (by omega) (by omega) hbt (by rw [if_pos rfl, eo]; rfl)) (by rw [lsW, if_pos hbt, if_neg (Int32.not_lt.mpr c_257)]) (by rw [apF, bI_eq.mp c_258]; rfl)  _ _ _ hP hD hS (lv_sub hl [0, 1, 2, 3, 4, 5, 6, 7, 8, 9, 10, 11, 12, 13, 14, 15, 16, 17, 18, 19, 20, 21] rfl)
                        · refine lv_aload hx hb dL_holds_479 (lv_at hl 16 rfl) ?_
                          refine lv_iload hx hb dL_holds_481 (lv_at hl 1 rfl) ?_
                          refine ar_ld hx hb hK hP 2 rfl j (nI_clamp (by omega)) (vp_in_nI (by omega) (by omega)) dL_holds_483 ?_
                          refine lv_iload hx hb dL_holds_484 (lv_at hl 4 rfl) ?_
                          refine lv_iand hx hb dL_holds_486 ?_
                          refine lv_if_ne (tgt := 494) hx hb dL_holds_487 (by decide) (fun c_259 => ?_) (fun c_259 => ?_)
                          · refine lv_iconst (v := 0) hx hb dL_holds_494 (by decide) ?_
                            refine lv_istore (lv' := [(20, .int 0), (19, .int (lsW (S 4) (nI t) j)), (21, .int (nI j)), (18, .int 1), (17, .int (nI t)), (16, .int ((bsF f S (t - 1)).2)), (15, .int ((bsF f S (t - 1)).1)), (14, .int (rwT f (t - 1))), (13, .int (wyF f 0 true (t - 1))), (12, .int (wyF f 0 false (t - 1))), (11, .int 1), (10, .int (dsF (S 4) 9)), (9, .int (dsF (S 0) 9)), (8, .int (dsF (mnS S) 9)), (7, .ref n_7), (6, .ref n_6), (5, .ref n_5), (4, .ref n_4), (3, .ref n_3), (2, .ref n_2), (1, .ref n_1), (0, .ref x0)]) hx hb dL_holds_495 hl (by decide) rfl (fun ls hl => ?_)
                            refine lv_iinc (v := (nI (j + 1))) (lv' := [(21, .int (nI (j + 1))), (20, .int 0), (19, .int (lsW (S 4) (nI t) j)), (18, .int 1), (17, .int (nI t)), (16, .int ((bsF f S (t - 1)).2)), (15, .int ((bsF f S (t - 1)).1)), (14, .int (rwT f (t - 1))), (13, .int (wyF f 0 true (t - 1))), (12, .int (wyF f 0 false (t - 1))), (11, .int 1), (10, .int (dsF (S 4) 9)), (9, .int (dsF (S 0) 9)), (8, .int (dsF (mnS S) 9)), (7, .ref n_7), (6, .ref n_6), (5, .ref n_5), (4, .ref n_4), (3, .ref n_3), (2, .ref n_2), (1, .ref n_1), (0, .ref x0)]) hx hb dL_holds_497 hl (k := 2) rfl (nI_1 j) (by decide) rfl (fun ls hl => ?_)
                            refine lv_goto (tgt := 397) hx hb dL_holds_500 (by decide) ?_
                            exact ih_j (j + 1) (upd (fil (inW f false t) (inW f false (t - 1)) j) j (((fil (inW f false t) (inW f false (t - 1)) j) j) + 1)) (upd (fil (inW f true t) (inW f true (t - 1)) j) j (((fil (inW f true t) (inW f true (t - 1)) j) j) + 0)) (lsW (S 4) (nI t) j) 0 (by omega) (by omega) (in_up f false (by omega) (by omega) (by omega) hbt (by rw [if_neg (by decide), ei]; rfl)) (in_up f true (by omega) (by omega) (by omega) hbt (by rw [if_pos rfl, eo]; rfl)) (by rw [lsW, if_pos hbt, if_neg (Int32.not_lt.mpr c_257)]) (by rw [apF, decide_eq_false (fun h9 => h9.elim (fun h8 => absurd (hbt.symm.trans h8) (by decide)) c_259), Bool.and_false]; rfl)  _ _ _ hP hD hS (lv_sub hl [0, 1, 2, 3, 4, 5, 6, 7, 8, 9, 10, 11, 12, 13, 14, 15, 16, 17, 18, 19, 20, 21] rfl)
                          · refine lv_iconst (v := 1) hx hb dL_holds_490 (by decide) ?_
                            refine lv_goto (tgt := 495) hx hb dL_holds_491 (by decide) ?_
                            refine lv_istore (lv' := [(20, .int 1), (19, .int (lsW (S 4) (nI t) j)), (21, .int (nI j)), (18, .int 1), (17, .int (nI t)), (16, .int ((bsF f S (t - 1)).2)), (15, .int ((bsF f S (t - 1)).1)), (14, .int (rwT f (t - 1))), (13, .int (wyF f 0 true (t - 1))), (12, .int (wyF f 0 false (t - 1))), (11, .int 1), (10, .int (dsF (S 4) 9)), (9, .int (dsF (S 0) 9)), (8, .int (dsF (mnS S) 9)), (7, .ref n_7), (6, .ref n_6), (5, .ref n_5), (4, .ref n_4), (3, .ref n_3), (2, .ref n_2), (1, .ref n_1), (0, .ref x0)]) hx hb dL_holds_495 hl (by decide) rfl (fun ls hl => ?_)
                            refine lv_iinc (v := (nI (j + 1))) (lv' := [(21, .int (nI (j + 1))), (20, .int 1), (19, .int (lsW (S 4) (nI t) j)), (18, .int 1), (17, .int (nI t)), (16, .int ((bsF f S (t - 1)).2)), (15, .int ((bsF f S (t - 1)).1)), (14, .int (rwT f (t - 1))), (13, .int (wyF f 0 true (t - 1))), (12, .int (wyF f 0 false (t - 1))), (11, .int 1), (10, .int (dsF (S 4) 9)), (9, .int (dsF (S 0) 9)), (8, .int (dsF (mnS S) 9)), (7, .ref n_7), (6, .ref n_6), (5, .ref n_5), (4, .ref n_4), (3, .ref n_3), (2, .ref n_2), (1, .ref n_1), (0, .ref x0)]) hx hb dL_holds_497 hl (k := 2) rfl (nI_1 j) (by decide) rfl (fun ls hl => ?_)
                            refine lv_goto (tgt := 397) hx hb dL_holds_500 (by decide) ?_
                            exact ih_j (j + 1) (upd (fil (inW f false t) (inW f false (t - 1)) j) j (((fil (inW f false t) (inW f false (t - 1)) j) j) + 1)) (upd (fil (inW f true t) (inW f true (t - 1)) j) j (((fil (inW f true t) (inW f true (t - 1)) j) j) + 0)) (lsW (S 4) (nI t) j) 1 (by omega) (by omega) (in_up f false (by omega) (by omega) (by omega) hbt (by rw [if_neg (by decide), ei]; rfl)) (in_up f true (by omega) (by omega) (by omega) hbt (by rw [if_pos rfl, eo]; rfl)) (by rw [lsW, if_pos hbt, if_neg (Int32.not_lt.mpr c_257)]) (by rw [apF, bI_ne.mp c_258, decide_eq_true (Or.inr c_259)]; rfl)  _ _ _ hP hD hS (lv_sub hl [0, 1, 2, 3, 4, 5, 6, 7, 8, 9, 10, 11, 12, 13, 14, 15, 16, 17, 18, 19, 20, 21] rfl)
                      · refine lv_aload hx hb dL_holds_462 (lv_at hl 17 rfl) ?_
                        refine lv_iload hx hb dL_holds_464 (lv_at hl 0 rfl) ?_
                        refine ar_ld hx hb hK hP 3 rfl j (nI_clamp (by omega)) (vp_in_nI (by omega) (by omega)) dL_holds_466 ?_
                        refine lv_goto (tgt := 472) hx hb dL_holds_467 (by decide) ?_
                        refine lv_istore (lv' := [(19, .int ((S 4) j)), (21, .int (nI j)), (20, .int (bI (apF (bhG (S 2)) (nI t) j))), (18, .int 1), (17, .int (nI t)), (16, .int ((bsF f S (t - 1)).2)), (15, .int ((bsF f S (t - 1)).1)), (14, .int (rwT f (t - 1))), (13, .int (wyF f 0 true (t - 1))), (12, .int (wyF f 0 false (t - 1))), (11, .int 1), (10, .int (dsF (S 4) 9)), (9, .int (dsF (S 0) 9)), (8, .int (dsF (mnS S) 9)), (7, .ref n_7), (6, .ref n_6), (5, .ref n_5), (4, .ref n_4), (3, .ref n_3), (2, .ref n_2), (1, .ref n_1), (0, .ref x0)]) hx hb dL_holds_472 hl (by decide) rfl (fun ls hl => ?_)
                        refine lv_iload hx hb dL_holds_474 (lv_at hl 2 rfl) ?_
                        refine lv_if_eq (tgt := 494) hx hb dL_holds_476 (by decide) (fun c_260 => ?_) (fun c_260 => ?_)
                        · refine lv_iconst (v := 0) hx hb dL_holds_494 (by decide) ?_
                          refine lv_istore (lv' := [(20, .int 0), (19, .int ((S 4) j)), (21, .int (nI j)), (18, .int 1), (17, .int (nI t)), (16, .int ((bsF f S (t - 1)).2)), (15, .int ((bsF f S (t - 1)).1)), (14, .int (rwT f (t - 1))), (13, .int (wyF f 0 true (t - 1))), (12, .int (wyF f 0 false (t - 1))), (11, .int 1), (10, .int (dsF (S 4) 9)), (9, .int (dsF (S 0) 9)), (8, .int (dsF (mnS S) 9)), (7, .ref n_7), (6, .ref n_6), (5, .ref n_5), (4, .ref n_4), (3, .ref n_3), (2, .ref n_2), (1, .ref n_1), (0, .ref x0)]) hx hb dL_holds_495 hl (by decide) rfl (fun ls hl => ?_)
                          refine lv_iinc (v := (nI (j + 1))) (lv' := [(21, .int (nI (j + 1))), (20, .int 0), (19, .int ((S 4) j)), (18, .int 1), (17, .int (nI t)), (16, .int ((bsF f S (t - 1)).2)), (15, .int ((bsF f S (t - 1)).1)), (14, .int (rwT f (t - 1))), (13, .int (wyF f 0 true (t - 1))), (12, .int (wyF f 0 false (t - 1))), (11, .int 1), (10, .int (dsF (S 4) 9)), (9, .int (dsF (S 0) 9)), (8, .int (dsF (mnS S) 9)), (7, .ref n_7), (6, .ref n_6), (5, .ref n_5), (4, .ref n_4), (3, .ref n_3), (2, .ref n_2), (1, .ref n_1), (0, .ref x0)]) hx hb dL_holds_497 hl (k := 2) rfl (nI_1 j) (by decide) rfl (fun ls hl => ?_)
                          refine lv_goto (tgt := 397) hx hb dL_holds_500 (by decide) ?_
                          exact ih_j (j + 1) (upd (fil (inW f false t) (inW f false (t - 1)) j) j (((fil (inW f false t) (inW f false (t - 1)) j) j) + 1)) (upd (fil (inW f true t) (inW f true (t - 1)) j) j (((fil (inW f true t) (inW f true (t - 1)) j) j) + 0)) ((S 4) j) 0 (by omega) (by omega) (in_up f false (by omega) (by omega) (by omega) hbt (by rw [if_neg (by decide), ei]; rfl)) (in_up f true (by omega) (by omega) (by omega) hbt (by rw [if_pos rfl, eo]; rfl)) (by rw [lsW, if_pos hbt, if_pos (Int32.not_le.mp c_257)]) (by rw [apF, bI_eq.mp c_260]; rfl)  _ _ _ hP hD hS (lv_sub hl [0, 1, 2, 3, 4, 5, 6, 7, 8, 9, 10, 11, 12, 13, 14, 15, 16, 17, 18, 19, 20, 21] rfl)
                        · refine lv_aload hx hb dL_holds_479 (lv_at hl 16 rfl) ?_
                          refine lv_iload hx hb dL_holds_481 (lv_at hl 1 rfl) ?_
                          refine ar_ld hx hb hK hP 2 rfl j (nI_clamp (by omega)) (vp_in_nI (by omega) (by omega)) dL_holds_483 ?_
                          refine lv_iload hx hb dL_holds_484 (lv_at hl 4 rfl) ?_
                          refine lv_iand hx hb dL_holds_486 ?_
                          refine lv_if_ne (tgt := 494) hx hb dL_holds_487 (by decide) (fun c_261 => ?_) (fun c_261 => ?_)
                          · refine lv_iconst (v := 0) hx hb dL_holds_494 (by decide) ?_
                            refine lv_istore (lv' := [(20, .int 0), (19, .int ((S 4) j)), (21, .int (nI j)), (18, .int 1), (17, .int (nI t)), (16, .int ((bsF f S (t - 1)).2)), (15, .int ((bsF f S (t - 1)).1)), (14, .int (rwT f (t - 1))), (13, .int (wyF f 0 true (t - 1))), (12, .int (wyF f 0 false (t - 1))), (11, .int 1), (10, .int (dsF (S 4) 9)), (9, .int (dsF (S 0) 9)), (8, .int (dsF (mnS S) 9)), (7, .ref n_7), (6, .ref n_6), (5, .ref n_5), (4, .ref n_4), (3, .ref n_3), (2, .ref n_2), (1, .ref n_1), (0, .ref x0)]) hx hb dL_holds_495 hl (by decide) rfl (fun ls hl => ?_)
                            refine lv_iinc (v := (nI (j + 1))) (lv' := [(21, .int (nI (j + 1))), (20, .int 0), (19, .int ((S 4) j)), (18, .int 1), (17, .int (nI t)), (16, .int ((bsF f S (t - 1)).2)), (15, .int ((bsF f S (t - 1)).1)), (14, .int (rwT f (t - 1))), (13, .int (wyF f 0 true (t - 1))), (12, .int (wyF f 0 false (t - 1))), (11, .int 1), (10, .int (dsF (S 4) 9)), (9, .int (dsF (S 0) 9)), (8, .int (dsF (mnS S) 9)), (7, .ref n_7), (6, .ref n_6), (5, .ref n_5), (4, .ref n_4), (3, .ref n_3), (2, .ref n_2), (1, .ref n_1), (0, .ref x0)]) hx hb dL_holds_497 hl (k := 2) rfl (nI_1 j) (by decide) rfl (fun ls hl => ?_)
                            refine lv_goto (tgt := 397) hx hb dL_holds_500 (by decide) ?_
                            exact ih_j (j + 1) (upd (fil (inW f false t) (inW f false (t - 1)) j) j (((fil (inW f false t) (inW f false (t - 1)) j) j) + 1)) (upd (fil (inW f true t) (inW f true (t - 1)) j) j (((fil (inW f true t) (inW f true (t - 1)) j) j) + 0)) ((S 4) j) 0 (by omega) (by omega) (in_up f false (by omega) (by omega) (by omega) hbt (by rw [if_neg (by decide), ei]; rfl)) (in_up f true (by omega) (by omega) (by omega) hbt (by rw [if_pos rfl, eo]; rfl)) (by rw [lsW, if_pos hbt, if_pos (Int32.not_le.mp c_257)]) (by rw [apF, decide_eq_false (fun h9 => h9.elim (fun h8 => absurd (hbt.symm.trans h8) (by decide)) c_261), Bool.and_false]; rfl)  _ _ _ hP hD hS (lv_sub hl [0, 1, 2, 3, 4, 5, 6, 7, 8, 9, 10, 11, 12, 13, 14, 15, 16, 17, 18, 19, 20, 21] rfl)
                          · refine lv_iconst (v := 1) hx hb dL_holds_490 (by decide) ?_
                            refine lv_goto (tgt := 495) hx hb dL_holds_491 (by decide) ?_
                            refine lv_istore (lv' := [(20, .int 1), (19, .int ((S 4) j)), (21, .int (nI j)), (18, .int 1), (17, .int (nI t)), (16, .int ((bsF f S (t - 1)).2)), (15, .int ((bsF f S (t - 1)).1)), (14, .int (rwT f (t - 1))), (13, .int (wyF f 0 true (t - 1))), (12, .int (wyF f 0 false (t - 1))), (11, .int 1), (10, .int (dsF (S 4) 9)), (9, .int (dsF (S 0) 9)), (8, .int (dsF (mnS S) 9)), (7, .ref n_7), (6, .ref n_6), (5, .ref n_5), (4, .ref n_4), (3, .ref n_3), (2, .ref n_2), (1, .ref n_1), (0, .ref x0)]) hx hb dL_holds_495 hl (by decide) rfl (fun ls hl => ?_)
                            refine lv_iinc (v := (nI (j + 1))) (lv' := [(21, .int (nI (j + 1))), (20, .int 1), (19, .int ((S 4) j)), (18, .int 1), (17, .int (nI t)), (16, .int ((bsF f S (t - 1)).2)), (15, .int ((bsF f S (t - 1)).1)), (14, .int (rwT f (t - 1))), (13, .int (wyF f 0 true (t - 1))), (12, .int (wyF f 0 false (t - 1))), (11, .int 1), (10, .int (dsF (S 4) 9)), (9, .int (dsF (S 0) 9)), (8, .int (dsF (mnS S) 9)), (7, .ref n_7), (6, .ref n_6), (5, .ref n_5), (4, .ref n_4), (3, .ref n_3), (2, .ref n_2), (1, .ref n_1), (0, .ref x0)]) hx hb dL_holds_497 hl (k := 2) rfl (nI_1 j) (by decide) rfl (fun ls hl => ?_)
                            refine lv_goto (tgt := 397) hx hb dL_holds_500 (by decide) ?_
                            exact ih_j (j + 1) (upd (fil (inW f false t) (inW f false (t - 1)) j) j (((fil (inW f false t) (inW f false (t - 1)) j) j) + 1)) (upd (fil (inW f true t) (inW f true (t - 1)) j) j (((fil (inW f true t) (inW f true (t - 1)) j) j) + 0)) ((S 4) j) 1 (by omega) (by omega) (in_up f false (by omega) (by omega) (by omega) hbt (by rw [if_neg (by decide), ei]; rfl)) (in_up f true (by omega) (by omega) (by omega) hbt (by rw [if_pos rfl, eo]; rfl)) (by rw [lsW, if_pos hbt, if_pos (Int32.not_le.mp c_257)]) (by rw [apF, bI_ne.mp c_260, decide_eq_true (Or.inr c_261)]; rfl)  _ _ _ hP hD hS (lv_sub hl [0, 1, 2, 3, 4, 5, 6, 7, 8, 9, 10, 11, 12, 13, 14, 15, 16, 17, 18, 19, 20, 21] rfl)
                    · exact absurd c_256 (by decide)
          ·
            refine tp_e (y := 2) ew ?_
            refine lv_istore (lv' := [(18, .int 2), (17, .int (nI t)), (16, .int ((bsF f S (t - 1)).2)), (15, .int ((bsF f S (t - 1)).1)), (14, .int (rwT f (t - 1))), (13, .int (wyF f 0 true (t - 1))), (12, .int (wyF f 0 false (t - 1))), (11, .int 1), (10, .int (dsF (S 4) 9)), (9, .int (dsF (S 0) 9)), (8, .int (dsF (mnS S) 9)), (7, .ref n_7), (6, .ref n_6), (5, .ref n_5), (4, .ref n_4), (3, .ref n_3), (2, .ref n_2), (1, .ref n_1), (0, .ref x0)]) hx hb dL_holds_384 hl (by decide) rfl (fun ls hl => ?_)
            refine lv_sipush (v := 1000) hx hb dL_holds_386 (by decide) ?_
            refine lv_istore (lv' := [(19, .int 1000), (18, .int 2), (17, .int (nI t)), (16, .int ((bsF f S (t - 1)).2)), (15, .int ((bsF f S (t - 1)).1)), (14, .int (rwT f (t - 1))), (13, .int (wyF f 0 true (t - 1))), (12, .int (wyF f 0 false (t - 1))), (11, .int 1), (10, .int (dsF (S 4) 9)), (9, .int (dsF (S 0) 9)), (8, .int (dsF (mnS S) 9)), (7, .ref n_7), (6, .ref n_6), (5, .ref n_5), (4, .ref n_4), (3, .ref n_3), (2, .ref n_2), (1, .ref n_1), (0, .ref x0)]) hx hb dL_holds_389 hl (by decide) rfl (fun ls hl => ?_)
            refine lv_iconst (v := 1) hx hb dL_holds_391 (by decide) ?_
            refine lv_istore (lv' := [(20, .int 1), (19, .int 1000), (18, .int 2), (17, .int (nI t)), (16, .int ((bsF f S (t - 1)).2)), (15, .int ((bsF f S (t - 1)).1)), (14, .int (rwT f (t - 1))), (13, .int (wyF f 0 true (t - 1))), (12, .int (wyF f 0 false (t - 1))), (11, .int 1), (10, .int (dsF (S 4) 9)), (9, .int (dsF (S 0) 9)), (8, .int (dsF (mnS S) 9)), (7, .ref n_7), (6, .ref n_6), (5, .ref n_5), (4, .ref n_4), (3, .ref n_3), (2, .ref n_2), (1, .ref n_1), (0, .ref x0)]) hx hb dL_holds_392 hl (by decide) rfl (fun ls hl => ?_)
            refine lv_iconst (v := 0) hx hb dL_holds_394 (by decide) ?_
            refine lv_istore (lv' := [(21, .int 0), (20, .int 1), (19, .int 1000), (18, .int 2), (17, .int (nI t)), (16, .int ((bsF f S (t - 1)).2)), (15, .int ((bsF f S (t - 1)).1)), (14, .int (rwT f (t - 1))), (13, .int (wyF f 0 true (t - 1))), (12, .int (wyF f 0 false (t - 1))), (11, .int 1), (10, .int (dsF (S 4) 9)), (9, .int (dsF (S 0) 9)), (8, .int (dsF (mnS S) 9)), (7, .ref n_7), (6, .ref n_6), (5, .ref n_5), (4, .ref n_4), (3, .ref n_3), (2, .ref n_2), (1, .ref n_1), (0, .ref x0)]) hx hb dL_holds_395 hl (by decide) rfl (fun ls hl => ?_)
            suffices LOOP_j : ∀ (fu_j j : Nat) (g10 : Nat → Int32) (g11 : Nat → Int32) (z19 : Int32) (z20 : Int32), 9 - j < fu_j → j ≤ 9 → g10 = fil (inW f false t) (inW f false (t - 1)) j → g11 = fil (inW f true t) (inW f true (t - 1)) j → z19 = lsW (S 4) (nI t) j → z20 = bI (apF (bhG (S 2)) (nI t) j) → ∀ (H : Heap) (locs : List Loc) (ls : Array Slot), va_P D vwCl ([(n_7, .inl (k 0, 9, .inl g11)), (n_6, .inl (k 0, 9, .inl g10)), (n_5, .inl (k 0, 9, .inl (bhG (S 2)))), (n_4, .inl (k 0, 9, .inl (S 4))), (n_3, .inl (k 0, 9, .inl (S 3))), (n_2, .inl (k 0, 9, .inl (S 1))), (n_1, .inl (k 0, 9, .inl (S 2)))] ++ (Xa)) H → va_D A ([(n_7, .inl (k 0, 9, .inl g11)), (n_6, .inl (k 0, 9, .inl g10)), (n_5, .inl (k 0, 9, .inl (bhG (S 2)))), (n_4, .inl (k 0, 9, .inl (S 4))), (n_3, .inl (k 0, 9, .inl (S 3))), (n_2, .inl (k 0, 9, .inl (S 1))), (n_1, .inl (k 0, 9, .inl (S 2)))] ++ (Xa)) → va_S A s.heap H locs → lv_has ls 22 [(21, .int (nI j)), (20, .int z20), (19, .int z19), (18, .int 2), (17, .int (nI t)), (16, .int ((bsF f S (t - 1)).2)), (15, .int ((bsF f S (t - 1)).1)), (14, .int (rwT f (t - 1))), (13, .int (wyF f 0 true (t - 1))), (12, .int (wyF f 0 false (t - 1))), (11, .int 1), (10, .int (dsF (S 4) 9)), (9, .int (dsF (S 0) 9)), (8, .int (dsF (mnS S) 9)), (7, .ref n_7), (6, .ref n_6), (5, .ref n_5), (4, .ref n_4), (3, .ref n_3), (2, .ref n_2), (1, .ref n_1), (0, .ref x0)] → W p l e ({ frames := 31, cells := 7, slots := 63, locals := 839 } : Room) s m ([.ref x0] : List Value).toArray below meth c H locs 7 63 Q (F0 m 397 ls []) from LOOP_j (9 + 1) 0 (inW f false (t - 1)) (inW f true (t - 1)) 1000 1 (by omega) (by omega) ((fil_0 _ _).symm) ((fil_0 _ _).symm) (rfl) (rfl)  _ _ _ hP hD hS (lv_sub hl [0, 1, 2, 3, 4, 5, 6, 7, 8, 9, 10, 11, 12, 13, 14, 15, 16, 17, 18, 19, 20, 21] rfl)
            clear hP hD hS hl
            intro fu_j
            induction fu_j with
            | zero => intro j g10 g11 z19 z20 hn_j; omega
            | succ fu_j ih_j =>
              intro j g10 g11 z19 z20 hn_j hle_j e_g10 e_g11 e_z19 e_z20  H locs ls hP hD hS hl
              subst e_g10
              subst e_g11
              subst e_z19
              subst e_z20
              refine lv_iload hx hb dL_holds_397 (lv_at hl 0 rfl) ?_
              refine lv_bipush (v := 9) hx hb dL_holds_399 (by decide) ?_
              refine lv_icmp_ge (tgt := 503) hx hb dL_holds_401 (by decide) (fun c_262 => ?_) (fun c_262 => ?_)
              · have c_262 : 9 ≤ j := (nI_leI (a := 9) (b := j) (by omega) (by omega)).mp c_262
                have hz_j : 9 = j := by omega
                subst hz_j
                have hP : va_P D vwCl ([(n_7, .inl (k 0, 9, .inl (fil (inW f true t) (inW f true (t - 1)) 9))), (n_6, .inl (k 0, 9, .inl (inW f false t))), (n_5, .inl (k 0, 9, .inl (bhG (S 2)))), (n_4, .inl (k 0, 9, .inl (S 4))), (n_3, .inl (k 0, 9, .inl (S 3))), (n_2, .inl (k 0, 9, .inl (S 1))), (n_1, .inl (k 0, 9, .inl (S 2)))] ++ (Xa)) H := va_P.ext hP hD 1 rfl (inW f false t) (fun j hj => fil_at _ _ hj)
                have hD : va_D A ([(n_7, .inl (k 0, 9, .inl (fil (inW f true t) (inW f true (t - 1)) 9))), (n_6, .inl (k 0, 9, .inl (inW f false t))), (n_5, .inl (k 0, 9, .inl (bhG (S 2)))), (n_4, .inl (k 0, 9, .inl (S 4))), (n_3, .inl (k 0, 9, .inl (S 3))), (n_2, .inl (k 0, 9, .inl (S 1))), (n_1, .inl (k 0, 9, .inl (S 2)))] ++ (Xa)) := hD.addr rfl
                have hP : va_P D vwCl ([(n_7, .inl (k 0, 9, .inl (inW f true t))), (n_6, .inl (k 0, 9, .inl (inW f false t))), (n_5, .inl (k 0, 9, .inl (bhG (S 2)))), (n_4, .inl (k 0, 9, .inl (S 4))), (n_3, .inl (k 0, 9, .inl (S 3))), (n_2, .inl (k 0, 9, .inl (S 1))), (n_1, .inl (k 0, 9, .inl (S 2)))] ++ (Xa)) H := va_P.ext hP hD 0 rfl (inW f true t) (fun j hj => fil_at _ _ hj)
                have hD : va_D A ([(n_7, .inl (k 0, 9, .inl (inW f true t))), (n_6, .inl (k 0, 9, .inl (inW f false t))), (n_5, .inl (k 0, 9, .inl (bhG (S 2)))), (n_4, .inl (k 0, 9, .inl (S 4))), (n_3, .inl (k 0, 9, .inl (S 3))), (n_2, .inl (k 0, 9, .inl (S 1))), (n_1, .inl (k 0, 9, .inl (S 2)))] ++ (Xa)) := hD.addr rfl
                refine lv_iload hx hb dL_holds_503 (lv_at hl 9 rfl) ?_
                refine lv_iload hx hb dL_holds_505 (lv_at hl 3 rfl) ?_
                refine lv_if_le (tgt := 514) hx hb dL_holds_507 (by decide) (fun c_263 => ?_) (fun c_263 => ?_)
                · exact absurd c_263 (by decide)
                · refine lv_iconst (v := 1) hx hb dL_holds_510 (by decide) ?_
                  refine lv_goto (tgt := 515) hx hb dL_holds_511 (by decide) ?_
                  refine lv_iadd hx hb dL_holds_515 ?_
                  refine lv_istore (lv' := [(12, .int ((wyF f 0 false (t - 1)) + 1)), (21, .int (nI 9)), (20, .int (bI (apF (bhG (S 2)) (nI t) 9))), (19, .int (lsW (S 4) (nI t) 9)), (18, .int 2), (17, .int (nI t)), (16, .int ((bsF f S (t - 1)).2)), (15, .int ((bsF f S (t - 1)).1)), (14, .int (rwT f (t - 1))), (13, .int (wyF f 0 true (t - 1))), (11, .int 1), (10, .int (dsF (S 4) 9)), (9, .int (dsF (S 0) 9)), (8, .int (dsF (mnS S) 9)), (7, .ref n_7), (6, .ref n_6), (5, .ref n_5), (4, .ref n_4), (3, .ref n_3), (2, .ref n_2), (1, .ref n_1), (0, .ref x0)]) hx hb dL_holds_516 hl (by decide) rfl (fun ls hl => ?_)
                  refine lv_iload hx hb dL_holds_518 (lv_at hl 9 rfl) ?_
                  refine lv_iload hx hb dL_holds_520 (lv_at hl 4 rfl) ?_
                  refine lv_iconst (v := 1) hx hb dL_holds_522 (by decide) ?_
                  refine lv_icmp_le (tgt := 530) hx hb dL_holds_523 (by decide) (fun c_264 => ?_) (fun c_264 => ?_)
                  · exact absurd c_264 (by decide)
                  · refine lv_iconst (v := 1) hx hb dL_holds_526 (by decide) ?_
                    refine lv_goto (tgt := 531) hx hb dL_holds_527 (by decide) ?_
                    refine lv_iadd hx hb dL_holds_531 ?_
                    refine lv_istore (lv' := [(13, .int ((wyF f 0 true (t - 1)) + 1)), (12, .int ((wyF f 0 false (t - 1)) + 1)), (21, .int (nI 9)), (20, .int (bI (apF (bhG (S 2)) (nI t) 9))), (19, .int (lsW (S 4) (nI t) 9)), (18, .int 2), (17, .int (nI t)), (16, .int ((bsF f S (t - 1)).2)), (15, .int ((bsF f S (t - 1)).1)), (14, .int (rwT f (t - 1))), (11, .int 1), (10, .int (dsF (S 4) 9)), (9, .int (dsF (S 0) 9)), (8, .int (dsF (mnS S) 9)), (7, .ref n_7), (6, .ref n_6), (5, .ref n_5), (4, .ref n_4), (3, .ref n_3), (2, .ref n_2), (1, .ref n_1), (0, .ref x0)]) hx hb dL_holds_532 hl (by decide) rfl (fun ls hl => ?_)
                    refine lv_iload hx hb dL_holds_534 (lv_at hl 3 rfl) ?_
                    refine lv_if_eq (tgt := 557) hx hb dL_holds_536 (by decide) (fun c_265 => ?_) (fun c_265 => ?_)
                    · refine lv_iload hx hb dL_holds_557 (lv_at hl 9 rfl) ?_
                      refine lv_istore (lv' := [(14, .int (rwT f (t - 1))), (13, .int ((wyF f 0 true (t - 1)) + 1)), (12, .int ((wyF f 0 false (t - 1)) + 1)), (21, .int (nI 9)), (20, .int (bI (apF (bhG (S 2)) (nI t) 9))), (19, .int (lsW (S 4) (nI t) 9)), (18, .int 2), (17, .int (nI t)), (16, .int ((bsF f S (t - 1)).2)), (15, .int ((bsF f S (t - 1)).1)), (11, .int 1), (10, .int (dsF (S 4) 9)), (9, .int (dsF (S 0) 9)), (8, .int (dsF (mnS S) 9)), (7, .ref n_7), (6, .ref n_6), (5, .ref n_5), (4, .ref n_4), (3, .ref n_3), (2, .ref n_2), (1, .ref n_1), (0, .ref x0)]) hx hb dL_holds_559 hl (by decide) rfl (fun ls hl => ?_)
                      refine lv_iload hx hb dL_holds_561 (lv_at hl 6 rfl) ?_
                      refine lv_iconst (v := 1) hx hb dL_holds_563 (by decide) ?_
                      refine lv_icmp_le (tgt := 604) hx hb dL_holds_564 (by decide) (fun c_266 => ?_) (fun c_266 => ?_)
                      · exact absurd c_266 (by decide)
                      · refine lv_iload hx hb dL_holds_567 (lv_at hl 9 rfl) ?_
                        refine lv_if_eq (tgt := 596) hx hb dL_holds_569 (by decide) (fun c_267 => ?_) (fun c_267 => ?_)
                        · have hbs : bsF f S (t + 1 - 1) = (nI t, lsW (S 4) (nI t) 9) := bs_set (by omega) eo (Or.inl c_267)
                          refine lv_iload hx hb dL_holds_596 (lv_at hl 7 rfl) ?_
                          refine lv_istore (lv' := [(15, .int (nI t)), (14, .int (rwT f (t - 1))), (13, .int ((wyF f 0 true (t - 1)) + 1)), (12, .int ((wyF f 0 false (t - 1)) + 1)), (21, .int (nI 9)), (20, .int (bI (apF (bhG (S 2)) (nI t) 9))), (19, .int (lsW (S 4) (nI t) 9)), (18, .int 2), (17, .int (nI t)), (16, .int ((bsF f S (t - 1)).2)), (11, .int 1), (10, .int (dsF (S 4) 9)), (9, .int (dsF (S 0) 9)), (8, .int (dsF (mnS S) 9)), (7, .ref n_7), (6, .ref n_6), (5, .ref n_5), (4, .ref n_4), (3, .ref n_3), (2, .ref n_2), (1, .ref n_1), (0, .ref x0)]) hx hb dL_holds_598 hl (by decide) rfl (fun ls hl => ?_)
                          refine lv_iload hx hb dL_holds_600 (lv_at hl 6 rfl) ?_
                          refine lv_istore (lv' := [(16, .int (lsW (S 4) (nI t) 9)), (15, .int (nI t)), (14, .int (rwT f (t - 1))), (13, .int ((wyF f 0 true (t - 1)) + 1)), (12, .int ((wyF f 0 false (t - 1)) + 1)), (21, .int (nI 9)), (20, .int (bI (apF (bhG (S 2)) (nI t) 9))), (19, .int (lsW (S 4) (nI t) 9)), (18, .int 2), (17, .int (nI t)), (11, .int 1), (10, .int (dsF (S 4) 9)), (9, .int (dsF (S 0) 9)), (8, .int (dsF (mnS S) 9)), (7, .ref n_7), (6, .ref n_6), (5, .ref n_5), (4, .ref n_4), (3, .ref n_3), (2, .ref n_2), (1, .ref n_1), (0, .ref x0)]) hx hb dL_holds_602 hl (by decide) rfl (fun ls hl => ?_)
                          refine lv_iinc (v := (nI (t + 1))) (lv' := [(17, .int (nI (t + 1))), (16, .int (lsW (S 4) (nI t) 9)), (15, .int (nI t)), (14, .int (rwT f (t - 1))), (13, .int ((wyF f 0 true (t - 1)) + 1)), (12, .int ((wyF f 0 false (t - 1)) + 1)), (21, .int (nI 9)), (20, .int (bI (apF (bhG (S 2)) (nI t) 9))), (19, .int (lsW (S 4) (nI t) 9)), (18, .int 2), (11, .int 1), (10, .int (dsF (S 4) 9)), (9, .int (dsF (S 0) 9)), (8, .int (dsF (mnS S) 9)), (7, .ref n_7), (6, .ref n_6), (5, .ref n_5), (4, .ref n_4), (3, .ref n_3), (2, .ref n_2), (1, .ref n_1), (0, .ref x0)]) hx hb dL_holds_604 hl (k := 9) rfl (nI_1 t) (by decide) rfl (fun ls hl => ?_)
                          refine lv_goto (tgt := 368) hx hb dL_holds_607 (by decide) ?_
                          exact ih_t (t + 1) (inW f false t) (inW f true t) ((wyF f 0 false (t - 1)) + 1) ((wyF f 0 true (t - 1)) + 1) (rwT f (t - 1)) (nI t) (lsW (S 4) (nI t) 9) (by omega) (by omega) (by rw [show t + 1 - 1 = t from by omega]) (by rw [show t + 1 - 1 = t from by omega]) (wy_t f false (by omega) (by rw [if_neg (by decide), ei]; rfl)) (wy_t f true (by omega) (by rw [if_pos rfl, eo]; rfl)) (rw_a hG (by omega) (bI_eq.mp c_265)) (by rw [hbs]) (by rw [hbs]) (by omega) _ _ _ hP hD hS (lv_sub hl [0, 1, 2, 3, 4, 5, 10, 11, 12, 13, 14, 15, 16, 17, 18, 19, 20, 21] rfl)
                        · have hb0 := c_267
                          obtain ⟨b, hb1, hb2, hb3⟩ : ∃ b, 1 ≤ b ∧ b ≤ t - 1 ∧ (bsF f S (t - 1)).1 = nI b := (bs_in f S (t - 1)).resolve_left (fun h9 => hb0 (congrArg Prod.fst h9))
                          have hcl : (nI b).toNatClampNeg = b := nI_clamp (by omega)
                          refine lv_iload hx hb dL_holds_572 (lv_at hl 5 rfl) ?_
                          refine lv_iload hx hb dL_holds_574 (lv_at hl 8 rfl) ?_
                          refine lv_icmp_gt (tgt := 596) hx hb dL_holds_576 (by decide) (fun c_268 => ?_) (fun c_268 => ?_)
                          · have hbs : bsF f S (t + 1 - 1) = (nI t, lsW (S 4) (nI t) 9) := bs_set (by omega) eo (Or.inr (Or.inl c_268))
                            refine lv_iload hx hb dL_holds_596 (lv_at hl 7 rfl) ?_
                            refine lv_istore (lv' := [(15, .int (nI t)), (14, .int (rwT f (t - 1))), (13, .int ((wyF f 0 true (t - 1)) + 1)), (12, .int ((wyF f 0 false (t - 1)) + 1)), (21, .int (nI 9)), (20, .int (bI (apF (bhG (S 2)) (nI t) 9))), (19, .int (lsW (S 4) (nI t) 9)), (18, .int 2), (17, .int (nI t)), (16, .int ((bsF f S (t - 1)).2)), (11, .int 1), (10, .int (dsF (S 4) 9)), (9, .int (dsF (S 0) 9)), (8, .int (dsF (mnS S) 9)), (7, .ref n_7), (6, .ref n_6), (5, .ref n_5), (4, .ref n_4), (3, .ref n_3), (2, .ref n_2), (1, .ref n_1), (0, .ref x0)]) hx hb dL_holds_598 hl (by decide) rfl (fun ls hl => ?_)
                            refine lv_iload hx hb dL_holds_600 (lv_at hl 6 rfl) ?_
                            refine lv_istore (lv' := [(16, .int (lsW (S 4) (nI t) 9)), (15, .int (nI t)), (14, .int (rwT f (t - 1))), (13, .int ((wyF f 0 true (t - 1)) + 1)), (12, .int ((wyF f 0 false (t - 1)) + 1)), (21, .int (nI 9)), (20, .int (bI (apF (bhG (S 2)) (nI t) 9))), (19, .int (lsW (S 4) (nI t) 9)), (18, .int 2), (17, .int (nI t)), (11, .int 1), (10, .int (dsF (S 4) 9)), (9, .int (dsF (S 0) 9)), (8, .int (dsF (mnS S) 9)), (7, .ref n_7), (6, .ref n_6), (5, .ref n_5), (4, .ref n_4), (3, .ref n_3), (2, .ref n_2), (1, .ref n_1), (0, .ref x0)]) hx hb dL_holds_602 hl (by decide) rfl (fun ls hl => ?_)
                            refine lv_iinc (v := (nI (t + 1))) (lv' := [(17, .int (nI (t + 1))), (16, .int (lsW (S 4) (nI t) 9)), (15, .int (nI t)), (14, .int (rwT f (t - 1))), (13, .int ((wyF f 0 true (t - 1)) + 1)), (12, .int ((wyF f 0 false (t - 1)) + 1)), (21, .int (nI 9)), (20, .int (bI (apF (bhG (S 2)) (nI t) 9))), (19, .int (lsW (S 4) (nI t) 9)), (18, .int 2), (11, .int 1), (10, .int (dsF (S 4) 9)), (9, .int (dsF (S 0) 9)), (8, .int (dsF (mnS S) 9)), (7, .ref n_7), (6, .ref n_6), (5, .ref n_5), (4, .ref n_4), (3, .ref n_3), (2, .ref n_2), (1, .ref n_1), (0, .ref x0)]) hx hb dL_holds_604 hl (k := 9) rfl (nI_1 t) (by decide) rfl (fun ls hl => ?_)
                            refine lv_goto (tgt := 368) hx hb dL_holds_607 (by decide) ?_
                            exact ih_t (t + 1) (inW f false t) (inW f true t) ((wyF f 0 false (t - 1)) + 1) ((wyF f 0 true (t - 1)) + 1) (rwT f (t - 1)) (nI t) (lsW (S 4) (nI t) 9) (by omega) (by omega) (by rw [show t + 1 - 1 = t from by omega]) (by rw [show t + 1 - 1 = t from by omega]) (wy_t f false (by omega) (by rw [if_neg (by decide), ei]; rfl)) (wy_t f true (by omega) (by rw [if_pos rfl, eo]; rfl)) (rw_a hG (by omega) (bI_eq.mp c_265)) (by rw [hbs]) (by rw [hbs]) (by omega) _ _ _ hP hD hS (lv_sub hl [0, 1, 2, 3, 4, 5, 10, 11, 12, 13, 14, 15, 16, 17, 18, 19, 20, 21] rfl)
                          · have hw1 := c_268
                            refine lv_iload hx hb dL_holds_579 (lv_at hl 5 rfl) ?_
                            refine lv_iload hx hb dL_holds_581 (lv_at hl 8 rfl) ?_
                            refine lv_icmp_ne (tgt := 604) hx hb dL_holds_583 (by decide) (fun c_269 => ?_) (fun c_269 => ?_)
                            · have hw2 := c_269
                              have hbs : bsF f S (t + 1 - 1) = bsF f S (t - 1) := bs_keep (by omega) eo (fun h9 => h9.elim hb0 (fun h8 => h8.elim hw1 (fun h7 => hw2 h7.1)))
                              refine lv_iinc (v := (nI (t + 1))) (lv' := [(17, .int (nI (t + 1))), (14, .int (rwT f (t - 1))), (13, .int ((wyF f 0 true (t - 1)) + 1)), (12, .int ((wyF f 0 false (t - 1)) + 1)), (21, .int (nI 9)), (20, .int (bI (apF (bhG (S 2)) (nI t) 9))), (19, .int (lsW (S 4) (nI t) 9)), (18, .int 2), (16, .int ((bsF f S (t - 1)).2)), (15, .int ((bsF f S (t - 1)).1)), (11, .int 1), (10, .int (dsF (S 4) 9)), (9, .int (dsF (S 0) 9)), (8, .int (dsF (mnS S) 9)), (7, .ref n_7), (6, .ref n_6), (5, .ref n_5), (4, .ref n_4), (3, .ref n_3), (2, .ref n_2), (1, .ref n_1), (0, .ref x0)]) hx hb dL_holds_604 hl (k := 7) rfl (nI_1 t) (by decide) rfl (fun ls hl => ?_)
                              refine lv_goto (tgt := 368) hx hb dL_holds_607 (by decide) ?_
                              exact ih_t (t + 1) (inW f false t) (inW f true t) ((wyF f 0 false (t - 1)) + 1) ((wyF f 0 true (t - 1)) + 1) (rwT f (t - 1)) ((bsF f S (t - 1)).1) ((bsF f S (t - 1)).2) (by omega) (by omega) (by rw [show t + 1 - 1 = t from by omega]) (by rw [show t + 1 - 1 = t from by omega]) (wy_t f false (by omega) (by rw [if_neg (by decide), ei]; rfl)) (wy_t f true (by omega) (by rw [if_pos rfl, eo]; rfl)) (rw_a hG (by omega) (bI_eq.mp c_265)) (by rw [hbs]) (by rw [hbs]) (by omega) _ _ _ hP hD hS (lv_sub hl [0, 8, 9, 1, 2, 3, 10, 11, 12, 13, 14, 15, 16, 17, 18, 19, 20, 21] rfl)
                            · have hw2 := c_269
                              rw [hb3] at hl
                              have hl : lv_has ls 22 [(14, .int (rwT f (t - 1))), (13, .int ((wyF f 0 true (t - 1)) + 1)), (12, .int ((wyF f 0 false (t - 1)) + 1)), (21, .int (nI 9)), (20, .int (bI (apF (bhG (S 2)) (nI t) 9))), (19, .int (lsW (S 4) (nI t) 9)), (18, .int 2), (17, .int (nI t)), (16, .int ((bsF f S (t - 1)).2)), (15, .int (nI b)), (11, .int 1), (10, .int (dsF (S 4) 9)), (9, .int (dsF (S 0) 9)), (8, .int (dsF (mnS S) 9)), (7, .ref n_7), (6, .ref n_6), (5, .ref n_5), (4, .ref n_4), (3, .ref n_3), (2, .ref n_2), (1, .ref n_1), (0, .ref x0)] := hl
                              refine lv_iload hx hb dL_holds_586 (lv_at hl 7 rfl) ?_
                              refine lv_iload hx hb dL_holds_588 (lv_at hl 9 rfl) ?_
                              have hPc : va_P D vwCl ([]) H := hP.sub [] rfl
                              have hDc : va_D A ([]) := hD.sub [] (by decide +kernel) rfl
                              refine cl_i0 (va_runS (As := [.int (nI t), .int (nI b)]) (rest := []) ⟨hx, hb, hml, hown, hts⟩ (c_L_isAhead l D k t b (by omega) (by omega) (by omega) H.size) (va_cwS 2 hts gL_holds_L_isAhead rfl rfl rfl (by decide +kernel) ⟨Nat.le_of_ble_eq_true rfl, Nat.le_of_ble_eq_true rfl⟩) ⟨pr_blind, pr_at hN hPc hK hDc⟩ rfl rfl hl.1 rfl (lv_room (Nat.le_of_ble_eq_true rfl)) dL_holds_590 ⟨Nat.le_of_ble_eq_true rfl, Nat.le_of_ble_eq_true rfl⟩) hP hD hS hA [] rfl (fun H locs hP hD hS => ?_)
                              clear hPc hDc
                              refine lv_if_eq (tgt := 604) hx hb dL_holds_593 (by decide) (fun c_270 => ?_) (fun c_270 => ?_)
                              · have c_270 := bI_eq.mp c_270
                                have hah : ahB t b = false := c_270
                                have hbs : bsF f S (t + 1 - 1) = bsF f S (t - 1) := bs_keep (by omega) eo (fun h9 => h9.elim hb0 (fun h8 => h8.elim hw1 (fun h7 => by have h6 := h7.2; rw [hb3, hcl, hah] at h6; cases h6)))
                                refine lv_iinc (v := (nI (t + 1))) (lv' := [(17, .int (nI (t + 1))), (14, .int (rwT f (t - 1))), (13, .int ((wyF f 0 true (t - 1)) + 1)), (12, .int ((wyF f 0 false (t - 1)) + 1)), (21, .int (nI 9)), (20, .int (bI (apF (bhG (S 2)) (nI t) 9))), (19, .int (lsW (S 4) (nI t) 9)), (18, .int 2), (16, .int ((bsF f S (t - 1)).2)), (15, .int (nI b)), (11, .int 1), (10, .int (dsF (S 4) 9)), (9, .int (dsF (S 0) 9)), (8, .int (dsF (mnS S) 9)), (7, .ref n_7), (6, .ref n_6), (5, .ref n_5), (4, .ref n_4), (3, .ref n_3), (2, .ref n_2), (1, .ref n_1), (0, .ref x0)]) hx hb dL_holds_604 hl (k := 7) rfl (nI_1 t) (by decide) rfl (fun ls hl => ?_)
                                refine lv_goto (tgt := 368) hx hb dL_holds_607 (by decide) ?_
                                exact ih_t (t + 1) (inW f false t) (inW f true t) ((wyF f 0 false (t - 1)) + 1) ((wyF f 0 true (t - 1)) + 1) (rwT f (t - 1)) (nI b) ((bsF f S (t - 1)).2) (by omega) (by omega) (by rw [show t + 1 - 1 = t from by omega]) (by rw [show t + 1 - 1 = t from by omega]) (wy_t f false (by omega) (by rw [if_neg (by decide), ei]; rfl)) (wy_t f true (by omega) (by rw [if_pos rfl, eo]; rfl)) (rw_a hG (by omega) (bI_eq.mp c_265)) (by rw [hbs, hb3]) (by rw [hbs]) (by omega) _ _ _ hP hD hS (lv_sub hl [0, 8, 9, 1, 2, 3, 10, 11, 12, 13, 14, 15, 16, 17, 18, 19, 20, 21] rfl)
                              · have c_270 := bI_ne.mp c_270
                                have hah : ahB t b = true := c_270
                                have hbs : bsF f S (t + 1 - 1) = (nI t, lsW (S 4) (nI t) 9) := bs_set (by omega) eo (Or.inr (Or.inr ⟨hw2, by rw [hb3, hcl]; exact hah⟩))
                                refine lv_iload hx hb dL_holds_596 (lv_at hl 7 rfl) ?_
                                refine lv_istore (lv' := [(15, .int (nI t)), (14, .int (rwT f (t - 1))), (13, .int ((wyF f 0 true (t - 1)) + 1)), (12, .int ((wyF f 0 false (t - 1)) + 1)), (21, .int (nI 9)), (20, .int (bI (apF (bhG (S 2)) (nI t) 9))), (19, .int (lsW (S 4) (nI t) 9)), (18, .int 2), (17, .int (nI t)), (16, .int ((bsF f S (t - 1)).2)), (11, .int 1), (10, .int (dsF (S 4) 9)), (9, .int (dsF (S 0) 9)), (8, .int (dsF (mnS S) 9)), (7, .ref n_7), (6, .ref n_6), (5, .ref n_5), (4, .ref n_4), (3, .ref n_3), (2, .ref n_2), (1, .ref n_1), (0, .ref x0)]) hx hb dL_holds_598 hl (by decide) rfl (fun ls hl => ?_)
                                refine lv_iload hx hb dL_holds_600 (lv_at hl 6 rfl) ?_
                                refine lv_istore (lv' := [(16, .int (lsW (S 4) (nI t) 9)), (15, .int (nI t)), (14, .int (rwT f (t - 1))), (13, .int ((wyF f 0 true (t - 1)) + 1)), (12, .int ((wyF f 0 false (t - 1)) + 1)), (21, .int (nI 9)), (20, .int (bI (apF (bhG (S 2)) (nI t) 9))), (19, .int (lsW (S 4) (nI t) 9)), (18, .int 2), (17, .int (nI t)), (11, .int 1), (10, .int (dsF (S 4) 9)), (9, .int (dsF (S 0) 9)), (8, .int (dsF (mnS S) 9)), (7, .ref n_7), (6, .ref n_6), (5, .ref n_5), (4, .ref n_4), (3, .ref n_3), (2, .ref n_2), (1, .ref n_1), (0, .ref x0)]) hx hb dL_holds_602 hl (by decide) rfl (fun ls hl => ?_)
                                refine lv_iinc (v := (nI (t + 1))) (lv' := [(17, .int (nI (t + 1))), (16, .int (lsW (S 4) (nI t) 9)), (15, .int (nI t)), (14, .int (rwT f (t - 1))), (13, .int ((wyF f 0 true (t - 1)) + 1)), (12, .int ((wyF f 0 false (t - 1)) + 1)), (21, .int (nI 9)), (20, .int (bI (apF (bhG (S 2)) (nI t) 9))), (19, .int (lsW (S 4) (nI t) 9)), (18, .int 2), (11, .int 1), (10, .int (dsF (S 4) 9)), (9, .int (dsF (S 0) 9)), (8, .int (dsF (mnS S) 9)), (7, .ref n_7), (6, .ref n_6), (5, .ref n_5), (4, .ref n_4), (3, .ref n_3), (2, .ref n_2), (1, .ref n_1), (0, .ref x0)]) hx hb dL_holds_604 hl (k := 9) rfl (nI_1 t) (by decide) rfl (fun ls hl => ?_)
                                refine lv_goto (tgt := 368) hx hb dL_holds_607 (by decide) ?_
                                exact ih_t (t + 1) (inW f false t) (inW f true t) ((wyF f 0 false (t - 1)) + 1) ((wyF f 0 true (t - 1)) + 1) (rwT f (t - 1)) (nI t) (lsW (S 4) (nI t) 9) (by omega) (by omega) (by rw [show t + 1 - 1 = t from by omega]) (by rw [show t + 1 - 1 = t from by omega]) (wy_t f false (by omega) (by rw [if_neg (by decide), ei]; rfl)) (wy_t f true (by omega) (by rw [if_pos rfl, eo]; rfl)) (rw_a hG (by omega) (bI_eq.mp c_265)) (by rw [hbs]) (by rw [hbs]) (by omega) _ _ _ hP hD hS (lv_sub hl [0, 1, 2, 3, 4, 5, 10, 11, 12, 13, 14, 15, 16, 17, 18, 19, 20, 21] rfl)
                    · refine lv_iload hx hb dL_holds_539 (lv_at hl 6 rfl) ?_
                      have hPc : va_P D vwCl ([]) H := hP.sub [] rfl
                      have hDc : va_D A ([]) := hD.sub [] (by decide +kernel) rfl
                      refine cl_i0 (va_runS (As := [.int (nI t)]) (rest := []) ⟨hx, hb, hml, hown, hts⟩ (c_L_bits l D k (nI t) H.size) (va_cwS 1 hts gL_holds_L_bits rfl rfl rfl (by decide +kernel) ⟨Nat.le_of_ble_eq_true rfl, Nat.le_of_ble_eq_true rfl⟩) ⟨pr_blind, pr_at hN hPc hK hDc⟩ rfl rfl hl.1 rfl (lv_room (Nat.le_of_ble_eq_true rfl)) dL_holds_541 ⟨Nat.le_of_ble_eq_true rfl, Nat.le_of_ble_eq_true rfl⟩) hP hD hS hA [] rfl (fun H locs hP hD hS => ?_)
                      clear hPc hDc
                      refine lv_iload hx hb dL_holds_544 (lv_at hl 9 rfl) ?_
                      refine lv_icmp_le (tgt := 557) hx hb dL_holds_546 (by decide) (fun c_271 => ?_) (fun c_271 => ?_)
                      · refine lv_iload hx hb dL_holds_557 (lv_at hl 9 rfl) ?_
                        refine lv_istore (lv' := [(14, .int (rwT f (t - 1))), (13, .int ((wyF f 0 true (t - 1)) + 1)), (12, .int ((wyF f 0 false (t - 1)) + 1)), (21, .int (nI 9)), (20, .int (bI (apF (bhG (S 2)) (nI t) 9))), (19, .int (lsW (S 4) (nI t) 9)), (18, .int 2), (17, .int (nI t)), (16, .int ((bsF f S (t - 1)).2)), (15, .int ((bsF f S (t - 1)).1)), (11, .int 1), (10, .int (dsF (S 4) 9)), (9, .int (dsF (S 0) 9)), (8, .int (dsF (mnS S) 9)), (7, .ref n_7), (6, .ref n_6), (5, .ref n_5), (4, .ref n_4), (3, .ref n_3), (2, .ref n_2), (1, .ref n_1), (0, .ref x0)]) hx hb dL_holds_559 hl (by decide) rfl (fun ls hl => ?_)
                        refine lv_iload hx hb dL_holds_561 (lv_at hl 6 rfl) ?_
                        refine lv_iconst (v := 1) hx hb dL_holds_563 (by decide) ?_
                        refine lv_icmp_le (tgt := 604) hx hb dL_holds_564 (by decide) (fun c_272 => ?_) (fun c_272 => ?_)
                        · exact absurd c_272 (by decide)
                        · refine lv_iload hx hb dL_holds_567 (lv_at hl 9 rfl) ?_
                          refine lv_if_eq (tgt := 596) hx hb dL_holds_569 (by decide) (fun c_273 => ?_) (fun c_273 => ?_)
                          · have hbs : bsF f S (t + 1 - 1) = (nI t, lsW (S 4) (nI t) 9) := bs_set (by omega) eo (Or.inl c_273)
                            refine lv_iload hx hb dL_holds_596 (lv_at hl 7 rfl) ?_
                            refine lv_istore (lv' := [(15, .int (nI t)), (14, .int (rwT f (t - 1))), (13, .int ((wyF f 0 true (t - 1)) + 1)), (12, .int ((wyF f 0 false (t - 1)) + 1)), (21, .int (nI 9)), (20, .int (bI (apF (bhG (S 2)) (nI t) 9))), (19, .int (lsW (S 4) (nI t) 9)), (18, .int 2), (17, .int (nI t)), (16, .int ((bsF f S (t - 1)).2)), (11, .int 1), (10, .int (dsF (S 4) 9)), (9, .int (dsF (S 0) 9)), (8, .int (dsF (mnS S) 9)), (7, .ref n_7), (6, .ref n_6), (5, .ref n_5), (4, .ref n_4), (3, .ref n_3), (2, .ref n_2), (1, .ref n_1), (0, .ref x0)]) hx hb dL_holds_598 hl (by decide) rfl (fun ls hl => ?_)
                            refine lv_iload hx hb dL_holds_600 (lv_at hl 6 rfl) ?_
                            refine lv_istore (lv' := [(16, .int (lsW (S 4) (nI t) 9)), (15, .int (nI t)), (14, .int (rwT f (t - 1))), (13, .int ((wyF f 0 true (t - 1)) + 1)), (12, .int ((wyF f 0 false (t - 1)) + 1)), (21, .int (nI 9)), (20, .int (bI (apF (bhG (S 2)) (nI t) 9))), (19, .int (lsW (S 4) (nI t) 9)), (18, .int 2), (17, .int (nI t)), (11, .int 1), (10, .int (dsF (S 4) 9)), (9, .int (dsF (S 0) 9)), (8, .int (dsF (mnS S) 9)), (7, .ref n_7), (6, .ref n_6), (5, .ref n_5), (4, .ref n_4), (3, .ref n_3), (2, .ref n_2), (1, .ref n_1), (0, .ref x0)]) hx hb dL_holds_602 hl (by decide) rfl (fun ls hl => ?_)
                            refine lv_iinc (v := (nI (t + 1))) (lv' := [(17, .int (nI (t + 1))), (16, .int (lsW (S 4) (nI t) 9)), (15, .int (nI t)), (14, .int (rwT f (t - 1))), (13, .int ((wyF f 0 true (t - 1)) + 1)), (12, .int ((wyF f 0 false (t - 1)) + 1)), (21, .int (nI 9)), (20, .int (bI (apF (bhG (S 2)) (nI t) 9))), (19, .int (lsW (S 4) (nI t) 9)), (18, .int 2), (11, .int 1), (10, .int (dsF (S 4) 9)), (9, .int (dsF (S 0) 9)), (8, .int (dsF (mnS S) 9)), (7, .ref n_7), (6, .ref n_6), (5, .ref n_5), (4, .ref n_4), (3, .ref n_3), (2, .ref n_2), (1, .ref n_1), (0, .ref x0)]) hx hb dL_holds_604 hl (k := 9) rfl (nI_1 t) (by decide) rfl (fun ls hl => ?_)
                            refine lv_goto (tgt := 368) hx hb dL_holds_607 (by decide) ?_
                            exact ih_t (t + 1) (inW f false t) (inW f true t) ((wyF f 0 false (t - 1)) + 1) ((wyF f 0 true (t - 1)) + 1) (rwT f (t - 1)) (nI t) (lsW (S 4) (nI t) 9) (by omega) (by omega) (by rw [show t + 1 - 1 = t from by omega]) (by rw [show t + 1 - 1 = t from by omega]) (wy_t f false (by omega) (by rw [if_neg (by decide), ei]; rfl)) (wy_t f true (by omega) (by rw [if_pos rfl, eo]; rfl)) (rw_b hG (by omega) (bI_ne.mp c_265) c_271) (by rw [hbs]) (by rw [hbs]) (by omega) _ _ _ hP hD hS (lv_sub hl [0, 1, 2, 3, 4, 5, 10, 11, 12, 13, 14, 15, 16, 17, 18, 19, 20, 21] rfl)
                          · have hb0 := c_273
                            obtain ⟨b, hb1, hb2, hb3⟩ : ∃ b, 1 ≤ b ∧ b ≤ t - 1 ∧ (bsF f S (t - 1)).1 = nI b := (bs_in f S (t - 1)).resolve_left (fun h9 => hb0 (congrArg Prod.fst h9))
                            have hcl : (nI b).toNatClampNeg = b := nI_clamp (by omega)
                            refine lv_iload hx hb dL_holds_572 (lv_at hl 5 rfl) ?_
                            refine lv_iload hx hb dL_holds_574 (lv_at hl 8 rfl) ?_
                            refine lv_icmp_gt (tgt := 596) hx hb dL_holds_576 (by decide) (fun c_274 => ?_) (fun c_274 => ?_)
                            · have hbs : bsF f S (t + 1 - 1) = (nI t, lsW (S 4) (nI t) 9) := bs_set (by omega) eo (Or.inr (Or.inl c_274))
                              refine lv_iload hx hb dL_holds_596 (lv_at hl 7 rfl) ?_
                              refine lv_istore (lv' := [(15, .int (nI t)), (14, .int (rwT f (t - 1))), (13, .int ((wyF f 0 true (t - 1)) + 1)), (12, .int ((wyF f 0 false (t - 1)) + 1)), (21, .int (nI 9)), (20, .int (bI (apF (bhG (S 2)) (nI t) 9))), (19, .int (lsW (S 4) (nI t) 9)), (18, .int 2), (17, .int (nI t)), (16, .int ((bsF f S (t - 1)).2)), (11, .int 1), (10, .int (dsF (S 4) 9)), (9, .int (dsF (S 0) 9)), (8, .int (dsF (mnS S) 9)), (7, .ref n_7), (6, .ref n_6), (5, .ref n_5), (4, .ref n_4), (3, .ref n_3), (2, .ref n_2), (1, .ref n_1), (0, .ref x0)]) hx hb dL_holds_598 hl (by decide) rfl (fun ls hl => ?_)
                              refine lv_iload hx hb dL_holds_600 (lv_at hl 6 rfl) ?_
                              refine lv_istore (lv' := [(16, .int (lsW (S 4) (nI t) 9)), (15, .int (nI t)), (14, .int (rwT f (t - 1))), (13, .int ((wyF f 0 true (t - 1)) + 1)), (12, .int ((wyF f 0 false (t - 1)) + 1)), (21, .int (nI 9)), (20, .int (bI (apF (bhG (S 2)) (nI t) 9))), (19, .int (lsW (S 4) (nI t) 9)), (18, .int 2), (17, .int (nI t)), (11, .int 1), (10, .int (dsF (S 4) 9)), (9, .int (dsF (S 0) 9)), (8, .int (dsF (mnS S) 9)), (7, .ref n_7), (6, .ref n_6), (5, .ref n_5), (4, .ref n_4), (3, .ref n_3), (2, .ref n_2), (1, .ref n_1), (0, .ref x0)]) hx hb dL_holds_602 hl (by decide) rfl (fun ls hl => ?_)
                              refine lv_iinc (v := (nI (t + 1))) (lv' := [(17, .int (nI (t + 1))), (16, .int (lsW (S 4) (nI t) 9)), (15, .int (nI t)), (14, .int (rwT f (t - 1))), (13, .int ((wyF f 0 true (t - 1)) + 1)), (12, .int ((wyF f 0 false (t - 1)) + 1)), (21, .int (nI 9)), (20, .int (bI (apF (bhG (S 2)) (nI t) 9))), (19, .int (lsW (S 4) (nI t) 9)), (18, .int 2), (11, .int 1), (10, .int (dsF (S 4) 9)), (9, .int (dsF (S 0) 9)), (8, .int (dsF (mnS S) 9)), (7, .ref n_7), (6, .ref n_6), (5, .ref n_5), (4, .ref n_4), (3, .ref n_3), (2, .ref n_2), (1, .ref n_1), (0, .ref x0)]) hx hb dL_holds_604 hl (k := 9) rfl (nI_1 t) (by decide) rfl (fun ls hl => ?_)
                              refine lv_goto (tgt := 368) hx hb dL_holds_607 (by decide) ?_
                              exact ih_t (t + 1) (inW f false t) (inW f true t) ((wyF f 0 false (t - 1)) + 1) ((wyF f 0 true (t - 1)) + 1) (rwT f (t - 1)) (nI t) (lsW (S 4) (nI t) 9) (by omega) (by omega) (by rw [show t + 1 - 1 = t from by omega]) (by rw [show t + 1 - 1 = t from by omega]) (wy_t f false (by omega) (by rw [if_neg (by decide), ei]; rfl)) (wy_t f true (by omega) (by rw [if_pos rfl, eo]; rfl)) (rw_b hG (by omega) (bI_ne.mp c_265) c_271) (by rw [hbs]) (by rw [hbs]) (by omega) _ _ _ hP hD hS (lv_sub hl [0, 1, 2, 3, 4, 5, 10, 11, 12, 13, 14, 15, 16, 17, 18, 19, 20, 21] rfl)
                            · have hw1 := c_274
                              refine lv_iload hx hb dL_holds_579 (lv_at hl 5 rfl) ?_
                              refine lv_iload hx hb dL_holds_581 (lv_at hl 8 rfl) ?_
                              refine lv_icmp_ne (tgt := 604) hx hb dL_holds_583 (by decide) (fun c_275 => ?_) (fun c_275 => ?_)
                              · have hw2 := c_275
                                have hbs : bsF f S (t + 1 - 1) = bsF f S (t - 1) := bs_keep (by omega) eo (fun h9 => h9.elim hb0 (fun h8 => h8.elim hw1 (fun h7 => hw2 h7.1)))
                                refine lv_iinc (v := (nI (t + 1))) (lv' := [(17, .int (nI (t + 1))), (14, .int (rwT f (t - 1))), (13, .int ((wyF f 0 true (t - 1)) + 1)), (12, .int ((wyF f 0 false (t - 1)) + 1)), (21, .int (nI 9)), (20, .int (bI (apF (bhG (S 2)) (nI t) 9))), (19, .int (lsW (S 4) (nI t) 9)), (18, .int 2), (16, .int ((bsF f S (t - 1)).2)), (15, .int ((bsF f S (t - 1)).1)), (11, .int 1), (10, .int (dsF (S 4) 9)), (9, .int (dsF (S 0) 9)), (8, .int (dsF (mnS S) 9)), (7, .ref n_7), (6, .ref n_6), (5, .ref n_5), (4, .ref n_4), (3, .ref n_3), (2, .ref n_2), (1, .ref n_1), (0, .ref x0)]) hx hb dL_holds_604 hl (k := 7) rfl (nI_1 t) (by decide) rfl (fun ls hl => ?_)
                                refine lv_goto (tgt := 368) hx hb dL_holds_607 (by decide) ?_
                                exact ih_t (t + 1) (inW f false t) (inW f true t) ((wyF f 0 false (t - 1)) + 1) ((wyF f 0 true (t - 1)) + 1) (rwT f (t - 1)) ((bsF f S (t - 1)).1) ((bsF f S (t - 1)).2) (by omega) (by omega) (by rw [show t + 1 - 1 = t from by omega]) (by rw [show t + 1 - 1 = t from by omega]) (wy_t f false (by omega) (by rw [if_neg (by decide), ei]; rfl)) (wy_t f true (by omega) (by rw [if_pos rfl, eo]; rfl)) (rw_b hG (by omega) (bI_ne.mp c_265) c_271) (by rw [hbs]) (by rw [hbs]) (by omega) _ _ _ hP hD hS (lv_sub hl [0, 8, 9, 1, 2, 3, 10, 11, 12, 13, 14, 15, 16, 17, 18, 19, 20, 21] rfl)
                              · have hw2 := c_275
                                rw [hb3] at hl
                                have hl : lv_has ls 22 [(14, .int (rwT f (t - 1))), (13, .int ((wyF f 0 true (t - 1)) + 1)), (12, .int ((wyF f 0 false (t - 1)) + 1)), (21, .int (nI 9)), (20, .int (bI (apF (bhG (S 2)) (nI t) 9))), (19, .int (lsW (S 4) (nI t) 9)), (18, .int 2), (17, .int (nI t)), (16, .int ((bsF f S (t - 1)).2)), (15, .int (nI b)), (11, .int 1), (10, .int (dsF (S 4) 9)), (9, .int (dsF (S 0) 9)), (8, .int (dsF (mnS S) 9)), (7, .ref n_7), (6, .ref n_6), (5, .ref n_5), (4, .ref n_4), (3, .ref n_3), (2, .ref n_2), (1, .ref n_1), (0, .ref x0)] := hl
                                refine lv_iload hx hb dL_holds_586 (lv_at hl 7 rfl) ?_
                                refine lv_iload hx hb dL_holds_588 (lv_at hl 9 rfl) ?_
                                have hPc : va_P D vwCl ([]) H := hP.sub [] rfl
                                have hDc : va_D A ([]) := hD.sub [] (by decide +kernel) rfl
                                refine cl_i0 (va_runS (As := [.int (nI t), .int (nI b)]) (rest := []) ⟨hx, hb, hml, hown, hts⟩ (c_L_isAhead l D k t b (by omega) (by omega) (by omega) H.size) (va_cwS 2 hts gL_holds_L_isAhead rfl rfl rfl (by decide +kernel) ⟨Nat.le_of_ble_eq_true rfl, Nat.le_of_ble_eq_true rfl⟩) ⟨pr_blind, pr_at hN hPc hK hDc⟩ rfl rfl hl.1 rfl (lv_room (Nat.le_of_ble_eq_true rfl)) dL_holds_590 ⟨Nat.le_of_ble_eq_true rfl, Nat.le_of_ble_eq_true rfl⟩) hP hD hS hA [] rfl (fun H locs hP hD hS => ?_)
                                clear hPc hDc
                                refine lv_if_eq (tgt := 604) hx hb dL_holds_593 (by decide) (fun c_276 => ?_) (fun c_276 => ?_)
                                · have c_276 := bI_eq.mp c_276
                                  have hah : ahB t b = false := c_276
                                  have hbs : bsF f S (t + 1 - 1) = bsF f S (t - 1) := bs_keep (by omega) eo (fun h9 => h9.elim hb0 (fun h8 => h8.elim hw1 (fun h7 => by have h6 := h7.2; rw [hb3, hcl, hah] at h6; cases h6)))
                                  refine lv_iinc (v := (nI (t + 1))) (lv' := [(17, .int (nI (t + 1))), (14, .int (rwT f (t - 1))), (13, .int ((wyF f 0 true (t - 1)) + 1)), (12, .int ((wyF f 0 false (t - 1)) + 1)), (21, .int (nI 9)), (20, .int (bI (apF (bhG (S 2)) (nI t) 9))), (19, .int (lsW (S 4) (nI t) 9)), (18, .int 2), (16, .int ((bsF f S (t - 1)).2)), (15, .int (nI b)), (11, .int 1), (10, .int (dsF (S 4) 9)), (9, .int (dsF (S 0) 9)), (8, .int (dsF (mnS S) 9)), (7, .ref n_7), (6, .ref n_6), (5, .ref n_5), (4, .ref n_4), (3, .ref n_3), (2, .ref n_2), (1, .ref n_1), (0, .ref x0)]) hx hb dL_holds_604 hl (k := 7) rfl (nI_1 t) (by decide) rfl (fun ls hl => ?_)
                                  refine lv_goto (tgt := 368) hx hb dL_holds_607 (by decide) ?_
                                  exact ih_t (t + 1) (inW f false t) (inW f true t) ((wyF f 0 false (t - 1)) + 1) ((wyF f 0 true (t - 1)) + 1) (rwT f (t - 1)) (nI b) ((bsF f S (t - 1)).2) (by omega) (by omega) (by rw [show t + 1 - 1 = t from by omega]) (by rw [show t + 1 - 1 = t from by omega]) (wy_t f false (by omega) (by rw [if_neg (by decide), ei]; rfl)) (wy_t f true (by omega) (by rw [if_pos rfl, eo]; rfl)) (rw_b hG (by omega) (bI_ne.mp c_265) c_271) (by rw [hbs, hb3]) (by rw [hbs]) (by omega) _ _ _ hP hD hS (lv_sub hl [0, 8, 9, 1, 2, 3, 10, 11, 12, 13, 14, 15, 16, 17, 18, 19, 20, 21] rfl)
                                · have c_276 := bI_ne.mp c_276
                                  have hah : ahB t b = true := c_276
                                  have hbs : bsF f S (t + 1 - 1) = (nI t, lsW (S 4) (nI t) 9) := bs_set (by omega) eo (Or.inr (Or.inr ⟨hw2, by rw [hb3, hcl]; exact hah⟩))
                                  refine lv_iload hx hb dL_holds_596 (lv_at hl 7 rfl) ?_
                                  refine lv_istore (lv' := [(15, .int (nI t)), (14, .int (rwT f (t - 1))), (13, .int ((wyF f 0 true (t - 1)) + 1)), (12, .int ((wyF f 0 false (t - 1)) + 1)), (21, .int (nI 9)), (20, .int (bI (apF (bhG (S 2)) (nI t) 9))), (19, .int (lsW (S 4) (nI t) 9)), (18, .int 2), (17, .int (nI t)), (16, .int ((bsF f S (t - 1)).2)), (11, .int 1), (10, .int (dsF (S 4) 9)), (9, .int (dsF (S 0) 9)), (8, .int (dsF (mnS S) 9)), (7, .ref n_7), (6, .ref n_6), (5, .ref n_5), (4, .ref n_4), (3, .ref n_3), (2, .ref n_2), (1, .ref n_1), (0, .ref x0)]) hx hb dL_holds_598 hl (by decide) rfl (fun ls hl => ?_)
                                  refine lv_iload hx hb dL_holds_600 (lv_at hl 6 rfl) ?_
                                  refine lv_istore (lv' := [(16, .int (lsW (S 4) (nI t) 9)), (15, .int (nI t)), (14, .int (rwT f (t - 1))), (13, .int ((wyF f 0 true (t - 1)) + 1)), (12, .int ((wyF f 0 false (t - 1)) + 1)), (21, .int (nI 9)), (20, .int (bI (apF (bhG (S 2)) (nI t) 9))), (19, .int (lsW (S 4) (nI t) 9)), (18, .int 2), (17, .int (nI t)), (11, .int 1), (10, .int (dsF (S 4) 9)), (9, .int (dsF (S 0) 9)), (8, .int (dsF (mnS S) 9)), (7, .ref n_7), (6, .ref n_6), (5, .ref n_5), (4, .ref n_4), (3, .ref n_3), (2, .ref n_2), (1, .ref n_1), (0, .ref x0)]) hx hb dL_holds_602 hl (by decide) rfl (fun ls hl => ?_)
                                  refine lv_iinc (v := (nI (t + 1))) (lv' := [(17, .int (nI (t + 1))), (16, .int (lsW (S 4) (nI t) 9)), (15, .int (nI t)), (14, .int (rwT f (t - 1))), (13, .int ((wyF f 0 true (t - 1)) + 1)), (12, .int ((wyF f 0 false (t - 1)) + 1)), (21, .int (nI 9)), (20, .int (bI (apF (bhG (S 2)) (nI t) 9))), (19, .int (lsW (S 4) (nI t) 9)), (18, .int 2), (11, .int 1), (10, .int (dsF (S 4) 9)), (9, .int (dsF (S 0) 9)), (8, .int (dsF (mnS S) 9)), (7, .ref n_7), (6, .ref n_6), (5, .ref n_5), (4, .ref n_4), (3, .ref n_3), (2, .ref n_2), (1, .ref n_1), (0, .ref x0)]) hx hb dL_holds_604 hl (k := 9) rfl (nI_1 t) (by decide) rfl (fun ls hl => ?_)
                                  refine lv_goto (tgt := 368) hx hb dL_holds_607 (by decide) ?_
                                  exact ih_t (t + 1) (inW f false t) (inW f true t) ((wyF f 0 false (t - 1)) + 1) ((wyF f 0 true (t - 1)) + 1) (rwT f (t - 1)) (nI t) (lsW (S 4) (nI t) 9) (by omega) (by omega) (by rw [show t + 1 - 1 = t from by omega]) (by rw [show t + 1 - 1 = t from by omega]) (wy_t f false (by omega) (by rw [if_neg (by decide), ei]; rfl)) (wy_t f true (by omega) (by rw [if_pos rfl, eo]; rfl)) (rw_b hG (by omega) (bI_ne.mp c_265) c_271) (by rw [hbs]) (by rw [hbs]) (by omega) _ _ _ hP hD hS (lv_sub hl [0, 1, 2, 3, 4, 5, 10, 11, 12, 13, 14, 15, 16, 17, 18, 19, 20, 21] rfl)
                      · refine lv_iload hx hb dL_holds_549 (lv_at hl 6 rfl) ?_
                        have hPc : va_P D vwCl ([]) H := hP.sub [] rfl
                        have hDc : va_D A ([]) := hD.sub [] (by decide +kernel) rfl
                        refine cl_i0 (va_runS (As := [.int (nI t)]) (rest := []) ⟨hx, hb, hml, hown, hts⟩ (c_L_bits l D k (nI t) H.size) (va_cwS 1 hts gL_holds_L_bits rfl rfl rfl (by decide +kernel) ⟨Nat.le_of_ble_eq_true rfl, Nat.le_of_ble_eq_true rfl⟩) ⟨pr_blind, pr_at hN hPc hK hDc⟩ rfl rfl hl.1 rfl (lv_room (Nat.le_of_ble_eq_true rfl)) dL_holds_551 ⟨Nat.le_of_ble_eq_true rfl, Nat.le_of_ble_eq_true rfl⟩) hP hD hS hA [] rfl (fun H locs hP hD hS => ?_)
                        clear hPc hDc
                        refine lv_goto (tgt := 559) hx hb dL_holds_554 (by decide) ?_
                        refine lv_istore (lv' := [(14, .int (mnF (nI t) 9)), (13, .int ((wyF f 0 true (t - 1)) + 1)), (12, .int ((wyF f 0 false (t - 1)) + 1)), (21, .int (nI 9)), (20, .int (bI (apF (bhG (S 2)) (nI t) 9))), (19, .int (lsW (S 4) (nI t) 9)), (18, .int 2), (17, .int (nI t)), (16, .int ((bsF f S (t - 1)).2)), (15, .int ((bsF f S (t - 1)).1)), (11, .int 1), (10, .int (dsF (S 4) 9)), (9, .int (dsF (S 0) 9)), (8, .int (dsF (mnS S) 9)), (7, .ref n_7), (6, .ref n_6), (5, .ref n_5), (4, .ref n_4), (3, .ref n_3), (2, .ref n_2), (1, .ref n_1), (0, .ref x0)]) hx hb dL_holds_559 hl (by decide) rfl (fun ls hl => ?_)
                        refine lv_iload hx hb dL_holds_561 (lv_at hl 6 rfl) ?_
                        refine lv_iconst (v := 1) hx hb dL_holds_563 (by decide) ?_
                        refine lv_icmp_le (tgt := 604) hx hb dL_holds_564 (by decide) (fun c_277 => ?_) (fun c_277 => ?_)
                        · exact absurd c_277 (by decide)
                        · refine lv_iload hx hb dL_holds_567 (lv_at hl 9 rfl) ?_
                          refine lv_if_eq (tgt := 596) hx hb dL_holds_569 (by decide) (fun c_278 => ?_) (fun c_278 => ?_)
                          · have hbs : bsF f S (t + 1 - 1) = (nI t, lsW (S 4) (nI t) 9) := bs_set (by omega) eo (Or.inl c_278)
                            refine lv_iload hx hb dL_holds_596 (lv_at hl 7 rfl) ?_
                            refine lv_istore (lv' := [(15, .int (nI t)), (14, .int (mnF (nI t) 9)), (13, .int ((wyF f 0 true (t - 1)) + 1)), (12, .int ((wyF f 0 false (t - 1)) + 1)), (21, .int (nI 9)), (20, .int (bI (apF (bhG (S 2)) (nI t) 9))), (19, .int (lsW (S 4) (nI t) 9)), (18, .int 2), (17, .int (nI t)), (16, .int ((bsF f S (t - 1)).2)), (11, .int 1), (10, .int (dsF (S 4) 9)), (9, .int (dsF (S 0) 9)), (8, .int (dsF (mnS S) 9)), (7, .ref n_7), (6, .ref n_6), (5, .ref n_5), (4, .ref n_4), (3, .ref n_3), (2, .ref n_2), (1, .ref n_1), (0, .ref x0)]) hx hb dL_holds_598 hl (by decide) rfl (fun ls hl => ?_)
                            refine lv_iload hx hb dL_holds_600 (lv_at hl 6 rfl) ?_
                            refine lv_istore (lv' := [(16, .int (lsW (S 4) (nI t) 9)), (15, .int (nI t)), (14, .int (mnF (nI t) 9)), (13, .int ((wyF f 0 true (t - 1)) + 1)), (12, .int ((wyF f 0 false (t - 1)) + 1)), (21, .int (nI 9)), (20, .int (bI (apF (bhG (S 2)) (nI t) 9))), (19, .int (lsW (S 4) (nI t) 9)), (18, .int 2), (17, .int (nI t)), (11, .int 1), (10, .int (dsF (S 4) 9)), (9, .int (dsF (S 0) 9)), (8, .int (dsF (mnS S) 9)), (7, .ref n_7), (6, .ref n_6), (5, .ref n_5), (4, .ref n_4), (3, .ref n_3), (2, .ref n_2), (1, .ref n_1), (0, .ref x0)]) hx hb dL_holds_602 hl (by decide) rfl (fun ls hl => ?_)
                            refine lv_iinc (v := (nI (t + 1))) (lv' := [(17, .int (nI (t + 1))), (16, .int (lsW (S 4) (nI t) 9)), (15, .int (nI t)), (14, .int (mnF (nI t) 9)), (13, .int ((wyF f 0 true (t - 1)) + 1)), (12, .int ((wyF f 0 false (t - 1)) + 1)), (21, .int (nI 9)), (20, .int (bI (apF (bhG (S 2)) (nI t) 9))), (19, .int (lsW (S 4) (nI t) 9)), (18, .int 2), (11, .int 1), (10, .int (dsF (S 4) 9)), (9, .int (dsF (S 0) 9)), (8, .int (dsF (mnS S) 9)), (7, .ref n_7), (6, .ref n_6), (5, .ref n_5), (4, .ref n_4), (3, .ref n_3), (2, .ref n_2), (1, .ref n_1), (0, .ref x0)]) hx hb dL_holds_604 hl (k := 9) rfl (nI_1 t) (by decide) rfl (fun ls hl => ?_)
                            refine lv_goto (tgt := 368) hx hb dL_holds_607 (by decide) ?_
                            exact ih_t (t + 1) (inW f false t) (inW f true t) ((wyF f 0 false (t - 1)) + 1) ((wyF f 0 true (t - 1)) + 1) (mnF (nI t) 9) (nI t) (lsW (S 4) (nI t) 9) (by omega) (by omega) (by rw [show t + 1 - 1 = t from by omega]) (by rw [show t + 1 - 1 = t from by omega]) (wy_t f false (by omega) (by rw [if_neg (by decide), ei]; rfl)) (wy_t f true (by omega) (by rw [if_pos rfl, eo]; rfl)) (rw_c hG (by omega) (bI_ne.mp c_265) c_271) (by rw [hbs]) (by rw [hbs]) (by omega) _ _ _ hP hD hS (lv_sub hl [0, 1, 2, 3, 4, 5, 10, 11, 12, 13, 14, 15, 16, 17, 18, 19, 20, 21] rfl)
                          · have hb0 := c_278
                            obtain ⟨b, hb1, hb2, hb3⟩ : ∃ b, 1 ≤ b ∧ b ≤ t - 1 ∧ (bsF f S (t - 1)).1 = nI b := (bs_in f S (t - 1)).resolve_left (fun h9 => hb0 (congrArg Prod.fst h9))
                            have hcl : (nI b).toNatClampNeg = b := nI_clamp (by omega)
                            refine lv_iload hx hb dL_holds_572 (lv_at hl 5 rfl) ?_
                            refine lv_iload hx hb dL_holds_574 (lv_at hl 8 rfl) ?_
                            refine lv_icmp_gt (tgt := 596) hx hb dL_holds_576 (by decide) (fun c_279 => ?_) (fun c_279 => ?_)
                            · have hbs : bsF f S (t + 1 - 1) = (nI t, lsW (S 4) (nI t) 9) := bs_set (by omega) eo (Or.inr (Or.inl c_279))
                              refine lv_iload hx hb dL_holds_596 (lv_at hl 7 rfl) ?_
                              refine lv_istore (lv' := [(15, .int (nI t)), (14, .int (mnF (nI t) 9)), (13, .int ((wyF f 0 true (t - 1)) + 1)), (12, .int ((wyF f 0 false (t - 1)) + 1)), (21, .int (nI 9)), (20, .int (bI (apF (bhG (S 2)) (nI t) 9))), (19, .int (lsW (S 4) (nI t) 9)), (18, .int 2), (17, .int (nI t)), (16, .int ((bsF f S (t - 1)).2)), (11, .int 1), (10, .int (dsF (S 4) 9)), (9, .int (dsF (S 0) 9)), (8, .int (dsF (mnS S) 9)), (7, .ref n_7), (6, .ref n_6), (5, .ref n_5), (4, .ref n_4), (3, .ref n_3), (2, .ref n_2), (1, .ref n_1), (0, .ref x0)]) hx hb dL_holds_598 hl (by decide) rfl (fun ls hl => ?_)
                              refine lv_iload hx hb dL_holds_600 (lv_at hl 6 rfl) ?_
                              refine lv_istore (lv' := [(16, .int (lsW (S 4) (nI t) 9)), (15, .int (nI t)), (14, .int (mnF (nI t) 9)), (13, .int ((wyF f 0 true (t - 1)) + 1)), (12, .int ((wyF f 0 false (t - 1)) + 1)), (21, .int (nI 9)), (20, .int (bI (apF (bhG (S 2)) (nI t) 9))), (19, .int (lsW (S 4) (nI t) 9)), (18, .int 2), (17, .int (nI t)), (11, .int 1), (10, .int (dsF (S 4) 9)), (9, .int (dsF (S 0) 9)), (8, .int (dsF (mnS S) 9)), (7, .ref n_7), (6, .ref n_6), (5, .ref n_5), (4, .ref n_4), (3, .ref n_3), (2, .ref n_2), (1, .ref n_1), (0, .ref x0)]) hx hb dL_holds_602 hl (by decide) rfl (fun ls hl => ?_)
                              refine lv_iinc (v := (nI (t + 1))) (lv' := [(17, .int (nI (t + 1))), (16, .int (lsW (S 4) (nI t) 9)), (15, .int (nI t)), (14, .int (mnF (nI t) 9)), (13, .int ((wyF f 0 true (t - 1)) + 1)), (12, .int ((wyF f 0 false (t - 1)) + 1)), (21, .int (nI 9)), (20, .int (bI (apF (bhG (S 2)) (nI t) 9))), (19, .int (lsW (S 4) (nI t) 9)), (18, .int 2), (11, .int 1), (10, .int (dsF (S 4) 9)), (9, .int (dsF (S 0) 9)), (8, .int (dsF (mnS S) 9)), (7, .ref n_7), (6, .ref n_6), (5, .ref n_5), (4, .ref n_4), (3, .ref n_3), (2, .ref n_2), (1, .ref n_1), (0, .ref x0)]) hx hb dL_holds_604 hl (k := 9) rfl (nI_1 t) (by decide) rfl (fun ls hl => ?_)
                              refine lv_goto (tgt := 368) hx hb dL_holds_607 (by decide) ?_
                              exact ih_t (t + 1) (inW f false t) (inW f true t) ((wyF f 0 false (t - 1)) + 1) ((wyF f 0 true (t - 1)) + 1) (mnF (nI t) 9) (nI t) (lsW (S 4) (nI t) 9) (by omega) (by omega) (by rw [show t + 1 - 1 = t from by omega]) (by rw [show t + 1 - 1 = t from by omega]) (wy_t f false (by omega) (by rw [if_neg (by decide), ei]; rfl)) (wy_t f true (by omega) (by rw [if_pos rfl, eo]; rfl)) (rw_c hG (by omega) (bI_ne.mp c_265) c_271) (by rw [hbs]) (by rw [hbs]) (by omega) _ _ _ hP hD hS (lv_sub hl [0, 1, 2, 3, 4, 5, 10, 11, 12, 13, 14, 15, 16, 17, 18, 19, 20, 21] rfl)
                            · have hw1 := c_279
                              refine lv_iload hx hb dL_holds_579 (lv_at hl 5 rfl) ?_
                              refine lv_iload hx hb dL_holds_581 (lv_at hl 8 rfl) ?_
                              refine lv_icmp_ne (tgt := 604) hx hb dL_holds_583 (by decide) (fun c_280 => ?_) (fun c_280 => ?_)
                              · have hw2 := c_280
                                have hbs : bsF f S (t + 1 - 1) = bsF f S (t - 1) := bs_keep (by omega) eo (fun h9 => h9.elim hb0 (fun h8 => h8.elim hw1 (fun h7 => hw2 h7.1)))
                                refine lv_iinc (v := (nI (t + 1))) (lv' := [(17, .int (nI (t + 1))), (14, .int (mnF (nI t) 9)), (13, .int ((wyF f 0 true (t - 1)) + 1)), (12, .int ((wyF f 0 false (t - 1)) + 1)), (21, .int (nI 9)), (20, .int (bI (apF (bhG (S 2)) (nI t) 9))), (19, .int (lsW (S 4) (nI t) 9)), (18, .int 2), (16, .int ((bsF f S (t - 1)).2)), (15, .int ((bsF f S (t - 1)).1)), (11, .int 1), (10, .int (dsF (S 4) 9)), (9, .int (dsF (S 0) 9)), (8, .int (dsF (mnS S) 9)), (7, .ref n_7), (6, .ref n_6), (5, .ref n_5), (4, .ref n_4), (3, .ref n_3), (2, .ref n_2), (1, .ref n_1), (0, .ref x0)]) hx hb dL_holds_604 hl (k := 7) rfl (nI_1 t) (by decide) rfl (fun ls hl => ?_)
                                refine lv_goto (tgt := 368) hx hb dL_holds_607 (by decide) ?_
                                exact ih_t (t + 1) (inW f false t) (inW f true t) ((wyF f 0 false (t - 1)) + 1) ((wyF f 0 true (t - 1)) + 1) (mnF (nI t) 9) ((bsF f S (t - 1)).1) ((bsF f S (t - 1)).2) (by omega) (by omega) (by rw [show t + 1 - 1 = t from by omega]) (by rw [show t + 1 - 1 = t from by omega]) (wy_t f false (by omega) (by rw [if_neg (by decide), ei]; rfl)) (wy_t f true (by omega) (by rw [if_pos rfl, eo]; rfl)) (rw_c hG (by omega) (bI_ne.mp c_265) c_271) (by rw [hbs]) (by rw [hbs]) (by omega) _ _ _ hP hD hS (lv_sub hl [0, 8, 9, 1, 2, 3, 10, 11, 12, 13, 14, 15, 16, 17, 18, 19, 20, 21] rfl)
                              · have hw2 := c_280
                                rw [hb3] at hl
                                have hl : lv_has ls 22 [(14, .int (mnF (nI t) 9)), (13, .int ((wyF f 0 true (t - 1)) + 1)), (12, .int ((wyF f 0 false (t - 1)) + 1)), (21, .int (nI 9)), (20, .int (bI (apF (bhG (S 2)) (nI t) 9))), (19, .int (lsW (S 4) (nI t) 9)), (18, .int 2), (17, .int (nI t)), (16, .int ((bsF f S (t - 1)).2)), (15, .int (nI b)), (11, .int 1), (10, .int (dsF (S 4) 9)), (9, .int (dsF (S 0) 9)), (8, .int (dsF (mnS S) 9)), (7, .ref n_7), (6, .ref n_6), (5, .ref n_5), (4, .ref n_4), (3, .ref n_3), (2, .ref n_2), (1, .ref n_1), (0, .ref x0)] := hl
                                refine lv_iload hx hb dL_holds_586 (lv_at hl 7 rfl) ?_
                                refine lv_iload hx hb dL_holds_588 (lv_at hl 9 rfl) ?_
                                have hPc : va_P D vwCl ([]) H := hP.sub [] rfl
                                have hDc : va_D A ([]) := hD.sub [] (by decide +kernel) rfl
                                refine cl_i0 (va_runS (As := [.int (nI t), .int (nI b)]) (rest := []) ⟨hx, hb, hml, hown, hts⟩ (c_L_isAhead l D k t b (by omega) (by omega) (by omega) H.size) (va_cwS 2 hts gL_holds_L_isAhead rfl rfl rfl (by decide +kernel) ⟨Nat.le_of_ble_eq_true rfl, Nat.le_of_ble_eq_true rfl⟩) ⟨pr_blind, pr_at hN hPc hK hDc⟩ rfl rfl hl.1 rfl (lv_room (Nat.le_of_ble_eq_true rfl)) dL_holds_590 ⟨Nat.le_of_ble_eq_true rfl, Nat.le_of_ble_eq_true rfl⟩) hP hD hS hA [] rfl (fun H locs hP hD hS => ?_)
                                clear hPc hDc
                                refine lv_if_eq (tgt := 604) hx hb dL_holds_593 (by decide) (fun c_281 => ?_) (fun c_281 => ?_)
                                · have c_281 := bI_eq.mp c_281
                                  have hah : ahB t b = false := c_281
                                  have hbs : bsF f S (t + 1 - 1) = bsF f S (t - 1) := bs_keep (by omega) eo (fun h9 => h9.elim hb0 (fun h8 => h8.elim hw1 (fun h7 => by have h6 := h7.2; rw [hb3, hcl, hah] at h6; cases h6)))
                                  refine lv_iinc (v := (nI (t + 1))) (lv' := [(17, .int (nI (t + 1))), (14, .int (mnF (nI t) 9)), (13, .int ((wyF f 0 true (t - 1)) + 1)), (12, .int ((wyF f 0 false (t - 1)) + 1)), (21, .int (nI 9)), (20, .int (bI (apF (bhG (S 2)) (nI t) 9))), (19, .int (lsW (S 4) (nI t) 9)), (18, .int 2), (16, .int ((bsF f S (t - 1)).2)), (15, .int (nI b)), (11, .int 1), (10, .int (dsF (S 4) 9)), (9, .int (dsF (S 0) 9)), (8, .int (dsF (mnS S) 9)), (7, .ref n_7), (6, .ref n_6), (5, .ref n_5), (4, .ref n_4), (3, .ref n_3), (2, .ref n_2), (1, .ref n_1), (0, .ref x0)]) hx hb dL_holds_604 hl (k := 7) rfl (nI_1 t) (by decide) rfl (fun ls hl => ?_)
                                  refine lv_goto (tgt := 368) hx hb dL_holds_607 (by decide) ?_
                                  exact ih_t (t + 1) (inW f false t) (inW f true t) ((wyF f 0 false (t - 1)) + 1) ((wyF f 0 true (t - 1)) + 1) (mnF (nI t) 9) (nI b) ((bsF f S (t - 1)).2) (by omega) (by omega) (by rw [show t + 1 - 1 = t from by omega]) (by rw [show t + 1 - 1 = t from by omega]) (wy_t f false (by omega) (by rw [if_neg (by decide), ei]; rfl)) (wy_t f true (by omega) (by rw [if_pos rfl, eo]; rfl)) (rw_c hG (by omega) (bI_ne.mp c_265) c_271) (by rw [hbs, hb3]) (by rw [hbs]) (by omega) _ _ _ hP hD hS (lv_sub hl [0, 8, 9, 1, 2, 3, 10, 11, 12, 13, 14, 15, 16, 17, 18, 19, 20, 21] rfl)
                                · have c_281 := bI_ne.mp c_281
                                  have hah : ahB t b = true := c_281
                                  have hbs : bsF f S (t + 1 - 1) = (nI t, lsW (S 4) (nI t) 9) := bs_set (by omega) eo (Or.inr (Or.inr ⟨hw2, by rw [hb3, hcl]; exact hah⟩))
                                  refine lv_iload hx hb dL_holds_596 (lv_at hl 7 rfl) ?_
                                  refine lv_istore (lv' := [(15, .int (nI t)), (14, .int (mnF (nI t) 9)), (13, .int ((wyF f 0 true (t - 1)) + 1)), (12, .int ((wyF f 0 false (t - 1)) + 1)), (21, .int (nI 9)), (20, .int (bI (apF (bhG (S 2)) (nI t) 9))), (19, .int (lsW (S 4) (nI t) 9)), (18, .int 2), (17, .int (nI t)), (16, .int ((bsF f S (t - 1)).2)), (11, .int 1), (10, .int (dsF (S 4) 9)), (9, .int (dsF (S 0) 9)), (8, .int (dsF (mnS S) 9)), (7, .ref n_7), (6, .ref n_6), (5, .ref n_5), (4, .ref n_4), (3, .ref n_3), (2, .ref n_2), (1, .ref n_1), (0, .ref x0)]) hx hb dL_holds_598 hl (by decide) rfl (fun ls hl => ?_)
                                  refine lv_iload hx hb dL_holds_600 (lv_at hl 6 rfl) ?_
                                  refine lv_istore (lv' := [(16, .int (lsW (S 4) (nI t) 9)), (15, .int (nI t)), (14, .int (mnF (nI t) 9)), (13, .int ((wyF f 0 true (t - 1)) + 1)), (12, .int ((wyF f 0 false (t - 1)) + 1)), (21, .int (nI 9)), (20, .int (bI (apF (bhG (S 2)) (nI t) 9))), (19, .int (lsW (S 4) (nI t) 9)), (18, .int 2), (17, .int (nI t)), (11, .int 1), (10, .int (dsF (S 4) 9)), (9, .int (dsF (S 0) 9)), (8, .int (dsF (mnS S) 9)), (7, .ref n_7), (6, .ref n_6), (5, .ref n_5), (4, .ref n_4), (3, .ref n_3), (2, .ref n_2), (1, .ref n_1), (0, .ref x0)]) hx hb dL_holds_602 hl (by decide) rfl (fun ls hl => ?_)
                                  refine lv_iinc (v := (nI (t + 1))) (lv' := [(17, .int (nI (t + 1))), (16, .int (lsW (S 4) (nI t) 9)), (15, .int (nI t)), (14, .int (mnF (nI t) 9)), (13, .int ((wyF f 0 true (t - 1)) + 1)), (12, .int ((wyF f 0 false (t - 1)) + 1)), (21, .int (nI 9)), (20, .int (bI (apF (bhG (S 2)) (nI t) 9))), (19, .int (lsW (S 4) (nI t) 9)), (18, .int 2), (11, .int 1), (10, .int (dsF (S 4) 9)), (9, .int (dsF (S 0) 9)), (8, .int (dsF (mnS S) 9)), (7, .ref n_7), (6, .ref n_6), (5, .ref n_5), (4, .ref n_4), (3, .ref n_3), (2, .ref n_2), (1, .ref n_1), (0, .ref x0)]) hx hb dL_holds_604 hl (k := 9) rfl (nI_1 t) (by decide) rfl (fun ls hl => ?_)
                                  refine lv_goto (tgt := 368) hx hb dL_holds_607 (by decide) ?_
                                  exact ih_t (t + 1) (inW f false t) (inW f true t) ((wyF f 0 false (t - 1)) + 1) ((wyF f 0 true (t - 1)) + 1) (mnF (nI t) 9) (nI t) (lsW (S 4) (nI t) 9) (by omega) (by omega) (by rw [show t + 1 - 1 = t from by omega]) (by rw [show t + 1 - 1 = t from by omega]) (wy_t f false (by omega) (by rw [if_neg (by decide), ei]; rfl)) (wy_t f true (by omega) (by rw [if_pos rfl, eo]; rfl)) (rw_c hG (by omega) (bI_ne.mp c_265) c_271) (by rw [hbs]) (by rw [hbs]) (by omega) _ _ _ hP hD hS (lv_sub hl [0, 1, 2, 3, 4, 5, 10, 11, 12, 13, 14, 15, 16, 17, 18, 19, 20, 21] rfl)
              · have c_262 : ¬ (9 ≤ j) := fun h9 => c_262 ((nI_leI (a := 9) (b := j) (by omega) (by omega)).mpr h9)
                refine lv_iload hx hb dL_holds_404 (lv_at hl 4 rfl) ?_
                refine lv_iload hx hb dL_holds_406 (lv_at hl 0 rfl) ?_
                refine lv_ishr hx hb dL_holds_408 ?_
                refine lv_iconst (v := 1) hx hb dL_holds_409 (by decide) ?_
                refine lv_iand hx hb dL_holds_410 ?_
                refine lv_iconst (v := 1) hx hb dL_holds_411 (by decide) ?_
                refine lv_icmp_ne (tgt := 497) hx hb dL_holds_412 (by decide) (fun c_282 => ?_) (fun c_282 => ?_)
                · have hbt : ¬ bitv (nI t) (nI j) = 1 := c_282
                  have hb0 : bitv (nI t) (nI j) = 0 := (bv_01 (show t < 512 from by omega) j (by omega)).resolve_right hbt
                  refine lv_iinc (v := (nI (j + 1))) (lv' := [(21, .int (nI (j + 1))), (20, .int (bI (apF (bhG (S 2)) (nI t) j))), (19, .int (lsW (S 4) (nI t) j)), (18, .int 2), (17, .int (nI t)), (16, .int ((bsF f S (t - 1)).2)), (15, .int ((bsF f S (t - 1)).1)), (14, .int (rwT f (t - 1))), (13, .int (wyF f 0 true (t - 1))), (12, .int (wyF f 0 false (t - 1))), (11, .int 1), (10, .int (dsF (S 4) 9)), (9, .int (dsF (S 0) 9)), (8, .int (dsF (mnS S) 9)), (7, .ref n_7), (6, .ref n_6), (5, .ref n_5), (4, .ref n_4), (3, .ref n_3), (2, .ref n_2), (1, .ref n_1), (0, .ref x0)]) hx hb dL_holds_497 hl (k := 0) rfl (nI_1 j) (by decide) rfl (fun ls hl => ?_)
                  refine lv_goto (tgt := 397) hx hb dL_holds_500 (by decide) ?_
                  exact ih_j (j + 1) (fil (inW f false t) (inW f false (t - 1)) j) (fil (inW f true t) (inW f true (t - 1)) j) (lsW (S 4) (nI t) j) (bI (apF (bhG (S 2)) (nI t) j)) (by omega) (by omega) (in_no f false (by omega) (by omega) (by omega) hbt) (in_no f true (by omega) (by omega) (by omega) hbt) (by rw [lsW, if_neg hbt]) (by rw [apF, decide_eq_true (Or.inl hb0), Bool.and_true])  _ _ _ hP hD hS (lv_sub hl [0, 1, 2, 3, 4, 5, 6, 7, 8, 9, 10, 11, 12, 13, 14, 15, 16, 17, 18, 19, 20, 21] rfl)
                · have hbt : bitv (nI t) (nI j) = 1 := c_282
                  refine lv_aload hx hb dL_holds_415 (lv_at hl 15 rfl) ?_
                  refine lv_iload hx hb dL_holds_417 (lv_at hl 0 rfl) ?_
                  refine lv_dup2_11 hx hb dL_holds_419 rfl rfl ?_
                  refine ar_ld hx hb hK hP 1 rfl j (nI_clamp (by omega)) (vp_in_nI (by omega) (by omega)) dL_holds_420 ?_
                  refine lv_iload hx hb dL_holds_421 (lv_at hl 3 rfl) ?_
                  refine lv_if_le (tgt := 430) hx hb dL_holds_423 (by decide) (fun c_283 => ?_) (fun c_283 => ?_)
                  · exact absurd c_283 (by decide)
                  · refine lv_iconst (v := 1) hx hb dL_holds_426 (by decide) ?_
                    refine lv_goto (tgt := 431) hx hb dL_holds_427 (by decide) ?_
                    refine lv_iadd hx hb dL_holds_431 ?_
                    refine ar_st hx hb hK hP hD hS 1 rfl j (nI_clamp (by omega)) (vp_in_nI (by omega) (by omega)) dL_holds_432 (wn := ([(n_7, .inl (k 0, 9, .inl (fil (inW f true t) (inW f true (t - 1)) j))), (n_6, .inl (k 0, 9, .inl (upd (fil (inW f false t) (inW f false (t - 1)) j) j (((fil (inW f false t) (inW f false (t - 1)) j) j) + 1)))), (n_5, .inl (k 0, 9, .inl (bhG (S 2)))), (n_4, .inl (k 0, 9, .inl (S 4))), (n_3, .inl (k 0, 9, .inl (S 3))), (n_2, .inl (k 0, 9, .inl (S 1))), (n_1, .inl (k 0, 9, .inl (S 2)))] ++ (Xa))) rfl (fun H locs hP hD hS => ?_)
                    refine lv_aload hx hb dL_holds_433 (lv_at hl 14 rfl) ?_
                    refine lv_iload hx hb dL_holds_435 (lv_at hl 0 rfl) ?_
                    refine lv_dup2_11 hx hb dL_holds_437 rfl rfl ?_
                    refine ar_ld hx hb hK hP 0 rfl j (nI_clamp (by omega)) (vp_in_nI (by omega) (by omega)) dL_holds_438 ?_
                    refine lv_iload hx hb dL_holds_439 (lv_at hl 3 rfl) ?_
                    refine lv_iconst (v := 1) hx hb dL_holds_441 (by decide) ?_
                    refine lv_icmp_le (tgt := 449) hx hb dL_holds_442 (by decide) (fun c_284 => ?_) (fun c_284 => ?_)
                    · exact absurd c_284 (by decide)
                    · refine lv_iconst (v := 1) hx hb dL_holds_445 (by decide) ?_
                      refine lv_goto (tgt := 450) hx hb dL_holds_446 (by decide) ?_
                      refine lv_iadd hx hb dL_holds_450 ?_
                      refine ar_st hx hb hK hP hD hS 0 rfl j (nI_clamp (by omega)) (vp_in_nI (by omega) (by omega)) dL_holds_451 (wn := ([(n_7, .inl (k 0, 9, .inl (upd (fil (inW f true t) (inW f true (t - 1)) j) j (((fil (inW f true t) (inW f true (t - 1)) j) j) + 1)))), (n_6, .inl (k 0, 9, .inl (upd (fil (inW f false t) (inW f false (t - 1)) j) j (((fil (inW f false t) (inW f false (t - 1)) j) j) + 1)))), (n_5, .inl (k 0, 9, .inl (bhG (S 2)))), (n_4, .inl (k 0, 9, .inl (S 4))), (n_3, .inl (k 0, 9, .inl (S 3))), (n_2, .inl (k 0, 9, .inl (S 1))), (n_1, .inl (k 0, 9, .inl (S 2)))] ++ (Xa))) rfl (fun H locs hP hD hS => ?_)
                      refine lv_aload hx hb dL_holds_452 (lv_at hl 17 rfl) ?_
                      refine lv_iload hx hb dL_holds_454 (lv_at hl 0 rfl) ?_
                      refine ar_ld hx hb hK hP 3 rfl j (nI_clamp (by omega)) (vp_in_nI (by omega) (by omega)) dL_holds_456 ?_
                      refine lv_iload hx hb dL_holds_457 (lv_at hl 2 rfl) ?_
                      refine lv_icmp_ge (tgt := 470) hx hb dL_holds_459 (by decide) (fun c_285 => ?_) (fun c_285 => ?_)
                      · refine lv_iload hx hb dL_holds_470 (lv_at hl 2 rfl) ?_
                        refine lv_istore (lv' := [(19, .int (lsW (S 4) (nI t) j)), (21, .int (nI j)), (20, .int (bI (apF (bhG (S 2)) (nI t) j))), (18, .int 2), (17, .int (nI t)), (16, .int ((bsF f S (t - 1)).2)), (15, .int ((bsF f S (t - 1)).1)), (14, .int (rwT f (t - 1))), (13, .int (wyF f 0 true (t - 1))), (12, .int (wyF f 0 false (t - 1))), (11, .int 1), (10, .int (dsF (S 4) 9)), (9, .int (dsF (S 0) 9)), (8, .int (dsF (mnS S) 9)), (7, .ref n_7), (6, .ref n_6), (5, .ref n_5), (4, .ref n_4), (3, .ref n_3), (2, .ref n_2), (1, .ref n_1), (0, .ref x0)]) hx hb dL_holds_472 hl (by decide) rfl (fun ls hl => ?_)
                        refine lv_iload hx hb dL_holds_474 (lv_at hl 2 rfl) ?_
                        refine lv_if_eq (tgt := 494) hx hb dL_holds_476 (by decide) (fun c_286 => ?_) (fun c_286 => ?_)
                        · refine lv_iconst (v := 0) hx hb dL_holds_494 (by decide) ?_
                          refine lv_istore (lv' := [(20, .int 0), (19, .int (lsW (S 4) (nI t) j)), (21, .int (nI j)), (18, .int 2), (17, .int (nI t)), (16, .int ((bsF f S (t - 1)).2)), (15, .int ((bsF f S (t - 1)).1)), (14, .int (rwT f (t - 1))), (13, .int (wyF f 0 true (t - 1))), (12, .int (wyF f 0 false (t - 1))), (11, .int 1), (10, .int (dsF (S 4) 9)), (9, .int (dsF (S 0) 9)), (8, .int (dsF (mnS S) 9)), (7, .ref n_7), (6, .ref n_6), (5, .ref n_5), (4, .ref n_4), (3, .ref n_3), (2, .ref n_2), (1, .ref n_1), (0, .ref x0)]) hx hb dL_holds_495 hl (by decide) rfl (fun ls hl => ?_)
                          refine lv_iinc (v := (nI (j + 1))) (lv' := [(21, .int (nI (j + 1))), (20, .int 0), (19, .int (lsW (S 4) (nI t) j)), (18, .int 2), (17, .int (nI t)), (16, .int ((bsF f S (t - 1)).2)), (15, .int ((bsF f S (t - 1)).1)), (14, .int (rwT f (t - 1))), (13, .int (wyF f 0 true (t - 1))), (12, .int (wyF f 0 false (t - 1))), (11, .int 1), (10, .int (dsF (S 4) 9)), (9, .int (dsF (S 0) 9)), (8, .int (dsF (mnS S) 9)), (7, .ref n_7), (6, .ref n_6), (5, .ref n_5), (4, .ref n_4), (3, .ref n_3), (2, .ref n_2), (1, .ref n_1), (0, .ref x0)]) hx hb dL_holds_497 hl (k := 2) rfl (nI_1 j) (by decide) rfl (fun ls hl => ?_)
                          refine lv_goto (tgt := 397) hx hb dL_holds_500 (by decide) ?_
                          exact ih_j (j + 1) (upd (fil (inW f false t) (inW f false (t - 1)) j) j (((fil (inW f false t) (inW f false (t - 1)) j) j) + 1)) (upd (fil (inW f true t) (inW f true (t - 1)) j) j (((fil (inW f true t) (inW f true (t - 1)) j) j) + 1)) (lsW (S 4) (nI t) j) 0 (by omega) (by omega) (in_up f false (by omega) (by omega) (by omega) hbt (by rw [if_neg (by decide), ei]; rfl)) (in_up f true (by omega) (by omega) (by omega) hbt (by rw [if_pos rfl, eo]; rfl)) (by rw [lsW, if_pos hbt, if_neg (Int32.not_lt.mpr c_285)]) (by rw [apF, bI_eq.mp c_286]; rfl)  _ _ _ hP hD hS (lv_sub hl [0, 1, 2, 3, 4, 5, 6, 7, 8, 9, 10, 11, 12, 13, 14, 15, 16, 17, 18, 19, 20, 21] rfl)
                        · refine lv_aload hx hb dL_holds_479 (lv_at hl 16 rfl) ?_
                          refine lv_iload hx hb dL_holds_481 (lv_at hl 1 rfl) ?_
                          refine ar_ld hx hb hK hP 2 rfl j (nI_clamp (by omega)) (vp_in_nI (by omega) (by omega)) dL_holds_483 ?_
                          refine lv_iload hx hb dL_holds_484 (lv_at hl 4 rfl) ?_
                          refine lv_iand hx hb dL_holds_486 ?_
                          refine lv_if_ne (tgt := 494) hx hb dL_holds_487 (by decide) (fun c_287 => ?_) (fun c_287 => ?_)
                          · refine lv_iconst (v := 0) hx hb dL_holds_494 (by decide) ?_
                            refine lv_istore (lv' := [(20, .int 0), (19, .int (lsW (S 4) (nI t) j)), (21, .int (nI j)), (18, .int 2), (17, .int (nI t)), (16, .int ((bsF f S (t - 1)).2)), (15, .int ((bsF f S (t - 1)).1)), (14, .int (rwT f (t - 1))), (13, .int (wyF f 0 true (t - 1))), (12, .int (wyF f 0 false (t - 1))), (11, .int 1), (10, .int (dsF (S 4) 9)), (9, .int (dsF (S 0) 9)), (8, .int (dsF (mnS S) 9)), (7, .ref n_7), (6, .ref n_6), (5, .ref n_5), (4, .ref n_4), (3, .ref n_3), (2, .ref n_2), (1, .ref n_1), (0, .ref x0)]) hx hb dL_holds_495 hl (by decide) rfl (fun ls hl => ?_)
                            refine lv_iinc (v := (nI (j + 1))) (lv' := [(21, .int (nI (j + 1))), (20, .int 0), (19, .int (lsW (S 4) (nI t) j)), (18, .int 2), (17, .int (nI t)), (16, .int ((bsF f S (t - 1)).2)), (15, .int ((bsF f S (t - 1)).1)), (14, .int (rwT f (t - 1))), (13, .int (wyF f 0 true (t - 1))), (12, .int (wyF f 0 false (t - 1))), (11, .int 1), (10, .int (dsF (S 4) 9)), (9, .int (dsF (S 0) 9)), (8, .int (dsF (mnS S) 9)), (7, .ref n_7), (6, .ref n_6), (5, .ref n_5), (4, .ref n_4), (3, .ref n_3), (2, .ref n_2), (1, .ref n_1), (0, .ref x0)]) hx hb dL_holds_497 hl (k := 2) rfl (nI_1 j) (by decide) rfl (fun ls hl => ?_)
                            refine lv_goto (tgt := 397) hx hb dL_holds_500 (by decide) ?_
                            exact ih_j (j + 1) (upd (fil (inW f false t) (inW f false (t - 1)) j) j (((fil (inW f false t) (inW f false (t - 1)) j) j) + 1)) (upd (fil (inW f true t) (inW f true (t - 1)) j) j (((fil (inW f true t) (inW f true (t - 1)) j) j) + 1)) (lsW (S 4) (nI t) j) 0 (by omega) (by omega) (in_up f false (by omega) (by omega) (by omega) hbt (by rw [if_neg (by decide), ei]; rfl)) (in_up f true (by omega) (by omega) (by omega) hbt (by rw [if_pos rfl, eo]; rfl)) (by rw [lsW, if_pos hbt, if_neg (Int32.not_lt.mpr c_285)]) (by rw [apF, decide_eq_false (fun h9 => h9.elim (fun h8 => absurd (hbt.symm.trans h8) (by decide)) c_287), Bool.and_false]; rfl)  _ _ _ hP hD hS (lv_sub hl [0, 1, 2, 3, 4, 5, 6, 7, 8, 9, 10, 11, 12, 13, 14, 15, 16, 17, 18, 19, 20, 21] rfl)
                          · refine lv_iconst (v := 1) hx hb dL_holds_490 (by decide) ?_
                            refine lv_goto (tgt := 495) hx hb dL_holds_491 (by decide) ?_
                            refine lv_istore (lv' := [(20, .int 1), (19, .int (lsW (S 4) (nI t) j)), (21, .int (nI j)), (18, .int 2), (17, .int (nI t)), (16, .int ((bsF f S (t - 1)).2)), (15, .int ((bsF f S (t - 1)).1)), (14, .int (rwT f (t - 1))), (13, .int (wyF f 0 true (t - 1))), (12, .int (wyF f 0 false (t - 1))), (11, .int 1), (10, .int (dsF (S 4) 9)), (9, .int (dsF (S 0) 9)), (8, .int (dsF (mnS S) 9)), (7, .ref n_7), (6, .ref n_6), (5, .ref n_5), (4, .ref n_4), (3, .ref n_3), (2, .ref n_2), (1, .ref n_1), (0, .ref x0)]) hx hb dL_holds_495 hl (by decide) rfl (fun ls hl => ?_)
                            refine lv_iinc (v := (nI (j + 1))) (lv' := [(21, .int (nI (j + 1))), (20, .int 1), (19, .int (lsW (S 4) (nI t) j)), (18, .int 2), (17, .int (nI t)), (16, .int ((bsF f S (t - 1)).2)), (15, .int ((bsF f S (t - 1)).1)), (14, .int (rwT f (t - 1))), (13, .int (wyF f 0 true (t - 1))), (12, .int (wyF f 0 false (t - 1))), (11, .int 1), (10, .int (dsF (S 4) 9)), (9, .int (dsF (S 0) 9)), (8, .int (dsF (mnS S) 9)), (7, .ref n_7), (6, .ref n_6), (5, .ref n_5), (4, .ref n_4), (3, .ref n_3), (2, .ref n_2), (1, .ref n_1), (0, .ref x0)]) hx hb dL_holds_497 hl (k := 2) rfl (nI_1 j) (by decide) rfl (fun ls hl => ?_)
                            refine lv_goto (tgt := 397) hx hb dL_holds_500 (by decide) ?_
                            exact ih_j (j + 1) (upd (fil (inW f false t) (inW f false (t - 1)) j) j (((fil (inW f false t) (inW f false (t - 1)) j) j) + 1)) (upd (fil (inW f true t) (inW f true (t - 1)) j) j (((fil (inW f true t) (inW f true (t - 1)) j) j) + 1)) (lsW (S 4) (nI t) j) 1 (by omega) (by omega) (in_up f false (by omega) (by omega) (by omega) hbt (by rw [if_neg (by decide), ei]; rfl)) (in_up f true (by omega) (by omega) (by omega) hbt (by rw [if_pos rfl, eo]; rfl)) (by rw [lsW, if_pos hbt, if_neg (Int32.not_lt.mpr c_285)]) (by rw [apF, bI_ne.mp c_286, decide_eq_true (Or.inr c_287)]; rfl)  _ _ _ hP hD hS (lv_sub hl [0, 1, 2, 3, 4, 5, 6, 7, 8, 9, 10, 11, 12, 13, 14, 15, 16, 17, 18, 19, 20, 21] rfl)
                      · refine lv_aload hx hb dL_holds_462 (lv_at hl 17 rfl) ?_
                        refine lv_iload hx hb dL_holds_464 (lv_at hl 0 rfl) ?_
                        refine ar_ld hx hb hK hP 3 rfl j (nI_clamp (by omega)) (vp_in_nI (by omega) (by omega)) dL_holds_466 ?_
                        refine lv_goto (tgt := 472) hx hb dL_holds_467 (by decide) ?_
                        refine lv_istore (lv' := [(19, .int ((S 4) j)), (21, .int (nI j)), (20, .int (bI (apF (bhG (S 2)) (nI t) j))), (18, .int 2), (17, .int (nI t)), (16, .int ((bsF f S (t - 1)).2)), (15, .int ((bsF f S (t - 1)).1)), (14, .int (rwT f (t - 1))), (13, .int (wyF f 0 true (t - 1))), (12, .int (wyF f 0 false (t - 1))), (11, .int 1), (10, .int (dsF (S 4) 9)), (9, .int (dsF (S 0) 9)), (8, .int (dsF (mnS S) 9)), (7, .ref n_7), (6, .ref n_6), (5, .ref n_5), (4, .ref n_4), (3, .ref n_3), (2, .ref n_2), (1, .ref n_1), (0, .ref x0)]) hx hb dL_holds_472 hl (by decide) rfl (fun ls hl => ?_)
                        refine lv_iload hx hb dL_holds_474 (lv_at hl 2 rfl) ?_
                        refine lv_if_eq (tgt := 494) hx hb dL_holds_476 (by decide) (fun c_288 => ?_) (fun c_288 => ?_)
                        · refine lv_iconst (v := 0) hx hb dL_holds_494 (by decide) ?_
                          refine lv_istore (lv' := [(20, .int 0), (19, .int ((S 4) j)), (21, .int (nI j)), (18, .int 2), (17, .int (nI t)), (16, .int ((bsF f S (t - 1)).2)), (15, .int ((bsF f S (t - 1)).1)), (14, .int (rwT f (t - 1))), (13, .int (wyF f 0 true (t - 1))), (12, .int (wyF f 0 false (t - 1))), (11, .int 1), (10, .int (dsF (S 4) 9)), (9, .int (dsF (S 0) 9)), (8, .int (dsF (mnS S) 9)), (7, .ref n_7), (6, .ref n_6), (5, .ref n_5), (4, .ref n_4), (3, .ref n_3), (2, .ref n_2), (1, .ref n_1), (0, .ref x0)]) hx hb dL_holds_495 hl (by decide) rfl (fun ls hl => ?_)
                          refine lv_iinc (v := (nI (j + 1))) (lv' := [(21, .int (nI (j + 1))), (20, .int 0), (19, .int ((S 4) j)), (18, .int 2), (17, .int (nI t)), (16, .int ((bsF f S (t - 1)).2)), (15, .int ((bsF f S (t - 1)).1)), (14, .int (rwT f (t - 1))), (13, .int (wyF f 0 true (t - 1))), (12, .int (wyF f 0 false (t - 1))), (11, .int 1), (10, .int (dsF (S 4) 9)), (9, .int (dsF (S 0) 9)), (8, .int (dsF (mnS S) 9)), (7, .ref n_7), (6, .ref n_6), (5, .ref n_5), (4, .ref n_4), (3, .ref n_3), (2, .ref n_2), (1, .ref n_1), (0, .ref x0)]) hx hb dL_holds_497 hl (k := 2) rfl (nI_1 j) (by decide) rfl (fun ls hl => ?_)
                          refine lv_goto (tgt := 397) hx hb dL_holds_500 (by decide) ?_
                          exact ih_j (j + 1) (upd (fil (inW f false t) (inW f false (t - 1)) j) j (((fil (inW f false t) (inW f false (t - 1)) j) j) + 1)) (upd (fil (inW f true t) (inW f true (t - 1)) j) j (((fil (inW f true t) (inW f true (t - 1)) j) j) + 1)) ((S 4) j) 0 (by omega) (by omega) (in_up f false (by omega) (by omega) (by omega) hbt (by rw [if_neg (by decide), ei]; rfl)) (in_up f true (by omega) (by omega) (by omega) hbt (by rw [if_pos rfl, eo]; rfl)) (by rw [lsW, if_pos hbt, if_pos (Int32.not_le.mp c_285)]) (by rw [apF, bI_eq.mp c_288]; rfl)  _ _ _ hP hD hS (lv_sub hl [0, 1, 2, 3, 4, 5, 6, 7, 8, 9, 10, 11, 12, 13, 14, 15, 16, 17, 18, 19, 20, 21] rfl)
                        · refine lv_aload hx hb dL_holds_479 (lv_at hl 16 rfl) ?_
                          refine lv_iload hx hb dL_holds_481 (lv_at hl 1 rfl) ?_
                          refine ar_ld hx hb hK hP 2 rfl j (nI_clamp (by omega)) (vp_in_nI (by omega) (by omega)) dL_holds_483 ?_
                          refine lv_iload hx hb dL_holds_484 (lv_at hl 4 rfl) ?_
                          refine lv_iand hx hb dL_holds_486 ?_
                          refine lv_if_ne (tgt := 494) hx hb dL_holds_487 (by decide) (fun c_289 => ?_) (fun c_289 => ?_)
                          · refine lv_iconst (v := 0) hx hb dL_holds_494 (by decide) ?_
                            refine lv_istore (lv' := [(20, .int 0), (19, .int ((S 4) j)), (21, .int (nI j)), (18, .int 2), (17, .int (nI t)), (16, .int ((bsF f S (t - 1)).2)), (15, .int ((bsF f S (t - 1)).1)), (14, .int (rwT f (t - 1))), (13, .int (wyF f 0 true (t - 1))), (12, .int (wyF f 0 false (t - 1))), (11, .int 1), (10, .int (dsF (S 4) 9)), (9, .int (dsF (S 0) 9)), (8, .int (dsF (mnS S) 9)), (7, .ref n_7), (6, .ref n_6), (5, .ref n_5), (4, .ref n_4), (3, .ref n_3), (2, .ref n_2), (1, .ref n_1), (0, .ref x0)]) hx hb dL_holds_495 hl (by decide) rfl (fun ls hl => ?_)
                            refine lv_iinc (v := (nI (j + 1))) (lv' := [(21, .int (nI (j + 1))), (20, .int 0), (19, .int ((S 4) j)), (18, .int 2), (17, .int (nI t)), (16, .int ((bsF f S (t - 1)).2)), (15, .int ((bsF f S (t - 1)).1)), (14, .int (rwT f (t - 1))), (13, .int (wyF f 0 true (t - 1))), (12, .int (wyF f 0 false (t - 1))), (11, .int 1), (10, .int (dsF (S 4) 9)), (9, .int (dsF (S 0) 9)), (8, .int (dsF (mnS S) 9)), (7, .ref n_7), (6, .ref n_6), (5, .ref n_5), (4, .ref n_4), (3, .ref n_3), (2, .ref n_2), (1, .ref n_1), (0, .ref x0)]) hx hb dL_holds_497 hl (k := 2) rfl (nI_1 j) (by decide) rfl (fun ls hl => ?_)
                            refine lv_goto (tgt := 397) hx hb dL_holds_500 (by decide) ?_
                            exact ih_j (j + 1) (upd (fil (inW f false t) (inW f false (t - 1)) j) j (((fil (inW f false t) (inW f false (t - 1)) j) j) + 1)) (upd (fil (inW f true t) (inW f true (t - 1)) j) j (((fil (inW f true t) (inW f true (t - 1)) j) j) + 1)) ((S 4) j) 0 (by omega) (by omega) (in_up f false (by omega) (by omega) (by omega) hbt (by rw [if_neg (by decide), ei]; rfl)) (in_up f true (by omega) (by omega) (by omega) hbt (by rw [if_pos rfl, eo]; rfl)) (by rw [lsW, if_pos hbt, if_pos (Int32.not_le.mp c_285)]) (by rw [apF, decide_eq_false (fun h9 => h9.elim (fun h8 => absurd (hbt.symm.trans h8) (by decide)) c_289), Bool.and_false]; rfl)  _ _ _ hP hD hS (lv_sub hl [0, 1, 2, 3, 4, 5, 6, 7, 8, 9, 10, 11, 12, 13, 14, 15, 16, 17, 18, 19, 20, 21] rfl)
                          · refine lv_iconst (v := 1) hx hb dL_holds_490 (by decide) ?_
                            refine lv_goto (tgt := 495) hx hb dL_holds_491 (by decide) ?_
                            refine lv_istore (lv' := [(20, .int 1), (19, .int ((S 4) j)), (21, .int (nI j)), (18, .int 2), (17, .int (nI t)), (16, .int ((bsF f S (t - 1)).2)), (15, .int ((bsF f S (t - 1)).1)), (14, .int (rwT f (t - 1))), (13, .int (wyF f 0 true (t - 1))), (12, .int (wyF f 0 false (t - 1))), (11, .int 1), (10, .int (dsF (S 4) 9)), (9, .int (dsF (S 0) 9)), (8, .int (dsF (mnS S) 9)), (7, .ref n_7), (6, .ref n_6), (5, .ref n_5), (4, .ref n_4), (3, .ref n_3), (2, .ref n_2), (1, .ref n_1), (0, .ref x0)]) hx hb dL_holds_495 hl (by decide) rfl (fun ls hl => ?_)
                            refine lv_iinc (v := (nI (j + 1))) (lv' := [(21, .int (nI (j + 1))), (20, .int 1), (19, .int ((S 4) j)), (18, .int 2), (17, .int (nI t)), (16, .int ((bsF f S (t - 1)).2)), (15, .int ((bsF f S (t - 1)).1)), (14, .int (rwT f (t - 1))), (13, .int (wyF f 0 true (t - 1))), (12, .int (wyF f 0 false (t - 1))), (11, .int 1), (10, .int (dsF (S 4) 9)), (9, .int (dsF (S 0) 9)), (8, .int (dsF (mnS S) 9)), (7, .ref n_7), (6, .ref n_6), (5, .ref n_5), (4, .ref n_4), (3, .ref n_3), (2, .ref n_2), (1, .ref n_1), (0, .ref x0)]) hx hb dL_holds_497 hl (k := 2) rfl (nI_1 j) (by decide) rfl (fun ls hl => ?_)
                            refine lv_goto (tgt := 397) hx hb dL_holds_500 (by decide) ?_
                            exact ih_j (j + 1) (upd (fil (inW f false t) (inW f false (t - 1)) j) j (((fil (inW f false t) (inW f false (t - 1)) j) j) + 1)) (upd (fil (inW f true t) (inW f true (t - 1)) j) j (((fil (inW f true t) (inW f true (t - 1)) j) j) + 1)) ((S 4) j) 1 (by omega) (by omega) (in_up f false (by omega) (by omega) (by omega) hbt (by rw [if_neg (by decide), ei]; rfl)) (in_up f true (by omega) (by omega) (by omega) hbt (by rw [if_pos rfl, eo]; rfl)) (by rw [lsW, if_pos hbt, if_pos (Int32.not_le.mp c_285)]) (by rw [apF, bI_ne.mp c_288, decide_eq_true (Or.inr c_289)]; rfl)  _ _ _ hP hD hS (lv_sub hl [0, 1, 2, 3, 4, 5, 6, 7, 8, 9, 10, 11, 12, 13, 14, 15, 16, 17, 18, 19, 20, 21] rfl)
    · obtain ⟨q, hq, hx2⟩ := dn_pos (show 9 - i ≤ 9 from by omega) c_8
      rw [hx2] at hl
      have hl : lv_has ls 22 [(12, .int (nI q)), (11, .int 1), (10, .int (dsF (S 4) i)), (9, .int (dsF (S 0) i)), (8, .int (dsF (mnS S) i)), (7, .ref n_7), (6, .ref n_6), (5, .ref n_5), (4, .ref n_4), (3, .ref n_3), (2, .ref n_2), (1, .ref n_1), (0, .ref x0)] := hl
      have hq9 : q < 9 := by omega
      refine lv_aload_n hx hb dL_holds_60 rfl (lv_at hl 10 rfl) ?_
      refine lv_iload hx hb dL_holds_61 (lv_at hl 0 rfl) ?_
      refine lv_aload_n hx hb dL_holds_63 rfl (lv_at hl 12 rfl) ?_
      refine lv_iload hx hb dL_holds_64 (lv_at hl 0 rfl) ?_
      refine lv_iconst (v := 2) hx hb dL_holds_66 (by decide) ?_
      obtain ⟨X_290, hO_291, hM9⟩ := o_pieceOf_2 (l := l) (D := D) hSR hOa (q := q) (by omega)
      refine lo_I (n := 2) (As := [.int (nI q), .int 2]) (rest := [.int (nI q), .ref n_2]) hx hb hml hown hts hK hN hM9 (OX.at0 hOa) gL_holds_X4_pieceOf rfl (by decide +kernel) (by decide) dL_holds_67 rfl rfl (Nat.le_of_ble_eq_true rfl) hl.1 (Nat.le_of_ble_eq_true rfl) (Nat.le_of_ble_eq_true rfl) (Nat.le_of_ble_eq_true rfl) (Nat.le_of_ble_eq_true rfl) hP hD hS hA (fun H locs hP hD hS => ?_)
      clear hM9
      refine ar_st hx hb hK hP hD hS 5 rfl q (nI_clamp (by omega)) (vp_in_nI (by omega) (by omega)) dL_holds_70 (wn := ([(n_7, .inl (k 0, 9, .inl (fun _ => 0))), (n_6, .inl (k 0, 9, .inl (fun _ => 0))), (n_5, .inl (k 0, 9, .inl (dnF (bhG (S 2)) (fun _ => 0) i))), (n_4, .inl (k 0, 9, .inl (dnF (S 4) (fun _ => 0) i))), (n_3, .inl (k 0, 9, .inl (dnF (S 3) (fun _ => 0) i))), (n_2, .inl (k 0, 9, .inl (upd (dnF (S 1) (fun _ => 0) i) q (S 1 q)))), (n_1, .inl (k 0, 9, .inl (dnF (S 2) (fun _ => 0) i)))] ++ (X_290))) rfl (fun H locs hP hD hS => ?_)
      refine lv_aload_n hx hb dL_holds_71 rfl (lv_at hl 9 rfl) ?_
      refine lv_iload hx hb dL_holds_72 (lv_at hl 0 rfl) ?_
      refine lv_aload_n hx hb dL_holds_74 rfl (lv_at hl 12 rfl) ?_
      refine lv_iload hx hb dL_holds_75 (lv_at hl 0 rfl) ?_
      refine lv_bipush (v := 7) hx hb dL_holds_77 (by decide) ?_
      obtain ⟨X_292, hO_293, hM9⟩ := o_pieceOf_7 (l := l) (D := D) hSR hO_291 (q := q) (by omega)
      refine lo_I (n := 2) (As := [.int (nI q), .int 7]) (rest := [.int (nI q), .ref n_3]) hx hb hml hown hts hK hN hM9 (OX.at0 hO_291) gL_holds_X4_pieceOf rfl (by decide +kernel) (by decide) dL_holds_79 rfl rfl (Nat.le_of_ble_eq_true rfl) hl.1 (Nat.le_of_ble_eq_true rfl) (Nat.le_of_ble_eq_true rfl) (Nat.le_of_ble_eq_true rfl) (Nat.le_of_ble_eq_true rfl) hP hD hS hA (fun H locs hP hD hS => ?_)
      clear hM9
      refine ar_st hx hb hK hP hD hS 4 rfl q (nI_clamp (by omega)) (vp_in_nI (by omega) (by omega)) dL_holds_82 (wn := ([(n_7, .inl (k 0, 9, .inl (fun _ => 0))), (n_6, .inl (k 0, 9, .inl (fun _ => 0))), (n_5, .inl (k 0, 9, .inl (dnF (bhG (S 2)) (fun _ => 0) i))), (n_4, .inl (k 0, 9, .inl (dnF (S 4) (fun _ => 0) i))), (n_3, .inl (k 0, 9, .inl (upd (dnF (S 3) (fun _ => 0) i) q (S 3 q)))), (n_2, .inl (k 0, 9, .inl (upd (dnF (S 1) (fun _ => 0) i) q (S 1 q)))), (n_1, .inl (k 0, 9, .inl (dnF (S 2) (fun _ => 0) i)))] ++ (X_292))) rfl (fun H locs hP hD hS => ?_)
      refine lv_aload hx hb dL_holds_83 (lv_at hl 8 rfl) ?_
      refine lv_iload hx hb dL_holds_85 (lv_at hl 0 rfl) ?_
      refine lv_aload_n hx hb dL_holds_87 rfl (lv_at hl 12 rfl) ?_
      refine lv_iload hx hb dL_holds_88 (lv_at hl 0 rfl) ?_
      refine lv_iconst (v := 1) hx hb dL_holds_90 (by decide) ?_
      obtain ⟨X_294, hO_295, hM9⟩ := o_pieceOf_1 (l := l) (D := D) hSR hO_293 (q := q) (by omega)
      refine lo_I (n := 2) (As := [.int (nI q), .int 1]) (rest := [.int (nI q), .ref n_4]) hx hb hml hown hts hK hN hM9 (OX.at0 hO_293) gL_holds_X4_pieceOf rfl (by decide +kernel) (by decide) dL_holds_91 rfl rfl (Nat.le_of_ble_eq_true rfl) hl.1 (Nat.le_of_ble_eq_true rfl) (Nat.le_of_ble_eq_true rfl) (Nat.le_of_ble_eq_true rfl) (Nat.le_of_ble_eq_true rfl) hP hD hS hA (fun H locs hP hD hS => ?_)
      clear hM9
      refine ar_st hx hb hK hP hD hS 3 rfl q (nI_clamp (by omega)) (vp_in_nI (by omega) (by omega)) dL_holds_94 (wn := ([(n_7, .inl (k 0, 9, .inl (fun _ => 0))), (n_6, .inl (k 0, 9, .inl (fun _ => 0))), (n_5, .inl (k 0, 9, .inl (dnF (bhG (S 2)) (fun _ => 0) i))), (n_4, .inl (k 0, 9, .inl (upd (dnF (S 4) (fun _ => 0) i) q (S 4 q)))), (n_3, .inl (k 0, 9, .inl (upd (dnF (S 3) (fun _ => 0) i) q (S 3 q)))), (n_2, .inl (k 0, 9, .inl (upd (dnF (S 1) (fun _ => 0) i) q (S 1 q)))), (n_1, .inl (k 0, 9, .inl (dnF (S 2) (fun _ => 0) i)))] ++ (X_294))) rfl (fun H locs hP hD hS => ?_)
      refine lv_iload hx hb dL_holds_95 (lv_at hl 3 rfl) ?_
      refine lv_aload_n hx hb dL_holds_97 rfl (lv_at hl 12 rfl) ?_
      refine lv_iload hx hb dL_holds_98 (lv_at hl 0 rfl) ?_
      refine lv_iconst (v := 0) hx hb dL_holds_100 (by decide) ?_
      obtain ⟨X_296, hO_297, hM9⟩ := o_pieceOf_0 (l := l) (D := D) hSR hO_295 (q := q) (by omega)
      refine lo_I (n := 2) (As := [.int (nI q), .int 0]) (rest := [.int (dsF (S 0) i)]) hx hb hml hown hts hK hN hM9 (OX.at0 hO_295) gL_holds_X4_pieceOf rfl (by decide +kernel) (by decide) dL_holds_101 rfl rfl (Nat.le_of_ble_eq_true rfl) hl.1 (Nat.le_of_ble_eq_true rfl) (Nat.le_of_ble_eq_true rfl) (Nat.le_of_ble_eq_true rfl) (Nat.le_of_ble_eq_true rfl) hP hD hS hA (fun H locs hP hD hS => ?_)
      clear hM9
      refine lv_iadd hx hb dL_holds_104 ?_
      refine lv_istore (lv' := [(9, .int ((dsF (S 0) i) + (S 0 q))), (12, .int (nI q)), (11, .int 1), (10, .int (dsF (S 4) i)), (8, .int (dsF (mnS S) i)), (7, .ref n_7), (6, .ref n_6), (5, .ref n_5), (4, .ref n_4), (3, .ref n_3), (2, .ref n_2), (1, .ref n_1), (0, .ref x0)]) hx hb dL_holds_105 hl (by decide) rfl (fun ls hl => ?_)
      refine lv_iload hx hb dL_holds_107 (lv_at hl 3 rfl) ?_
      refine lv_aload hx hb dL_holds_109 (lv_at hl 8 rfl) ?_
      refine lv_iload hx hb dL_holds_111 (lv_at hl 1 rfl) ?_
      refine ar_ld hx hb hK hP 3 rfl q (nI_clamp (by omega)) (vp_in_nI (by omega) (by omega)) dL_holds_113 ?_
      refine lv_iadd hx hb dL_holds_114 ?_
      refine lv_istore (lv' := [(10, .int ((dsF (S 4) i) + ((upd (dnF (S 4) (fun _ => 0) i) q (S 4 q)) q))), (9, .int ((dsF (S 0) i) + (S 0 q))), (12, .int (nI q)), (11, .int 1), (8, .int (dsF (mnS S) i)), (7, .ref n_7), (6, .ref n_6), (5, .ref n_5), (4, .ref n_4), (3, .ref n_3), (2, .ref n_2), (1, .ref n_1), (0, .ref x0)]) hx hb dL_holds_115 hl (by decide) rfl (fun ls hl => ?_)
      refine lv_iconst (v := 0) hx hb dL_holds_117 (by decide) ?_
      refine lv_istore (lv' := [(13, .int 0), (10, .int ((dsF (S 4) i) + ((upd (dnF (S 4) (fun _ => 0) i) q (S 4 q)) q))), (9, .int ((dsF (S 0) i) + (S 0 q))), (12, .int (nI q)), (11, .int 1), (8, .int (dsF (mnS S) i)), (7, .ref n_7), (6, .ref n_6), (5, .ref n_5), (4, .ref n_4), (3, .ref n_3), (2, .ref n_2), (1, .ref n_1), (0, .ref x0)]) hx hb dL_holds_118 hl (by decide) rfl (fun ls hl => ?_)
      refine lv_iconst (v := 0) hx hb dL_holds_120 (by decide) ?_
      refine lv_istore (lv' := [(14, .int 0), (13, .int 0), (10, .int ((dsF (S 4) i) + ((upd (dnF (S 4) (fun _ => 0) i) q (S 4 q)) q))), (9, .int ((dsF (S 0) i) + (S 0 q))), (12, .int (nI q)), (11, .int 1), (8, .int (dsF (mnS S) i)), (7, .ref n_7), (6, .ref n_6), (5, .ref n_5), (4, .ref n_4), (3, .ref n_3), (2, .ref n_2), (1, .ref n_1), (0, .ref x0)]) hx hb dL_holds_121 hl (by decide) rfl (fun ls hl => ?_)
      suffices LOOP_j : ∀ (fu_j j : Nat) (g6 : Nat → Int32) (x13 : Int32) (g7 : Nat → Int32) (Xb : va_W), 9 - j < fu_j → j ≤ 9 → g6 = upd (dnF (S 2) (fun _ => 0) i) q (orB (S 2 q) j) → x13 = cjtF (S 2) (nI q) j → g7 = upd (dnF (bhG (S 2)) (fun _ => 0) i) q (beF (S 2) (bhG (S 2)) q j) → (OX k x0 ns S Z Y0 k0 Xb) → ∀ (H : Heap) (locs : List Loc) (ls : Array Slot), va_P D vwCl ([(n_7, .inl (k 0, 9, .inl (fun _ => 0))), (n_6, .inl (k 0, 9, .inl (fun _ => 0))), (n_5, .inl (k 0, 9, .inl g7)), (n_4, .inl (k 0, 9, .inl (upd (dnF (S 4) (fun _ => 0) i) q (S 4 q)))), (n_3, .inl (k 0, 9, .inl (upd (dnF (S 3) (fun _ => 0) i) q (S 3 q)))), (n_2, .inl (k 0, 9, .inl (upd (dnF (S 1) (fun _ => 0) i) q (S 1 q)))), (n_1, .inl (k 0, 9, .inl g6))] ++ (Xb)) H → va_D A ([(n_7, .inl (k 0, 9, .inl (fun _ => 0))), (n_6, .inl (k 0, 9, .inl (fun _ => 0))), (n_5, .inl (k 0, 9, .inl g7)), (n_4, .inl (k 0, 9, .inl (upd (dnF (S 4) (fun _ => 0) i) q (S 4 q)))), (n_3, .inl (k 0, 9, .inl (upd (dnF (S 3) (fun _ => 0) i) q (S 3 q)))), (n_2, .inl (k 0, 9, .inl (upd (dnF (S 1) (fun _ => 0) i) q (S 1 q)))), (n_1, .inl (k 0, 9, .inl g6))] ++ (Xb)) → va_S A s.heap H locs → lv_has ls 22 [(14, .int (nI j)), (13, .int x13), (10, .int ((dsF (S 4) i) + ((upd (dnF (S 4) (fun _ => 0) i) q (S 4 q)) q))), (9, .int ((dsF (S 0) i) + (S 0 q))), (12, .int (nI q)), (11, .int 1), (8, .int (dsF (mnS S) i)), (7, .ref n_7), (6, .ref n_6), (5, .ref n_5), (4, .ref n_4), (3, .ref n_3), (2, .ref n_2), (1, .ref n_1), (0, .ref x0)] → W p l e ({ frames := 31, cells := 7, slots := 63, locals := 839 } : Room) s m ([.ref x0] : List Value).toArray below meth c H locs 7 63 Q (F0 m 123 ls []) from LOOP_j (9 + 1) 0 (dnF (S 2) (fun _ => 0) i) 0 (dnF (bhG (S 2)) (fun _ => 0) i) X_296 (by omega) (by omega) (up_z (S 2) hq) (rfl) (up_z (bhG (S 2)) hq) (hO_297) _ _ _ hP hD hS (lv_sub hl [0, 1, 2, 3, 4, 5, 6, 7, 8, 9, 10, 11, 12, 13, 14] rfl)
      clear hP hD hS hl
      intro fu_j
      induction fu_j with
      | zero => intro j g6 x13 g7 Xb hn_j; omega
      | succ fu_j ih_j =>
        intro j g6 x13 g7 Xb hn_j hle_j e_g6 e_x13 e_g7 hOb H locs ls hP hD hS hl
        subst e_g6
        subst e_x13
        subst e_g7
        refine lv_iload hx hb dL_holds_123 (lv_at hl 0 rfl) ?_
        refine lv_bipush (v := 9) hx hb dL_holds_125 (by decide) ?_
        refine lv_icmp_ge (tgt := 238) hx hb dL_holds_127 (by decide) (fun c_298 => ?_) (fun c_298 => ?_)
        · have c_298 : 9 ≤ j := (nI_leI (a := 9) (b := j) (by omega) (by omega)).mp c_298
          have hz_j : 9 = j := by omega
          subst hz_j
          refine lv_iload hx hb dL_holds_238 (lv_at hl 6 rfl) ?_
          refine lv_aload_n hx hb dL_holds_240 rfl (lv_at hl 13 rfl) ?_
          refine lv_iload hx hb dL_holds_241 (lv_at hl 4 rfl) ?_
          refine ar_ld hx hb hK hP 6 rfl q (nI_clamp (by omega)) (vp_in_nI (by omega) (by omega)) dL_holds_243 ?_
          have hPc : va_P D vwCl ([]) H := hP.sub [] rfl
          have hDc : va_D A ([]) := hD.sub [] (by decide +kernel) rfl
          refine cl_i0 (va_runS (As := [.int ((upd (dnF (S 2) (fun _ => 0) i) q (orB (S 2 q) 9)) q)]) (rest := [.int (dsF (mnS S) i)]) ⟨hx, hb, hml, hown, hts⟩ (c_L_bits l D k ((upd (dnF (S 2) (fun _ => 0) i) q (orB (S 2 q) 9)) q) H.size) (va_cwS 1 hts gL_holds_L_bits rfl rfl rfl (by decide +kernel) ⟨Nat.le_of_ble_eq_true rfl, Nat.le_of_ble_eq_true rfl⟩) ⟨pr_blind, pr_at hN hPc hK hDc⟩ rfl rfl hl.1 rfl (lv_room (Nat.le_of_ble_eq_true rfl)) dL_holds_244 ⟨Nat.le_of_ble_eq_true rfl, Nat.le_of_ble_eq_true rfl⟩) hP hD hS hA [] rfl (fun H locs hP hD hS => ?_)
          clear hPc hDc
          refine lv_iadd hx hb dL_holds_247 ?_
          refine lv_istore (lv' := [(8, .int ((dsF (mnS S) i) + (mnF ((upd (dnF (S 2) (fun _ => 0) i) q (orB (S 2 q) 9)) q) 9))), (14, .int (nI 9)), (13, .int (cjtF (S 2) (nI q) 9)), (10, .int ((dsF (S 4) i) + ((upd (dnF (S 4) (fun _ => 0) i) q (S 4 q)) q))), (9, .int ((dsF (S 0) i) + (S 0 q))), (12, .int (nI q)), (11, .int 1), (7, .ref n_7), (6, .ref n_6), (5, .ref n_5), (4, .ref n_4), (3, .ref n_3), (2, .ref n_2), (1, .ref n_1), (0, .ref x0)]) hx hb dL_holds_248 hl (by decide) rfl (fun ls hl => ?_)
          refine lv_iload hx hb dL_holds_250 (lv_at hl 6 rfl) ?_
          refine lv_if_eq (tgt := 341) hx hb dL_holds_252 (by decide) (fun c_299 => ?_) (fun c_299 => ?_)
          · exact absurd c_299 (by decide)
          · refine lv_aload_n hx hb dL_holds_255 rfl (lv_at hl 14 rfl) ?_
            refine lv_iload hx hb dL_holds_256 (lv_at hl 5 rfl) ?_
            refine lv_iconst (v := 3) hx hb dL_holds_258 (by decide) ?_
            obtain ⟨X_300, hO_301, hM9⟩ := o_pieceOf_3 (l := l) (D := D) hSR hOb (q := q) (by omega)
            refine lo_I (n := 2) (As := [.int (nI q), .int 3]) (rest := []) hx hb hml hown hts hK hN hM9 (OX.at0 hOb) gL_holds_X4_pieceOf rfl (by decide +kernel) (by decide) dL_holds_259 rfl rfl (Nat.le_of_ble_eq_true rfl) hl.1 (Nat.le_of_ble_eq_true rfl) (Nat.le_of_ble_eq_true rfl) (Nat.le_of_ble_eq_true rfl) (Nat.le_of_ble_eq_true rfl) hP hD hS hA (fun H locs hP hD hS => ?_)
            clear hM9
            refine lv_iload hx hb dL_holds_262 (lv_at hl 2 rfl) ?_
            refine lv_icmp_ne (tgt := 341) hx hb dL_holds_264 (by decide) (fun c_302 => ?_) (fun c_302 => ?_)
            · exact absurd (rfl) c_302
            · refine lv_aload_n hx hb dL_holds_267 rfl (lv_at hl 14 rfl) ?_
              refine lv_iload hx hb dL_holds_268 (lv_at hl 5 rfl) ?_
              refine lv_iconst (v := 4) hx hb dL_holds_270 (by decide) ?_
              obtain ⟨X_303, hO_304, hM9⟩ := o_pieceOf_4 (l := l) (D := D) hSR hO_301 (q := q) (by omega)
              refine lo_I (n := 2) (As := [.int (nI q), .int 4]) (rest := []) hx hb hml hown hts hK hN hM9 (OX.at0 hO_301) gL_holds_X4_pieceOf rfl (by decide +kernel) (by decide) dL_holds_271 rfl rfl (Nat.le_of_ble_eq_true rfl) hl.1 (Nat.le_of_ble_eq_true rfl) (Nat.le_of_ble_eq_true rfl) (Nat.le_of_ble_eq_true rfl) (Nat.le_of_ble_eq_true rfl) hP hD hS hA (fun H locs hP hD hS => ?_)
              clear hM9
              refine lv_aload_n hx hb dL_holds_274 rfl (lv_at hl 13 rfl) ?_
              refine lv_iload hx hb dL_holds_275 (lv_at hl 5 rfl) ?_
              refine ar_ld hx hb hK hP 6 rfl q (nI_clamp (by omega)) (vp_in_nI (by omega) (by omega)) dL_holds_277 ?_
              have hPc : va_P D vwCl ([]) H := hP.sub [] rfl
              have hDc : va_D A ([]) := hD.sub [] (by decide +kernel) rfl
              refine cl_i0 (va_runS (As := [.int ((upd (dnF (S 2) (fun _ => 0) i) q (orB (S 2 q) 9)) q)]) (rest := [.int (bcF (S 2 q))]) ⟨hx, hb, hml, hown, hts⟩ (c_L_bits l D k ((upd (dnF (S 2) (fun _ => 0) i) q (orB (S 2 q) 9)) q) H.size) (va_cwS 1 hts gL_holds_L_bits rfl rfl rfl (by decide +kernel) ⟨Nat.le_of_ble_eq_true rfl, Nat.le_of_ble_eq_true rfl⟩) ⟨pr_blind, pr_at hN hPc hK hDc⟩ rfl rfl hl.1 rfl (lv_room (Nat.le_of_ble_eq_true rfl)) dL_holds_278 ⟨Nat.le_of_ble_eq_true rfl, Nat.le_of_ble_eq_true rfl⟩) hP hD hS hA [] rfl (fun H locs hP hD hS => ?_)
              clear hPc hDc
              refine lv_icmp_ne (tgt := 341) hx hb dL_holds_281 (by decide) (fun c_305 => ?_) (fun c_305 => ?_)
              · exact absurd (by rw [up_eq, orB_q hG hq9, mn_row hG hq9]) c_305
              · refine lv_aload_n hx hb dL_holds_284 rfl (lv_at hl 14 rfl) ?_
                refine lv_iload hx hb dL_holds_285 (lv_at hl 5 rfl) ?_
                refine lv_iconst (v := 5) hx hb dL_holds_287 (by decide) ?_
                obtain ⟨X_306, hO_307, hM9⟩ := o_pieceOf_5 (l := l) (D := D) hSR hO_304 (q := q) (by omega)
                refine lo_I (n := 2) (As := [.int (nI q), .int 5]) (rest := []) hx hb hml hown hts hK hN hM9 (OX.at0 hO_304) gL_holds_X4_pieceOf rfl (by decide +kernel) (by decide) dL_holds_288 rfl rfl (Nat.le_of_ble_eq_true rfl) hl.1 (Nat.le_of_ble_eq_true rfl) (Nat.le_of_ble_eq_true rfl) (Nat.le_of_ble_eq_true rfl) (Nat.le_of_ble_eq_true rfl) hP hD hS hA (fun H locs hP hD hS => ?_)
                clear hM9
                refine lv_aload hx hb dL_holds_291 (lv_at hl 9 rfl) ?_
                refine lv_iload hx hb dL_holds_293 (lv_at hl 5 rfl) ?_
                refine ar_ld hx hb hK hP 2 rfl q (nI_clamp (by omega)) (vp_in_nI (by omega) (by omega)) dL_holds_295 ?_
                have hPc : va_P D vwCl ([]) H := hP.sub [] rfl
                have hDc : va_D A ([]) := hD.sub [] (by decide +kernel) rfl
                refine cl_i0 (va_runS (As := [.int ((upd (dnF (bhG (S 2)) (fun _ => 0) i) q (beF (S 2) (bhG (S 2)) q 9)) q)]) (rest := [.int (bcF (bhG (S 2) q))]) ⟨hx, hb, hml, hown, hts⟩ (c_L_bits l D k ((upd (dnF (bhG (S 2)) (fun _ => 0) i) q (beF (S 2) (bhG (S 2)) q 9)) q) H.size) (va_cwS 1 hts gL_holds_L_bits rfl rfl rfl (by decide +kernel) ⟨Nat.le_of_ble_eq_true rfl, Nat.le_of_ble_eq_true rfl⟩) ⟨pr_blind, pr_at hN hPc hK hDc⟩ rfl rfl hl.1 rfl (lv_room (Nat.le_of_ble_eq_true rfl)) dL_holds_296 ⟨Nat.le_of_ble_eq_true rfl, Nat.le_of_ble_eq_true rfl⟩) hP hD hS hA [] rfl (fun H locs hP hD hS => ?_)
                clear hPc hDc
                refine lv_icmp_ne (tgt := 341) hx hb dL_holds_299 (by decide) (fun c_308 => ?_) (fun c_308 => ?_)
                · exact absurd (by rw [up_eq, beF_9 hG hq9, mn_bh hG hq9]) c_308
                · refine lv_aload hx hb dL_holds_302 (lv_at hl 10 rfl) ?_
                  refine lv_iload hx hb dL_holds_304 (lv_at hl 5 rfl) ?_
                  refine ar_ld hx hb hK hP 3 rfl q (nI_clamp (by omega)) (vp_in_nI (by omega) (by omega)) dL_holds_306 ?_
                  refine lv_if_lt (tgt := 341) hx hb dL_holds_307 (by decide) (fun c_309 => ?_) (fun c_309 => ?_)
                  · exact absurd c_309 (by rw [up_eq]; exact (rs_ok hSR hq9).1)
                  · refine lv_aload hx hb dL_holds_310 (lv_at hl 10 rfl) ?_
                    refine lv_iload hx hb dL_holds_312 (lv_at hl 5 rfl) ?_
                    refine ar_ld hx hb hK hP 3 rfl q (nI_clamp (by omega)) (vp_in_nI (by omega) (by omega)) dL_holds_314 ?_
                    refine lv_aload_n hx hb dL_holds_315 rfl (lv_at hl 14 rfl) ?_
                    refine lv_iload hx hb dL_holds_316 (lv_at hl 5 rfl) ?_
                    refine lv_iconst (v := 0) hx hb dL_holds_318 (by decide) ?_
                    obtain ⟨X_310, hO_311, hM9⟩ := o_pieceOf_0 (l := l) (D := D) hSR hO_307 (q := q) (by omega)
                    refine lo_I (n := 2) (As := [.int (nI q), .int 0]) (rest := [.int ((upd (dnF (S 4) (fun _ => 0) i) q (S 4 q)) q)]) hx hb hml hown hts hK hN hM9 (OX.at0 hO_307) gL_holds_X4_pieceOf rfl (by decide +kernel) (by decide) dL_holds_319 rfl rfl (Nat.le_of_ble_eq_true rfl) hl.1 (Nat.le_of_ble_eq_true rfl) (Nat.le_of_ble_eq_true rfl) (Nat.le_of_ble_eq_true rfl) (Nat.le_of_ble_eq_true rfl) hP hD hS hA (fun H locs hP hD hS => ?_)
                    clear hM9
                    refine lv_icmp_gt (tgt := 341) hx hb dL_holds_322 (by decide) (fun c_312 => ?_) (fun c_312 => ?_)
                    · exact absurd c_312 (by rw [up_eq]; exact (rs_ok hSR hq9).2)
                    · refine lv_aload_n hx hb dL_holds_325 rfl (lv_at hl 11 rfl) ?_
                      refine lv_iload hx hb dL_holds_326 (lv_at hl 5 rfl) ?_
                      refine ar_ld hx hb hK hP 4 rfl q (nI_clamp (by omega)) (vp_in_nI (by omega) (by omega)) dL_holds_328 ?_
                      refine lv_iload hx hb dL_holds_329 (lv_at hl 5 rfl) ?_
                      refine lv_ishr hx hb dL_holds_331 ?_
                      refine lv_iconst (v := 1) hx hb dL_holds_332 (by decide) ?_
                      refine lv_iand hx hb dL_holds_333 ?_
                      refine lv_if_ne (tgt := 341) hx hb dL_holds_334 (by decide) (fun c_313 => ?_) (fun c_313 => ?_)
                      · exact absurd (by rw [up_eq]; exact no_self2 hSR hBR hq9) c_313
                      · refine lv_iconst (v := 1) hx hb dL_holds_337 (by decide) ?_
                        refine lv_goto (tgt := 342) hx hb dL_holds_338 (by decide) ?_
                        refine lv_istore (lv' := [(11, .int 1), (8, .int ((dsF (mnS S) i) + (mnF ((upd (dnF (S 2) (fun _ => 0) i) q (orB (S 2 q) 9)) q) 9))), (14, .int (nI 9)), (13, .int (cjtF (S 2) (nI q) 9)), (10, .int ((dsF (S 4) i) + ((upd (dnF (S 4) (fun _ => 0) i) q (S 4 q)) q))), (9, .int ((dsF (S 0) i) + (S 0 q))), (12, .int (nI q)), (7, .ref n_7), (6, .ref n_6), (5, .ref n_5), (4, .ref n_4), (3, .ref n_3), (2, .ref n_2), (1, .ref n_1), (0, .ref x0)]) hx hb dL_holds_342 hl (by decide) rfl (fun ls hl => ?_)
                        refine lv_iinc (v := (nI q) + (-1)) (lv' := [(12, .int ((nI q) + (-1))), (11, .int 1), (8, .int ((dsF (mnS S) i) + (mnF ((upd (dnF (S 2) (fun _ => 0) i) q (orB (S 2 q) 9)) q) 9))), (14, .int (nI 9)), (13, .int (cjtF (S 2) (nI q) 9)), (10, .int ((dsF (S 4) i) + ((upd (dnF (S 4) (fun _ => 0) i) q (S 4 q)) q))), (9, .int ((dsF (S 0) i) + (S 0 q))), (7, .ref n_7), (6, .ref n_6), (5, .ref n_5), (4, .ref n_4), (3, .ref n_3), (2, .ref n_2), (1, .ref n_1), (0, .ref x0)]) hx hb dL_holds_344 hl (k := 6) rfl rfl (by decide) rfl (fun ls hl => ?_)
                        refine lv_goto (tgt := 55) hx hb dL_holds_347 (by decide) ?_
                        exact ih_i (i + 1) ((nI q) + (-1)) (upd (dnF (S 1) (fun _ => 0) i) q (S 1 q)) (upd (dnF (S 3) (fun _ => 0) i) q (S 3 q)) (upd (dnF (S 4) (fun _ => 0) i) q (S 4 q)) ((dsF (S 0) i) + (S 0 q)) ((dsF (S 4) i) + ((upd (dnF (S 4) (fun _ => 0) i) q (S 4 q)) q)) (upd (dnF (S 2) (fun _ => 0) i) q (orB (S 2 q) 9)) (upd (dnF (bhG (S 2)) (fun _ => 0) i) q (beF (S 2) (bhG (S 2)) q 9)) ((dsF (mnS S) i) + (mnF ((upd (dnF (S 2) (fun _ => 0) i) q (orB (S 2 q) 9)) q) 9)) X_310 (by omega) (by omega) (by rw [show 9 - (i + 1) = q from by omega]) (by exact dnF_s _ _ hq) (by exact dnF_s _ _ hq) (by exact dnF_s _ _ hq) (by rw [dsF, q8 hq]) (by rw [dsF, q8 hq, up_eq]) (by rw [orB_q hG hq9]; exact dnF_s _ _ hq) (by rw [beF_9 hG hq9]; exact dnF_s _ _ hq) (by rw [dsF, q8 hq, up_eq, orB_q hG hq9]; rfl) (hO_311) _ _ _ hP hD hS (lv_sub hl [0, 1, 5, 6, 2, 7, 8, 9, 10, 11, 12, 13, 14] rfl)
        · have c_298 : ¬ (9 ≤ j) := fun h9 => c_298 ((nI_leI (a := 9) (b := j) (by omega) (by omega)).mpr h9)
          refine lv_aload_n hx hb dL_holds_130 rfl (lv_at hl 13 rfl) ?_
          refine lv_iload hx hb dL_holds_131 (lv_at hl 4 rfl) ?_
          refine lv_dup2_11 hx hb dL_holds_133 rfl rfl ?_
          refine ar_ld hx hb hK hP 6 rfl q (nI_clamp (by omega)) (vp_in_nI (by omega) (by omega)) dL_holds_134 ?_
          refine lv_aload_n hx hb dL_holds_135 rfl (lv_at hl 14 rfl) ?_
          refine lv_iload hx hb dL_holds_136 (lv_at hl 4 rfl) ?_
          refine lv_iload hx hb dL_holds_138 (lv_at hl 0 rfl) ?_
          obtain ⟨X_314, hO_315, hM9⟩ := o_isJoined (l := l) (D := D) hSR hOb (q := q) (z := j) (by omega) (by omega)
          refine lo_I (n := 2) (As := [.int (nI q), .int (nI j)]) (rest := [.int ((upd (dnF (S 2) (fun _ => 0) i) q (orB (S 2 q) j)) q), .int (nI q), .ref n_1]) hx hb hml hown hts hK hN hM9 (OX.at0 hOb) gL_holds_X4_isJoined rfl (by decide +kernel) (by decide) dL_holds_140 rfl rfl (Nat.le_of_ble_eq_true rfl) hl.1 (Nat.le_of_ble_eq_true rfl) (Nat.le_of_ble_eq_true rfl) (Nat.le_of_ble_eq_true rfl) (Nat.le_of_ble_eq_true rfl) hP hD hS hA (fun H locs hP hD hS => ?_)
          clear hM9
          refine lv_iload hx hb dL_holds_143 (lv_at hl 0 rfl) ?_
          refine lv_ishl hx hb dL_holds_145 ?_
          refine lv_ior hx hb dL_holds_146 ?_
          refine ar_st hx hb hK hP hD hS 6 rfl q (nI_clamp (by omega)) (vp_in_nI (by omega) (by omega)) dL_holds_147 (wn := ([(n_7, .inl (k 0, 9, .inl (fun _ => 0))), (n_6, .inl (k 0, 9, .inl (fun _ => 0))), (n_5, .inl (k 0, 9, .inl (upd (dnF (bhG (S 2)) (fun _ => 0) i) q (beF (S 2) (bhG (S 2)) q j)))), (n_4, .inl (k 0, 9, .inl (upd (dnF (S 4) (fun _ => 0) i) q (S 4 q)))), (n_3, .inl (k 0, 9, .inl (upd (dnF (S 3) (fun _ => 0) i) q (S 3 q)))), (n_2, .inl (k 0, 9, .inl (upd (dnF (S 1) (fun _ => 0) i) q (S 1 q)))), (n_1, .inl (k 0, 9, .inl (upd (upd (dnF (S 2) (fun _ => 0) i) q (orB (S 2 q) j)) q (((upd (dnF (S 2) (fun _ => 0) i) q (orB (S 2 q) j)) q) ||| ((bitv (S 2 q) (nI j)) <<< ((nI j) &&& 31))))))] ++ (X_314))) rfl (fun H locs hP hD hS => ?_)
          refine lv_iload hx hb dL_holds_148 (lv_at hl 1 rfl) ?_
          refine lv_aload_n hx hb dL_holds_150 rfl (lv_at hl 14 rfl) ?_
          refine lv_iload hx hb dL_holds_151 (lv_at hl 0 rfl) ?_
          refine lv_iload hx hb dL_holds_153 (lv_at hl 4 rfl) ?_
          obtain ⟨X_316, hO_317, hM9⟩ := o_isJoined (l := l) (D := D) hSR hO_315 (q := j) (z := q) (by omega) (by omega)
          refine lo_I (n := 2) (As := [.int (nI j), .int (nI q)]) (rest := [.int (cjtF (S 2) (nI q) j)]) hx hb hml hown hts hK hN hM9 (OX.at0 hO_315) gL_holds_X4_isJoined rfl (by decide +kernel) (by decide) dL_holds_155 rfl rfl (Nat.le_of_ble_eq_true rfl) hl.1 (Nat.le_of_ble_eq_true rfl) (Nat.le_of_ble_eq_true rfl) (Nat.le_of_ble_eq_true rfl) (Nat.le_of_ble_eq_true rfl) hP hD hS hA (fun H locs hP hD hS => ?_)
          clear hM9
          refine lv_iadd hx hb dL_holds_158 ?_
          refine lv_istore (lv' := [(13, .int ((cjtF (S 2) (nI q) j) + (bitv (S 2 j) (nI q)))), (14, .int (nI j)), (10, .int ((dsF (S 4) i) + ((upd (dnF (S 4) (fun _ => 0) i) q (S 4 q)) q))), (9, .int ((dsF (S 0) i) + (S 0 q))), (12, .int (nI q)), (11, .int 1), (8, .int (dsF (mnS S) i)), (7, .ref n_7), (6, .ref n_6), (5, .ref n_5), (4, .ref n_4), (3, .ref n_3), (2, .ref n_2), (1, .ref n_1), (0, .ref x0)]) hx hb dL_holds_159 hl (by decide) rfl (fun ls hl => ?_)
          refine lv_aload hx hb dL_holds_161 (lv_at hl 9 rfl) ?_
          refine lv_iload hx hb dL_holds_163 (lv_at hl 4 rfl) ?_
          refine lv_dup2_11 hx hb dL_holds_165 rfl rfl ?_
          refine ar_ld hx hb hK hP 2 rfl q (nI_clamp (by omega)) (vp_in_nI (by omega) (by omega)) dL_holds_166 ?_
          refine lv_iload hx hb dL_holds_167 (lv_at hl 1 rfl) ?_
          refine lv_iload hx hb dL_holds_169 (lv_at hl 4 rfl) ?_
          refine lv_icmp_le (tgt := 199) hx hb dL_holds_171 (by decide) (fun c_318 => ?_) (fun c_318 => ?_)
          · have c_318 : j ≤ q := (nI_leI (a := j) (b := q) (by omega) (by omega)).mp c_318
            have hqj : ¬ q < j := by omega
            refine lv_iconst (v := 0) hx hb dL_holds_199 (by decide) ?_
            refine lv_ior hx hb dL_holds_200 ?_
            refine ar_st hx hb hK hP hD hS 2 rfl q (nI_clamp (by omega)) (vp_in_nI (by omega) (by omega)) dL_holds_201 (wn := ([(n_7, .inl (k 0, 9, .inl (fun _ => 0))), (n_6, .inl (k 0, 9, .inl (fun _ => 0))), (n_5, .inl (k 0, 9, .inl (upd (upd (dnF (bhG (S 2)) (fun _ => 0) i) q (beF (S 2) (bhG (S 2)) q j)) q (((upd (dnF (bhG (S 2)) (fun _ => 0) i) q (beF (S 2) (bhG (S 2)) q j)) q) ||| 0)))), (n_4, .inl (k 0, 9, .inl (upd (dnF (S 4) (fun _ => 0) i) q (S 4 q)))), (n_3, .inl (k 0, 9, .inl (upd (dnF (S 3) (fun _ => 0) i) q (S 3 q)))), (n_2, .inl (k 0, 9, .inl (upd (dnF (S 1) (fun _ => 0) i) q (S 1 q)))), (n_1, .inl (k 0, 9, .inl (upd (upd (dnF (S 2) (fun _ => 0) i) q (orB (S 2 q) j)) q (((upd (dnF (S 2) (fun _ => 0) i) q (orB (S 2 q) j)) q) ||| ((bitv (S 2 q) (nI j)) <<< ((nI j) &&& 31))))))] ++ (X_316))) rfl (fun H locs hP hD hS => ?_)
            refine lv_iload hx hb dL_holds_202 (lv_at hl 5 rfl) ?_
            refine lv_if_eq (tgt := 229) hx hb dL_holds_204 (by decide) (fun c_319 => ?_) (fun c_319 => ?_)
            · exact absurd c_319 (by decide)
            · refine lv_iload hx hb dL_holds_207 (lv_at hl 1 rfl) ?_
              refine lv_iload hx hb dL_holds_209 (lv_at hl 4 rfl) ?_
              refine lv_icmp_gt (tgt := 225) hx hb dL_holds_211 (by decide) (fun c_320 => ?_) (fun c_320 => ?_)
              · have c_320 : q < j := (nI_ltI (a := q) (b := j) (by omega) (by omega)).mp c_320
                exact absurd c_320 (hqj)
              · have c_320 : ¬ (q < j) := fun h9 => c_320 ((nI_ltI (a := q) (b := j) (by omega) (by omega)).mpr h9)
                refine lv_aload_n hx hb dL_holds_214 rfl (lv_at hl 14 rfl) ?_
                refine lv_iload hx hb dL_holds_215 (lv_at hl 4 rfl) ?_
                refine lv_iload hx hb dL_holds_217 (lv_at hl 1 rfl) ?_
                obtain ⟨X_321, hO_322, hM9⟩ := o_isJoined (l := l) (D := D) hSR hO_317 (q := q) (z := j) (by omega) (by omega)
                refine lo_I (n := 2) (As := [.int (nI q), .int (nI j)]) (rest := []) hx hb hml hown hts hK hN hM9 (OX.at0 hO_317) gL_holds_X4_isJoined rfl (by decide +kernel) (by decide) dL_holds_219 rfl rfl (Nat.le_of_ble_eq_true rfl) hl.1 (Nat.le_of_ble_eq_true rfl) (Nat.le_of_ble_eq_true rfl) (Nat.le_of_ble_eq_true rfl) (Nat.le_of_ble_eq_true rfl) hP hD hS hA (fun H locs hP hD hS => ?_)
                clear hM9
                refine lv_if_ne (tgt := 229) hx hb dL_holds_222 (by decide) (fun c_323 => ?_) (fun c_323 => ?_)
                · exact absurd c_323 (not_not_intro (jn_low hG hq9 (by omega) hqj))
                · refine lv_iconst (v := 1) hx hb dL_holds_225 (by decide) ?_
                  refine lv_goto (tgt := 230) hx hb dL_holds_226 (by decide) ?_
                  refine lv_istore (lv' := [(11, .int 1), (13, .int ((cjtF (S 2) (nI q) j) + (bitv (S 2 j) (nI q)))), (14, .int (nI j)), (10, .int ((dsF (S 4) i) + ((upd (dnF (S 4) (fun _ => 0) i) q (S 4 q)) q))), (9, .int ((dsF (S 0) i) + (S 0 q))), (12, .int (nI q)), (8, .int (dsF (mnS S) i)), (7, .ref n_7), (6, .ref n_6), (5, .ref n_5), (4, .ref n_4), (3, .ref n_3), (2, .ref n_2), (1, .ref n_1), (0, .ref x0)]) hx hb dL_holds_230 hl (by decide) rfl (fun ls hl => ?_)
                  refine lv_iinc (v := (nI (j + 1))) (lv' := [(14, .int (nI (j + 1))), (11, .int 1), (13, .int ((cjtF (S 2) (nI q) j) + (bitv (S 2 j) (nI q)))), (10, .int ((dsF (S 4) i) + ((upd (dnF (S 4) (fun _ => 0) i) q (S 4 q)) q))), (9, .int ((dsF (S 0) i) + (S 0 q))), (12, .int (nI q)), (8, .int (dsF (mnS S) i)), (7, .ref n_7), (6, .ref n_6), (5, .ref n_5), (4, .ref n_4), (3, .ref n_3), (2, .ref n_2), (1, .ref n_1), (0, .ref x0)]) hx hb dL_holds_232 hl (k := 2) rfl (nI_1 j) (by decide) rfl (fun ls hl => ?_)
                  refine lv_goto (tgt := 123) hx hb dL_holds_235 (by decide) ?_
                  exact ih_j (j + 1) (upd (upd (dnF (S 2) (fun _ => 0) i) q (orB (S 2 q) j)) q (((upd (dnF (S 2) (fun _ => 0) i) q (orB (S 2 q) j)) q) ||| ((bitv (S 2 q) (nI j)) <<< ((nI j) &&& 31)))) ((cjtF (S 2) (nI q) j) + (bitv (S 2 j) (nI q))) (upd (upd (dnF (bhG (S 2)) (fun _ => 0) i) q (beF (S 2) (bhG (S 2)) q j)) q (((upd (dnF (bhG (S 2)) (fun _ => 0) i) q (beF (S 2) (bhG (S 2)) q j)) q) ||| 0)) X_321 (by omega) (by omega) (by rw [up_up, up_eq, orB_s]) (by rw [cjtF]) (by rw [up_up, up_eq, beF, if_neg hqj]) (hO_322) _ _ _ hP hD hS (lv_sub hl [0, 2, 3, 4, 5, 1, 6, 7, 8, 9, 10, 11, 12, 13, 14] rfl)
          · have c_318 : ¬ (j ≤ q) := fun h9 => c_318 ((nI_leI (a := j) (b := q) (by omega) (by omega)).mpr h9)
            have hqj : q < j := by omega
            refine lv_aload_n hx hb dL_holds_174 rfl (lv_at hl 14 rfl) ?_
            refine lv_iload hx hb dL_holds_175 (lv_at hl 4 rfl) ?_
            refine lv_iload hx hb dL_holds_177 (lv_at hl 1 rfl) ?_
            obtain ⟨X_324, hO_325, hM9⟩ := o_isJoined (l := l) (D := D) hSR hO_317 (q := q) (z := j) (by omega) (by omega)
            refine lo_I (n := 2) (As := [.int (nI q), .int (nI j)]) (rest := [.int ((upd (dnF (bhG (S 2)) (fun _ => 0) i) q (beF (S 2) (bhG (S 2)) q j)) q), .int (nI q), .ref n_5]) hx hb hml hown hts hK hN hM9 (OX.at0 hO_317) gL_holds_X4_isJoined rfl (by decide +kernel) (by decide) dL_holds_179 rfl rfl (Nat.le_of_ble_eq_true rfl) hl.1 (Nat.le_of_ble_eq_true rfl) (Nat.le_of_ble_eq_true rfl) (Nat.le_of_ble_eq_true rfl) (Nat.le_of_ble_eq_true rfl) hP hD hS hA (fun H locs hP hD hS => ?_)
            clear hM9
            refine lv_iconst (v := 1) hx hb dL_holds_182 (by decide) ?_
            refine lv_icmp_ne (tgt := 199) hx hb dL_holds_183 (by decide) (fun c_326 => ?_) (fun c_326 => ?_)
            · have hjb : ¬ bitv (S 2 q) (nI j) = 1 := c_326
              refine lv_iconst (v := 0) hx hb dL_holds_199 (by decide) ?_
              refine lv_ior hx hb dL_holds_200 ?_
              refine ar_st hx hb hK hP hD hS 2 rfl q (nI_clamp (by omega)) (vp_in_nI (by omega) (by omega)) dL_holds_201 (wn := ([(n_7, .inl (k 0, 9, .inl (fun _ => 0))), (n_6, .inl (k 0, 9, .inl (fun _ => 0))), (n_5, .inl (k 0, 9, .inl (upd (upd (dnF (bhG (S 2)) (fun _ => 0) i) q (beF (S 2) (bhG (S 2)) q j)) q (((upd (dnF (bhG (S 2)) (fun _ => 0) i) q (beF (S 2) (bhG (S 2)) q j)) q) ||| 0)))), (n_4, .inl (k 0, 9, .inl (upd (dnF (S 4) (fun _ => 0) i) q (S 4 q)))), (n_3, .inl (k 0, 9, .inl (upd (dnF (S 3) (fun _ => 0) i) q (S 3 q)))), (n_2, .inl (k 0, 9, .inl (upd (dnF (S 1) (fun _ => 0) i) q (S 1 q)))), (n_1, .inl (k 0, 9, .inl (upd (upd (dnF (S 2) (fun _ => 0) i) q (orB (S 2 q) j)) q (((upd (dnF (S 2) (fun _ => 0) i) q (orB (S 2 q) j)) q) ||| ((bitv (S 2 q) (nI j)) <<< ((nI j) &&& 31))))))] ++ (X_324))) rfl (fun H locs hP hD hS => ?_)
              refine lv_iload hx hb dL_holds_202 (lv_at hl 5 rfl) ?_
              refine lv_if_eq (tgt := 229) hx hb dL_holds_204 (by decide) (fun c_327 => ?_) (fun c_327 => ?_)
              · exact absurd c_327 (by decide)
              · refine lv_iload hx hb dL_holds_207 (lv_at hl 1 rfl) ?_
                refine lv_iload hx hb dL_holds_209 (lv_at hl 4 rfl) ?_
                refine lv_icmp_gt (tgt := 225) hx hb dL_holds_211 (by decide) (fun c_328 => ?_) (fun c_328 => ?_)
                · have c_328 : q < j := (nI_ltI (a := q) (b := j) (by omega) (by omega)).mp c_328
                  refine lv_iconst (v := 1) hx hb dL_holds_225 (by decide) ?_
                  refine lv_goto (tgt := 230) hx hb dL_holds_226 (by decide) ?_
                  refine lv_istore (lv' := [(11, .int 1), (13, .int ((cjtF (S 2) (nI q) j) + (bitv (S 2 j) (nI q)))), (14, .int (nI j)), (10, .int ((dsF (S 4) i) + ((upd (dnF (S 4) (fun _ => 0) i) q (S 4 q)) q))), (9, .int ((dsF (S 0) i) + (S 0 q))), (12, .int (nI q)), (8, .int (dsF (mnS S) i)), (7, .ref n_7), (6, .ref n_6), (5, .ref n_5), (4, .ref n_4), (3, .ref n_3), (2, .ref n_2), (1, .ref n_1), (0, .ref x0)]) hx hb dL_holds_230 hl (by decide) rfl (fun ls hl => ?_)
                  refine lv_iinc (v := (nI (j + 1))) (lv' := [(14, .int (nI (j + 1))), (11, .int 1), (13, .int ((cjtF (S 2) (nI q) j) + (bitv (S 2 j) (nI q)))), (10, .int ((dsF (S 4) i) + ((upd (dnF (S 4) (fun _ => 0) i) q (S 4 q)) q))), (9, .int ((dsF (S 0) i) + (S 0 q))), (12, .int (nI q)), (8, .int (dsF (mnS S) i)), (7, .ref n_7), (6, .ref n_6), (5, .ref n_5), (4, .ref n_4), (3, .ref n_3), (2, .ref n_2), (1, .ref n_1), (0, .ref x0)]) hx hb dL_holds_232 hl (k := 2) rfl (nI_1 j) (by decide) rfl (fun ls hl => ?_)
                  refine lv_goto (tgt := 123) hx hb dL_holds_235 (by decide) ?_
                  exact ih_j (j + 1) (upd (upd (dnF (S 2) (fun _ => 0) i) q (orB (S 2 q) j)) q (((upd (dnF (S 2) (fun _ => 0) i) q (orB (S 2 q) j)) q) ||| ((bitv (S 2 q) (nI j)) <<< ((nI j) &&& 31)))) ((cjtF (S 2) (nI q) j) + (bitv (S 2 j) (nI q))) (upd (upd (dnF (bhG (S 2)) (fun _ => 0) i) q (beF (S 2) (bhG (S 2)) q j)) q (((upd (dnF (bhG (S 2)) (fun _ => 0) i) q (beF (S 2) (bhG (S 2)) q j)) q) ||| 0)) X_324 (by omega) (by omega) (by rw [up_up, up_eq, orB_s]) (by rw [cjtF]) (by rw [up_up, up_eq, beF, if_pos hqj, if_neg hjb]) (hO_325) _ _ _ hP hD hS (lv_sub hl [0, 2, 3, 4, 5, 1, 6, 7, 8, 9, 10, 11, 12, 13, 14] rfl)
                · have c_328 : ¬ (q < j) := fun h9 => c_328 ((nI_ltI (a := q) (b := j) (by omega) (by omega)).mpr h9)
                  exact absurd c_328 (not_not_intro hqj)
            · have hjb : bitv (S 2 q) (nI j) = 1 := c_326
              refine lv_iconst (v := 1) hx hb dL_holds_186 (by decide) ?_
              refine lv_iload hx hb dL_holds_187 (lv_at hl 1 rfl) ?_
              refine lv_ishl hx hb dL_holds_189 ?_
              refine lv_aload hx hb dL_holds_190 (lv_at hl 9 rfl) ?_
              refine lv_iload hx hb dL_holds_192 (lv_at hl 1 rfl) ?_
              refine ar_ld hx hb hK hP 2 rfl j (nI_clamp (by omega)) (vp_in_nI (by omega) (by omega)) dL_holds_194 ?_
              refine lv_ior hx hb dL_holds_195 ?_
              refine lv_goto (tgt := 200) hx hb dL_holds_196 (by decide) ?_
              refine lv_ior hx hb dL_holds_200 ?_
              refine ar_st hx hb hK hP hD hS 2 rfl q (nI_clamp (by omega)) (vp_in_nI (by omega) (by omega)) dL_holds_201 (wn := ([(n_7, .inl (k 0, 9, .inl (fun _ => 0))), (n_6, .inl (k 0, 9, .inl (fun _ => 0))), (n_5, .inl (k 0, 9, .inl (upd (upd (dnF (bhG (S 2)) (fun _ => 0) i) q (beF (S 2) (bhG (S 2)) q j)) q (((upd (dnF (bhG (S 2)) (fun _ => 0) i) q (beF (S 2) (bhG (S 2)) q j)) q) ||| ((1 <<< ((nI j) &&& 31)) ||| ((upd (dnF (bhG (S 2)) (fun _ => 0) i) q (beF (S 2) (bhG (S 2)) q j)) j)))))), (n_4, .inl (k 0, 9, .inl (upd (dnF (S 4) (fun _ => 0) i) q (S 4 q)))), (n_3, .inl (k 0, 9, .inl (upd (dnF (S 3) (fun _ => 0) i) q (S 3 q)))), (n_2, .inl (k 0, 9, .inl (upd (dnF (S 1) (fun _ => 0) i) q (S 1 q)))), (n_1, .inl (k 0, 9, .inl (upd (upd (dnF (S 2) (fun _ => 0) i) q (orB (S 2 q) j)) q (((upd (dnF (S 2) (fun _ => 0) i) q (orB (S 2 q) j)) q) ||| ((bitv (S 2 q) (nI j)) <<< ((nI j) &&& 31))))))] ++ (X_324))) rfl (fun H locs hP hD hS => ?_)
              refine lv_iload hx hb dL_holds_202 (lv_at hl 5 rfl) ?_
              refine lv_if_eq (tgt := 229) hx hb dL_holds_204 (by decide) (fun c_329 => ?_) (fun c_329 => ?_)
              · exact absurd c_329 (by decide)
              · refine lv_iload hx hb dL_holds_207 (lv_at hl 1 rfl) ?_
                refine lv_iload hx hb dL_holds_209 (lv_at hl 4 rfl) ?_
                refine lv_icmp_gt (tgt := 225) hx hb dL_holds_211 (by decide) (fun c_330 => ?_) (fun c_330 => ?_)
                · have c_330 : q < j := (nI_ltI (a := q) (b := j) (by omega) (by omega)).mp c_330
                  refine lv_iconst (v := 1) hx hb dL_holds_225 (by decide) ?_
                  refine lv_goto (tgt := 230) hx hb dL_holds_226 (by decide) ?_
                  refine lv_istore (lv' := [(11, .int 1), (13, .int ((cjtF (S 2) (nI q) j) + (bitv (S 2 j) (nI q)))), (14, .int (nI j)), (10, .int ((dsF (S 4) i) + ((upd (dnF (S 4) (fun _ => 0) i) q (S 4 q)) q))), (9, .int ((dsF (S 0) i) + (S 0 q))), (12, .int (nI q)), (8, .int (dsF (mnS S) i)), (7, .ref n_7), (6, .ref n_6), (5, .ref n_5), (4, .ref n_4), (3, .ref n_3), (2, .ref n_2), (1, .ref n_1), (0, .ref x0)]) hx hb dL_holds_230 hl (by decide) rfl (fun ls hl => ?_)
                  refine lv_iinc (v := (nI (j + 1))) (lv' := [(14, .int (nI (j + 1))), (11, .int 1), (13, .int ((cjtF (S 2) (nI q) j) + (bitv (S 2 j) (nI q)))), (10, .int ((dsF (S 4) i) + ((upd (dnF (S 4) (fun _ => 0) i) q (S 4 q)) q))), (9, .int ((dsF (S 0) i) + (S 0 q))), (12, .int (nI q)), (8, .int (dsF (mnS S) i)), (7, .ref n_7), (6, .ref n_6), (5, .ref n_5), (4, .ref n_4), (3, .ref n_3), (2, .ref n_2), (1, .ref n_1), (0, .ref x0)]) hx hb dL_holds_232 hl (k := 2) rfl (nI_1 j) (by decide) rfl (fun ls hl => ?_)
                  refine lv_goto (tgt := 123) hx hb dL_holds_235 (by decide) ?_
                  exact ih_j (j + 1) (upd (upd (dnF (S 2) (fun _ => 0) i) q (orB (S 2 q) j)) q (((upd (dnF (S 2) (fun _ => 0) i) q (orB (S 2 q) j)) q) ||| ((bitv (S 2 q) (nI j)) <<< ((nI j) &&& 31)))) ((cjtF (S 2) (nI q) j) + (bitv (S 2 j) (nI q))) (upd (upd (dnF (bhG (S 2)) (fun _ => 0) i) q (beF (S 2) (bhG (S 2)) q j)) q (((upd (dnF (bhG (S 2)) (fun _ => 0) i) q (beF (S 2) (bhG (S 2)) q j)) q) ||| ((1 <<< ((nI j) &&& 31)) ||| ((upd (dnF (bhG (S 2)) (fun _ => 0) i) q (beF (S 2) (bhG (S 2)) q j)) j)))) X_324 (by omega) (by omega) (by rw [up_up, up_eq, orB_s]) (by rw [cjtF]) (by rw [up_up, up_eq, up_ne _ _ (show j ≠ q from by omega), dnF_in _ _ (show 9 - i ≤ j from by omega) (by omega), beF, if_pos hqj, if_pos hjb]) (hO_325) _ _ _ hP hD hS (lv_sub hl [0, 2, 3, 4, 5, 1, 6, 7, 8, 9, 10, 11, 12, 13, 14] rfl)
                · have c_330 : ¬ (q < j) := fun h9 => c_330 ((nI_ltI (a := q) (b := j) (by omega) (by omega)).mpr h9)
                  exact absurd c_330 (not_not_intro hqj)
