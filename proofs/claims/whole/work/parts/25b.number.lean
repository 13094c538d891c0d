set_option maxHeartbeats 1000000 in
set_option maxRecDepth 100000 in
theorem c_X5_behindNumber (l : Launch) (D : va_G) (k : Nat → ClassId) (h : Nat → Nat) (th : Int32) (f asd sl kp sv : Nat → Int32) (sm : Int32) (tx : Nat → Int32) (ln : Nat) (dg : Int64) (i : Nat) (hln : ln ≤ 60) (hi : i ≤ 65) : MI l yX5_behindNumber wsX5_behindNumber ({ frames := 2, cells := 0, slots := 0, locals := 42 }) D k [.ref (h 0), .int (nI i)] (wMo k h th f asd sl kp sv sm tx (nI ln) dg) (nI (bnM tx ln i)) (wMo k h th f asd sl kp sv sm tx (nI ln) dg) := by
  intro sz
  refine Met.ofW (cc := cX5_behindNumber) (maxL := 3) (ret := (some .int)) (by decide) rfl ?_
  intro p e s m args below meth c s₁ B hml hv
  obtain ⟨rfl, hN, hsz, hP, hK, hD0⟩ := hv
  have hx := B.exec
  have hb := B.bytes
  have hr := B.returns
  have hts := atoms_spec (ws := wsX5_behindNumber) B.pre
  have hown : s.vm.findClass RX5 = some m.cls := findClass_of_methodNamed B.named
  have hlocks := B.notSynchronized
  subst hsz
  have hD := hD0.self (sz := s.heap.size)
  generalize hAe : va_A (wMo k h th f asd sl kp sv sm tx (nI ln) dg) s.heap.size = A at hD ⊢
  have hA : ∀ q : Nat, s.heap.size ≤ q → A q := fun q h => by rw [← hAe]; exact Or.inr h
  have hS : va_S A s.heap s.heap [] := va_S.rf
  have hl := lv_entry ([.ref (h 0), .int (nI i)]) (n := 3) (Nat.le_of_ble_eq_true rfl)
  rw [lg_entry_eq]
  generalize (lg_sl ([.ref (h 0), .int (nI i)]) ++ List.replicate (3 - (lg_sl ([.ref (h 0), .int (nI i)])).length) Slot.unset).toArray = ls at hl ⊢
  have hl : lv_has ls 3 [(0, .ref (h 0)), (1, .int (nI i))] := hl
  obtain ⟨H, hHe⟩ : ∃ H, H = s.heap := ⟨_, rfl⟩
  have hP : va_P D vwCl (wMo k h th f asd sl kp sv sm tx (nI ln) dg) H := by rw [hHe]; exact hP
  have hS : va_S A s.heap H [] := by rw [hHe]; exact hS
  rw [← hHe]
  refine absQ (fun Q hQ => ?_)
  refine lv_iload_n hx hb dX5_behindNumber_0 rfl (lv_at hl 1 rfl) ?_
  refine lv_istore_n (lv' := [(2, .int (nI i)), (0, .ref (h 0)), (1, .int (nI i))]) hx hb dX5_behindNumber_1 rfl hl (by decide) rfl (fun ls hl => ?_)
  suffices LOOP_j : ∀ (fu_j j : Nat) , (i + 3) - j < fu_j → j ≤ (i + 3) → (bnR tx ln i (i + 3 - j) j = bnM tx ln i) → (i ≤ j) → ∀ (H : Heap) (locs : List Loc) (ls : Array Slot), va_P D vwCl (wMo k h th f asd sl kp sv sm tx (nI ln) dg) H → va_D A (wMo k h th f asd sl kp sv sm tx (nI ln) dg) → va_S A s.heap H locs → lv_has ls 3 [(2, .int (nI j)), (0, .ref (h 0)), (1, .int (nI i))] → W p l e ({ frames := 2, cells := 0, slots := 0, locals := 42 } : Room) s m ([.ref (h 0), .int (nI i)] : List Value).toArray below meth c H locs 0 0 Q (F0 m 2 ls []) from LOOP_j ((i + 3) + 1) i  (by omega) (by omega)  (by rw [show i + 3 - i = 3 from by omega]; rfl) (by omega) _ _ _ hP hD hS (lv_sub hl [0, 1, 2] rfl)
  clear hP hD hS hl hHe
  intro fu_j
  induction fu_j with
  | zero => intro j  hn_j; omega
  | succ fu_j ih_j =>
    intro j  hn_j hle_j  hv hlo_j H locs ls hP hD hS hl
    refine lv_aload_n hx hb dX5_behindNumber_2 rfl (lv_at hl 1 rfl) ?_
    refine lv_iload_n hx hb dX5_behindNumber_3 rfl (lv_at hl 0 rfl) ?_
    have hPc : va_P D vwCl (wMo k h th f asd sl kp sv sm tx (nI ln) dg) H := hP.sub [0, 1, 2, 3, 4, 5, 6] rfl
    have hDc : va_D A (wMo k h th f asd sl kp sv sm tx (nI ln) dg) := hD.sub [0, 1, 2, 3, 4, 5, 6] (by decide +kernel) rfl
    refine cl_i0 (va_runV (As := [.int (nI j)]) (rest := []) ⟨hx, hb, hml, hown, hts⟩ (c_X5_digitAt l D k h th f asd sl kp sv sm tx ln dg j hln (by omega) H.size) (cwV 1 hts gX5_behindNumber_X5_digitAt rfl rfl rfl (by decide +kernel) ⟨Nat.le_of_ble_eq_true rfl, Nat.le_of_ble_eq_true rfl⟩) ⟨pr_blind, va_recv hK hP (ci := 5) (q0 := 0) rfl rfl, pr_at hN hPc hK hDc⟩ rfl rfl hl.1 rfl (lv_room (Nat.le_of_ble_eq_true rfl)) dX5_behindNumber_4 ⟨Nat.le_of_ble_eq_true rfl, Nat.le_of_ble_eq_true rfl⟩) hP hD hS hA [0, 1, 2, 3, 4, 5, 6] rfl (fun H locs hP hD hS => ?_)
    clear hPc hDc
    refine lv_iconst (v := 0) hx hb dX5_behindNumber_7 (by decide) ?_
    refine lv_bipush (v := 9) hx hb dX5_behindNumber_8 (by decide) ?_
    have hPc : va_P D vwCl ([]) H := hP.sub [] rfl
    have hDc : va_D A ([]) := hD.sub [] (by decide +kernel) rfl
    refine cl_i0 (va_runS (As := [.int (dgM tx ln j), .int 0, .int 9]) (rest := []) ⟨hx, hb, hml, hown, hts⟩ (c_X5_in l D k (dgM tx ln j) 0 9 H.size) (va_cwS 3 hts gX5_behindNumber_X5_in rfl rfl rfl (by decide +kernel) ⟨Nat.le_of_ble_eq_true rfl, Nat.le_of_ble_eq_true rfl⟩) ⟨pr_blind, pr_at hN hPc hK hDc⟩ rfl rfl hl.1 rfl (lv_room (Nat.le_of_ble_eq_true rfl)) dX5_behindNumber_10 ⟨Nat.le_of_ble_eq_true rfl, Nat.le_of_ble_eq_true rfl⟩) hP hD hS hA [] rfl (fun H locs hP hD hS => ?_)
    clear hPc hDc
    refine lv_if_eq (tgt := 42) hx hb dX5_behindNumber_13 (by decide) (fun c_1 => ?_) (fun c_1 => ?_)
    · have c_1 := bI_eq.mp c_1
      refine lv_iload_n hx hb dX5_behindNumber_42 rfl (lv_at hl 0 rfl) ?_
      subst hQ
      exact rt_i hx hb hr hlocks hS dX5_behindNumber_43 (hP) (by rw [← hv, bnR_f tx ln i _ j (fun h9 => by rw [c_1] at h9; exact absurd h9.1 (by decide))])
    · have c_1 := bI_ne.mp c_1
      refine lv_iload_n hx hb dX5_behindNumber_16 rfl (lv_at hl 0 rfl) ?_
      refine lv_iload_n hx hb dX5_behindNumber_17 rfl (lv_at hl 2 rfl) ?_
      refine lv_iconst (v := 3) hx hb dX5_behindNumber_18 (by decide) ?_
      refine lv_iadd hx hb dX5_behindNumber_19 ?_
      refine tp_e (y := (nI (i + 3))) (nI_add i 3) ?_
      refine lv_icmp_ge (tgt := 42) hx hb dX5_behindNumber_20 (by decide) (fun c_2 => ?_) (fun c_2 => ?_)
      · have c_2 : i + 3 ≤ j := (nI_leI (a := i + 3) (b := j) (by omega) (by omega)).mp c_2
        refine lv_iload_n hx hb dX5_behindNumber_42 rfl (lv_at hl 0 rfl) ?_
        subst hQ
        exact rt_i hx hb hr hlocks hS dX5_behindNumber_43 (hP) (by rw [← hv, show i + 3 - j = 0 from by omega]; rfl)
      · have c_2 : ¬ (i + 3 ≤ j) := fun h9 => c_2 ((nI_leI (a := i + 3) (b := j) (by omega) (by omega)).mpr h9)
        refine lv_iload_n hx hb dX5_behindNumber_23 rfl (lv_at hl 0 rfl) ?_
        refine lv_iload_n hx hb dX5_behindNumber_24 rfl (lv_at hl 2 rfl) ?_
        refine lv_icmp_eq (tgt := 36) hx hb dX5_behindNumber_25 (by decide) (fun c_3 => ?_) (fun c_3 => ?_)
        · have c_3 : j = i := (nI_eq (a := j) (b := i) (by omega) (by omega)).mp c_3
          refine lv_iinc (v := (nI (j + 1))) (lv' := [(2, .int (nI (j + 1))), (0, .ref (h 0)), (1, .int (nI i))]) hx hb dX5_behindNumber_36 hl (k := 0) rfl (nI_1 j) (by decide) rfl (fun ls hl => ?_)
          refine lv_goto (tgt := 2) hx hb dX5_behindNumber_39 (by decide) ?_
          exact ih_j (j + 1)  (by omega) (by omega)  (by rw [← hv, bnR_s tx ln i j (by omega), if_pos ⟨c_1, Or.inl (by omega)⟩]) (by omega) _ _ _ hP hD hS (lv_sub hl [0, 1, 2] rfl)
        · have c_3 : ¬ (j = i) := fun h9 => c_3 ((nI_eq (a := j) (b := i) (by omega) (by omega)).mpr h9)
          refine lv_aload_n hx hb dX5_behindNumber_28 rfl (lv_at hl 1 rfl) ?_
          refine lv_iload_n hx hb dX5_behindNumber_29 rfl (lv_at hl 2 rfl) ?_
          have hPc : va_P D vwCl (wMo k h th f asd sl kp sv sm tx (nI ln) dg) H := hP.sub [0, 1, 2, 3, 4, 5, 6] rfl
          have hDc : va_D A (wMo k h th f asd sl kp sv sm tx (nI ln) dg) := hD.sub [0, 1, 2, 3, 4, 5, 6] (by decide +kernel) rfl
          refine cl_i0 (va_runV (As := [.int (nI i)]) (rest := []) ⟨hx, hb, hml, hown, hts⟩ (c_X5_digitAt l D k h th f asd sl kp sv sm tx ln dg i hln (by omega) H.size) (cwV 1 hts gX5_behindNumber_X5_digitAt rfl rfl rfl (by decide +kernel) ⟨Nat.le_of_ble_eq_true rfl, Nat.le_of_ble_eq_true rfl⟩) ⟨pr_blind, va_recv hK hP (ci := 5) (q0 := 0) rfl rfl, pr_at hN hPc hK hDc⟩ rfl rfl hl.1 rfl (lv_room (Nat.le_of_ble_eq_true rfl)) dX5_behindNumber_30 ⟨Nat.le_of_ble_eq_true rfl, Nat.le_of_ble_eq_true rfl⟩) hP hD hS hA [0, 1, 2, 3, 4, 5, 6] rfl (fun H locs hP hD hS => ?_)
          clear hPc hDc
          refine lv_if_le (tgt := 42) hx hb dX5_behindNumber_33 (by decide) (fun c_4 => ?_) (fun c_4 => ?_)
          · refine lv_iload_n hx hb dX5_behindNumber_42 rfl (lv_at hl 0 rfl) ?_
            subst hQ
            exact rt_i hx hb hr hlocks hS dX5_behindNumber_43 (hP) (by rw [← hv, bnR_f tx ln i _ j (fun h9 => h9.2.elim (by omega) (fun h8 => absurd h8 (by first | exact c_4 | exact Int32.not_lt.mpr c_4)))])
          · refine lv_iinc (v := (nI (j + 1))) (lv' := [(2, .int (nI (j + 1))), (0, .ref (h 0)), (1, .int (nI i))]) hx hb dX5_behindNumber_36 hl (k := 0) rfl (nI_1 j) (by decide) rfl (fun ls hl => ?_)
            refine lv_goto (tgt := 2) hx hb dX5_behindNumber_39 (by decide) ?_
            exact ih_j (j + 1)  (by omega) (by omega)  (by rw [← hv, bnR_s tx ln i j (by omega), if_pos ⟨c_1, Or.inr (by first | exact c_4 | exact Int32.not_le.mp c_4)⟩]) (by omega) _ _ _ hP hD hS (lv_sub hl [0, 1, 2] rfl)
