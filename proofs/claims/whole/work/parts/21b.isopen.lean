set_option maxHeartbeats 1000000 in
set_option maxRecDepth 100000 in
theorem c_X5_isOpen (l : Launch) (D : va_G) (k : Nat → ClassId) (h : Nat → Nat) (th : Int32) (f asd sl kp sv : Nat → Int32) (sm : Int32) (tx : Nat → Int32) (ln : Int32) (dg : Int64) (x : Int32)  : MI l yX5_isOpen wsX5_isOpen ({ frames := 1, cells := 0, slots := 0, locals := 24 }) D k [.ref (h 0), .int x] (wMo k h th f asd sl kp sv sm tx ln dg) (bI (ioB f x)) (wMo k h th f asd sl kp sv sm tx ln dg) := by
  intro sz
  refine Met.ofW (cc := cX5_isOpen) (maxL := 4) (ret := (some .boolean)) (by decide) rfl ?_
  intro p e s m args below meth c s₁ B hml hv
  obtain ⟨rfl, hN, hsz, hP, hK, hD0⟩ := hv
  have hx := B.exec
  have hb := B.bytes
  have hr := B.returns
  have hts := atoms_spec (ws := wsX5_isOpen) B.pre
  have hown : s.vm.findClass RX5 = some m.cls := findClass_of_methodNamed B.named
  have hlocks := B.notSynchronized
  subst hsz
  have hD := hD0.self (sz := s.heap.size)
  generalize hAe : va_A (wMo k h th f asd sl kp sv sm tx ln dg) s.heap.size = A at hD ⊢
  have hA : ∀ q : Nat, s.heap.size ≤ q → A q := fun q h => by rw [← hAe]; exact Or.inr h
  have hS : va_S A s.heap s.heap [] := va_S.rf
  have hl := lv_entry ([.ref (h 0), .int x]) (n := 4) (Nat.le_of_ble_eq_true rfl)
  rw [lg_entry_eq]
  generalize (lg_sl ([.ref (h 0), .int x]) ++ List.replicate (4 - (lg_sl ([.ref (h 0), .int x])).length) Slot.unset).toArray = ls at hl ⊢
  have hl : lv_has ls 4 [(0, .ref (h 0)), (1, .int x)] := hl
  obtain ⟨H, hHe⟩ : ∃ H, H = s.heap := ⟨_, rfl⟩
  have hP : va_P D vwCl (wMo k h th f asd sl kp sv sm tx ln dg) H := by rw [hHe]; exact hP
  have hS : va_S A s.heap H [] := by rw [hHe]; exact hS
  rw [← hHe]
  refine absQ (fun Q hQ => ?_)
  refine lv_aload_n hx hb dX5_isOpen_0 rfl (lv_at hl 0 rfl) ?_
  refine lv_iload_n hx hb dX5_isOpen_1 rfl (lv_at hl 1 rfl) ?_
  have hPc : va_P D vwCl (wMo k h th f asd sl kp sv sm tx ln dg) H := hP.sub [0, 1, 2, 3, 4, 5, 6] rfl
  have hDc : va_D A (wMo k h th f asd sl kp sv sm tx ln dg) := hD.sub [0, 1, 2, 3, 4, 5, 6] (by decide +kernel) rfl
  refine cl_i0 (va_runV (As := [.int x]) (rest := []) ⟨hx, hb, hml, hown, hts⟩ (c_X5_isWay l D k h th f asd sl kp sv sm tx ln dg x H.size) (cwV 1 hts gX5_isOpen_X5_isWay rfl rfl rfl (by decide +kernel) ⟨Nat.le_of_ble_eq_true rfl, Nat.le_of_ble_eq_true rfl⟩) ⟨pr_blind, va_recv hK hP (ci := 5) (q0 := 0) rfl rfl, pr_at hN hPc hK hDc⟩ rfl rfl hl.1 rfl (lv_room (Nat.le_of_ble_eq_true rfl)) dX5_isOpen_2 ⟨Nat.le_of_ble_eq_true rfl, Nat.le_of_ble_eq_true rfl⟩) hP hD hS hA [0, 1, 2, 3, 4, 5, 6] rfl (fun H locs hP hD hS => ?_)
  clear hPc hDc
  refine lv_istore_n (lv' := [(2, .int (bI (iwB f x))), (0, .ref (h 0)), (1, .int x)]) hx hb dX5_isOpen_5 rfl hl (by decide) rfl (fun ls hl => ?_)
  refine lv_iconst (v := 0) hx hb dX5_isOpen_6 (by decide) ?_
  refine lv_istore_n (lv' := [(3, .int 0), (2, .int (bI (iwB f x))), (0, .ref (h 0)), (1, .int x)]) hx hb dX5_isOpen_7 rfl hl (by decide) rfl (fun ls hl => ?_)
  suffices LOOP_i : ∀ (fu_i i : Nat) (z : Int32), 9 - i < fu_i → i ≤ 9 → z = bI (ioS f x i) → ∀ (H : Heap) (locs : List Loc) (ls : Array Slot), va_P D vwCl (wMo k h th f asd sl kp sv sm tx ln dg) H → va_D A (wMo k h th f asd sl kp sv sm tx ln dg) → va_S A s.heap H locs → lv_has ls 4 [(3, .int (nI i)), (2, .int z), (0, .ref (h 0)), (1, .int x)] → W p l e ({ frames := 1, cells := 0, slots := 0, locals := 24 } : Room) s m ([.ref (h 0), .int x] : List Value).toArray below meth c H locs 0 0 Q (F0 m 8 ls []) from LOOP_i (9 + 1) 0 (bI (iwB f x)) (by omega) (by omega) (rfl)  _ _ _ hP hD hS (lv_sub hl [0, 1, 2, 3] rfl)
  clear hP hD hS hl hHe
  intro fu_i
  induction fu_i with
  | zero => intro i z hn_i; omega
  | succ fu_i ih_i =>
    intro i z hn_i hle_i e_z  H locs ls hP hD hS hl
    refine lv_iload_n hx hb dX5_isOpen_8 rfl (lv_at hl 0 rfl) ?_
    refine lv_bipush (v := 9) hx hb dX5_isOpen_9 (by decide) ?_
    refine lv_icmp_ge (tgt := 52) hx hb dX5_isOpen_11 (by decide) (fun c_1 => ?_) (fun c_1 => ?_)
    · have c_1 : 9 ≤ i := (nI_leI (a := 9) (b := i) (by omega) (by omega)).mp c_1
      have hz_i : 9 = i := by omega
      subst hz_i
      refine lv_iload_n hx hb dX5_isOpen_52 rfl (lv_at hl 1 rfl) ?_
      subst hQ
      exact rt_z hx hb hr hlocks hS dX5_isOpen_53 (hP) (by rw [e_z]; exact bI_nar _) (e_z)
    · have c_1 : ¬ (9 ≤ i) := fun h9 => c_1 ((nI_leI (a := 9) (b := i) (by omega) (by omega)).mpr h9)
      refine lv_iload_n hx hb dX5_isOpen_14 rfl (lv_at hl 1 rfl) ?_
      refine lv_if_eq (tgt := 52) hx hb dX5_isOpen_15 (by decide) (fun c_2 => ?_) (fun c_2 => ?_)
      · have hz := bI_0 e_z c_2
        refine lv_iload_n hx hb dX5_isOpen_52 rfl (lv_at hl 1 rfl) ?_
        subst hQ
        exact rt_z hx hb hr hlocks hS dX5_isOpen_53 (hP) (by rw [e_z]; exact bI_nar _) (by rw [e_z, hz, show ioB f x = false from by have h9 := ioS_stop f x hz (9 - i); rwa [show i + (9 - i) = 9 from by omega] at h9])
      · have hz := bI_1 e_z c_2
        refine lv_iload_n hx hb dX5_isOpen_18 rfl (lv_at hl 3 rfl) ?_
        refine lv_iload_n hx hb dX5_isOpen_19 rfl (lv_at hl 0 rfl) ?_
        refine lv_ishr hx hb dX5_isOpen_20 ?_
        refine lv_iconst (v := 1) hx hb dX5_isOpen_21 (by decide) ?_
        refine lv_iand hx hb dX5_isOpen_22 ?_
        refine lv_if_eq (tgt := 40) hx hb dX5_isOpen_23 (by decide) (fun c_3 => ?_) (fun c_3 => ?_)
        · refine lv_iconst (v := 1) hx hb dX5_isOpen_40 (by decide) ?_
          refine lv_goto (tgt := 45) hx hb dX5_isOpen_41 (by decide) ?_
          refine lv_istore_n (lv' := [(2, .int 1), (3, .int (nI i)), (0, .ref (h 0)), (1, .int x)]) hx hb dX5_isOpen_45 rfl hl (by decide) rfl (fun ls hl => ?_)
          refine lv_iinc (v := (nI (i + 1))) (lv' := [(3, .int (nI (i + 1))), (2, .int 1), (0, .ref (h 0)), (1, .int x)]) hx hb dX5_isOpen_46 hl (k := 1) rfl (nI_1 i) (by decide) rfl (fun ls hl => ?_)
          refine lv_goto (tgt := 8) hx hb dX5_isOpen_49 (by decide) ?_
          exact ih_i (i + 1) 1 (by omega) (by omega) (by rw [ioS, hz]; simp [bI, show bitv x (nI i) = 0 from c_3])  _ _ _ hP hD hS (lv_sub hl [0, 1, 2, 3] rfl)
        · refine lv_aload_n hx hb dX5_isOpen_26 rfl (lv_at hl 2 rfl) ?_
          refine va_get (D := D) (ci := 5) (v := .ref (h 1)) (C := RX5) (T := TX5) (N := 10) hx hb hts (fun _ h9 => (List.mem_cons_of_mem _ (List.mem_append_right _ h9))) hown hK hP 0 rfl rfl 1 (by decide) (hts _ (List.mem_of_getElem? (i := 1) rfl)) (fun _ h9 => h9) rfl dX5_isOpen_27 ?_
          refine lv_bipush (v := 36) hx hb dX5_isOpen_30 (by decide) ?_
          refine lv_iload_n hx hb dX5_isOpen_32 rfl (lv_at hl 0 rfl) ?_
          refine lv_iadd hx hb dX5_isOpen_33 ?_
          refine tp_e (y := (nI (36 + i))) (nI_add 36 i) ?_
          refine ar_ld hx hb hK hP 1 rfl (36 + i) (nI_clamp (by omega)) (vp_in_nI (by omega) (by omega)) dX5_isOpen_34 ?_
          refine lv_iload_n hx hb dX5_isOpen_35 rfl (lv_at hl 3 rfl) ?_
          refine lv_iand hx hb dX5_isOpen_36 ?_
          refine lv_if_ne (tgt := 44) hx hb dX5_isOpen_37 (by decide) (fun c_4 => ?_) (fun c_4 => ?_)
          · refine lv_iconst (v := 0) hx hb dX5_isOpen_44 (by decide) ?_
            refine lv_istore_n (lv' := [(2, .int 0), (3, .int (nI i)), (0, .ref (h 0)), (1, .int x)]) hx hb dX5_isOpen_45 rfl hl (by decide) rfl (fun ls hl => ?_)
            refine lv_iinc (v := (nI (i + 1))) (lv' := [(3, .int (nI (i + 1))), (2, .int 0), (0, .ref (h 0)), (1, .int x)]) hx hb dX5_isOpen_46 hl (k := 1) rfl (nI_1 i) (by decide) rfl (fun ls hl => ?_)
            refine lv_goto (tgt := 8) hx hb dX5_isOpen_49 (by decide) ?_
            exact ih_i (i + 1) 0 (by omega) (by omega) (by rw [ioS, hz]; simp [bI, show ¬ bitv x (nI i) = 0 from c_3, c_4])  _ _ _ hP hD hS (lv_sub hl [0, 1, 2, 3] rfl)
          · refine lv_iconst (v := 1) hx hb dX5_isOpen_40 (by decide) ?_
            refine lv_goto (tgt := 45) hx hb dX5_isOpen_41 (by decide) ?_
            refine lv_istore_n (lv' := [(2, .int 1), (3, .int (nI i)), (0, .ref (h 0)), (1, .int x)]) hx hb dX5_isOpen_45 rfl hl (by decide) rfl (fun ls hl => ?_)
            refine lv_iinc (v := (nI (i + 1))) (lv' := [(3, .int (nI (i + 1))), (2, .int 1), (0, .ref (h 0)), (1, .int x)]) hx hb dX5_isOpen_46 hl (k := 1) rfl (nI_1 i) (by decide) rfl (fun ls hl => ?_)
            refine lv_goto (tgt := 8) hx hb dX5_isOpen_49 (by decide) ?_
            exact ih_i (i + 1) 1 (by omega) (by omega) (by rw [ioS, hz]; simp [bI, show ¬ bitv x (nI i) = 0 from c_3, c_4])  _ _ _ hP hD hS (lv_sub hl [0, 1, 2, 3] rfl)
