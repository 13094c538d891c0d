def snA (d : Nat → Nat → Nat) : Nat → Option Nat := fun i => match i with
  | 0 => some (d 11 0) | 1 => some (d 12 0) | _ => none
def loS (S G : Nat → Nat → Int32) : Nat → Nat → Int32 := anS (mkS (G 0) (G 1) (G 2) (G 3) (S 4) (S 5) (S 6) (S 7))

set_option maxHeartbeats 1000000 in
set_option maxRecDepth 100000 in
theorem c_X4_append (l : Launch) (D : va_G) (k : Nat → ClassId) (d : Nat → Nat → Nat) (ns : Int32) (cd : Nat → Int32) (ln : Nat) (G : Nat → Nat → Int32) (pl : Int32) (kd : Int32 × Int32) (fs : Int32) (cc : Nat) (h1 : 33 ≤ cc) (h2 : cc ≤ 126) (hln : ln < 60) : MI l yX4_append wsX4_append ({ frames := 0, cells := 0, slots := 0, locals := 0 }) D k [.ref (d 0 0), .int (nI cc)] (wXo d ns ++ (wTx k (d 6) (d 7) cd (nI ln) G pl kd fs)) (nI (ln + 1)) (wXo d ns ++ wTx k (d 6) (d 7) (upd cd ln (nI cc)) (nI (ln + 1)) G pl kd fs) := by
  intro sz
  refine Met.ofW (cc := cX4_append) (maxL := 2) (ret := (some .int)) (by decide) rfl ?_
  intro p e s m args below meth c s₁ B hml hv
  obtain ⟨rfl, hN, hsz, hP, hK, hD0⟩ := hv
  have hx := B.exec
  have hb := B.bytes
  have hr := B.returns
  have hts := atoms_spec (ws := wsX4_append) B.pre
  have hown : s.vm.findClass RX4 = some m.cls := findClass_of_methodNamed B.named
  have hlocks := B.notSynchronized
  subst hsz
  have hD := hD0.self (sz := s.heap.size)
  generalize hAe : va_A (wXo d ns ++ (wTx k (d 6) (d 7) cd (nI ln) G pl kd fs)) s.heap.size = A at hD ⊢
  have hA : ∀ q : Nat, s.heap.size ≤ q → A q := fun q h => by rw [← hAe]; exact Or.inr h
  have hS : va_S A s.heap s.heap [] := va_S.rf
  have hl := lv_entry ([.ref (d 0 0), .int (nI cc)]) (n := 2) (Nat.le_of_ble_eq_true rfl)
  rw [lg_entry_eq]
  generalize (lg_sl ([.ref (d 0 0), .int (nI cc)]) ++ List.replicate (2 - (lg_sl ([.ref (d 0 0), .int (nI cc)])).length) Slot.unset).toArray = ls at hl ⊢
  have hl : lv_has ls 2 [(0, .ref (d 0 0)), (1, .int (nI cc))] := hl
  obtain ⟨H, hHe⟩ : ∃ H, H = s.heap := ⟨_, rfl⟩
  have hP : va_P D vwCl (wXo d ns ++ (wTx k (d 6) (d 7) cd (nI ln) G pl kd fs)) H := by rw [hHe]; exact hP
  have hS : va_S A s.heap H [] := by rw [hHe]; exact hS
  rw [← hHe]
  refine absQ (fun Q hQ => ?_)
  refine lv_iload_n hx hb dX4_append_0 rfl (lv_at hl 1 rfl) ?_
  refine lv_bipush (v := 33) hx hb dX4_append_1 (by decide) ?_
  refine lv_icmp_lt (tgt := 12) hx hb dX4_append_3 (by decide) (fun c_1 => ?_) (fun c_1 => ?_)
  · have c_1 : cc < 33 := (nI_ltI (a := cc) (b := 33) (by omega) (by omega)).mp c_1
    exact absurd c_1 (by omega)
  · have c_1 : ¬ (cc < 33) := fun h9 => c_1 ((nI_ltI (a := cc) (b := 33) (by omega) (by omega)).mpr h9)
    refine lv_iload_n hx hb dX4_append_6 rfl (lv_at hl 1 rfl) ?_
    refine lv_bipush (v := 126) hx hb dX4_append_7 (by decide) ?_
    refine lv_icmp_le (tgt := 22) hx hb dX4_append_9 (by decide) (fun c_2 => ?_) (fun c_2 => ?_)
    · have c_2 : cc ≤ 126 := (nI_leI (a := cc) (b := 126) (by omega) (by omega)).mp c_2
      refine lv_aload_n hx hb dX4_append_22 rfl (lv_at hl 0 rfl) ?_
      refine va_get (D := D) (ci := 4) (v := .ref (d 6 0)) (C := RX4) (T := TX4) (N := 9) hx hb hts (fun _ h9 => (List.mem_cons_of_mem _ (List.mem_append_left _ (List.mem_append_left _ (List.mem_append_left _ (List.mem_append_right _ h9)))))) hown hK hP 0 rfl rfl 6 (by decide) (hts _ (List.mem_of_getElem? (i := 5) rfl)) (fun _ h9 => h9) rfl dX4_append_23 ?_
      refine va_get (D := D) (ci := 2) (v := .int (nI ln)) (C := RX2) (T := TX2) (N := 7) hx hb hts (fun _ h9 => (List.mem_cons_of_mem _ (List.mem_append_left _ (List.mem_append_left _ (List.mem_append_right _ h9))))) hown hK hP 1 rfl rfl 1 (by decide) (hts _ (List.mem_of_getElem? (i := 6) rfl)) (fun _ h9 => h9) rfl dX4_append_26 ?_
      refine lv_if_lt (tgt := 44) hx hb dX4_append_29 (by decide) (fun c_3 => ?_) (fun c_3 => ?_)
      · have c_3 : ln < 0 := (nI_ltI (a := ln) (b := 0) (by omega) (by omega)).mp c_3
        exact absurd c_3 (by omega)
      · have c_3 : ¬ (ln < 0) := fun h9 => c_3 ((nI_ltI (a := ln) (b := 0) (by omega) (by omega)).mpr h9)
        refine lv_aload_n hx hb dX4_append_32 rfl (lv_at hl 0 rfl) ?_
        refine va_get (D := D) (ci := 4) (v := .ref (d 6 0)) (C := RX4) (T := TX4) (N := 9) hx hb hts (fun _ h9 => (List.mem_cons_of_mem _ (List.mem_append_left _ (List.mem_append_left _ (List.mem_append_left _ (List.mem_append_right _ h9)))))) hown hK hP 0 rfl rfl 6 (by decide) (hts _ (List.mem_of_getElem? (i := 5) rfl)) (fun _ h9 => h9) rfl dX4_append_33 ?_
        refine va_get (D := D) (ci := 2) (v := .int (nI ln)) (C := RX2) (T := TX2) (N := 7) hx hb hts (fun _ h9 => (List.mem_cons_of_mem _ (List.mem_append_left _ (List.mem_append_left _ (List.mem_append_right _ h9))))) hown hK hP 1 rfl rfl 1 (by decide) (hts _ (List.mem_of_getElem? (i := 6) rfl)) (fun _ h9 => h9) rfl dX4_append_36 ?_
        refine lv_bipush (v := 60) hx hb dX4_append_39 (by decide) ?_
        refine lv_icmp_lt (tgt := 54) hx hb dX4_append_41 (by decide) (fun c_4 => ?_) (fun c_4 => ?_)
        · have c_4 : ln < 60 := (nI_ltI (a := ln) (b := 60) (by omega) (by omega)).mp c_4
          refine lv_aload_n hx hb dX4_append_54 rfl (lv_at hl 0 rfl) ?_
          refine va_get (D := D) (ci := 4) (v := .ref (d 6 0)) (C := RX4) (T := TX4) (N := 9) hx hb hts (fun _ h9 => (List.mem_cons_of_mem _ (List.mem_append_left _ (List.mem_append_left _ (List.mem_append_left _ (List.mem_append_right _ h9)))))) hown hK hP 0 rfl rfl 6 (by decide) (hts _ (List.mem_of_getElem? (i := 5) rfl)) (fun _ h9 => h9) rfl dX4_append_55 ?_
          refine va_get (D := D) (ci := 2) (v := .ref (d 6 1)) (C := RX2) (T := TX2) (N := 7) hx hb hts (fun _ h9 => (List.mem_cons_of_mem _ (List.mem_append_left _ (List.mem_append_left _ (List.mem_append_right _ h9))))) hown hK hP 1 rfl rfl 0 (by decide) (hts _ (List.mem_of_getElem? (i := 7) rfl)) (fun _ h9 => h9) rfl dX4_append_58 ?_
          refine lv_aload_n hx hb dX4_append_61 rfl (lv_at hl 0 rfl) ?_
          refine va_get (D := D) (ci := 4) (v := .ref (d 6 0)) (C := RX4) (T := TX4) (N := 9) hx hb hts (fun _ h9 => (List.mem_cons_of_mem _ (List.mem_append_left _ (List.mem_append_left _ (List.mem_append_left _ (List.mem_append_right _ h9)))))) hown hK hP 0 rfl rfl 6 (by decide) (hts _ (List.mem_of_getElem? (i := 5) rfl)) (fun _ h9 => h9) rfl dX4_append_62 ?_
          refine va_get (D := D) (ci := 2) (v := .int (nI ln)) (C := RX2) (T := TX2) (N := 7) hx hb hts (fun _ h9 => (List.mem_cons_of_mem _ (List.mem_append_left _ (List.mem_append_left _ (List.mem_append_right _ h9))))) hown hK hP 1 rfl rfl 1 (by decide) (hts _ (List.mem_of_getElem? (i := 6) rfl)) (fun _ h9 => h9) rfl dX4_append_65 ?_
          refine lv_iload_n hx hb dX4_append_68 rfl (lv_at hl 1 rfl) ?_
          refine ar_st hx hb hK hP hD hS 2 rfl ln (nI_clamp (by omega)) (vp_in_nI (by omega) (by omega)) dX4_append_69 (wn := (wXo d ns ++ ([((d 6) 0, .inr (2, [.ref (d 6 1), .int (nI ln), .ref (d 7 0), .int pl, .int kd.1, .int fs, .int kd.2])), ((d 6) 1, .inl (k 0, 60, .inl (upd cd ln (nI cc)))), ((d 7) 0, .inr (1, [.ref ((d 7) 1), .ref ((d 7) 2), .ref ((d 7) 3), .ref ((d 7) 4), .ref ((d 7) 5), .ref ((d 7) 6), .ref ((d 7) 7), .int (G 7 0), .int (G 7 1), .int (G 7 2)])), ((d 7) 1, .inl (k 0, 9, .inl (G 0))), ((d 7) 2, .inl (k 0, 9, .inl (G 1))), ((d 7) 3, .inl (k 0, 9, .inl (G 2))), ((d 7) 4, .inl (k 0, 9, .inl (G 3))), ((d 7) 5, .inl (k 0, 9, .inl (G 4))), ((d 7) 6, .inl (k 0, 12, .inl (G 5))), ((d 7) 7, .inl (k 0, 12, .inl (G 6)))]))) rfl (fun H locs hP hD hS => ?_)
          refine lv_aload_n hx hb dX4_append_70 rfl (lv_at hl 0 rfl) ?_
          refine va_get (D := D) (ci := 4) (v := .ref (d 6 0)) (C := RX4) (T := TX4) (N := 9) hx hb hts (fun _ h9 => (List.mem_cons_of_mem _ (List.mem_append_left _ (List.mem_append_left _ (List.mem_append_left _ (List.mem_append_right _ h9)))))) hown hK hP 0 rfl rfl 6 (by decide) (hts _ (List.mem_of_getElem? (i := 5) rfl)) (fun _ h9 => h9) rfl dX4_append_71 ?_
          refine lv_dup hx hb dX4_append_74 rfl ?_
          refine va_get (D := D) (ci := 2) (v := .int (nI ln)) (C := RX2) (T := TX2) (N := 7) hx hb hts (fun _ h9 => (List.mem_cons_of_mem _ (List.mem_append_left _ (List.mem_append_left _ (List.mem_append_right _ h9))))) hown hK hP 1 rfl rfl 1 (by decide) (hts _ (List.mem_of_getElem? (i := 6) rfl)) (fun _ h9 => h9) rfl dX4_append_75 ?_
          refine lv_iconst (v := 1) hx hb dX4_append_78 (by decide) ?_
          refine lv_iadd hx hb dX4_append_79 ?_
          refine tp_e (y := (nI (ln + 1))) (nI_add ln 1) ?_
          refine va_put (D := D) (ci := 2) (v := .int (nI (ln + 1))) (ty := tyX2 1) (C := RX2) (T := TX2) (N := 7) hx hb hts (fun _ h9 => (List.mem_cons_of_mem _ (List.mem_append_left _ (List.mem_append_left _ (List.mem_append_right _ h9))))) tyX2 tyX2_ok nmX2 hown hK hP hD hS 1 rfl rfl 1 (by decide) (hts _ (List.mem_of_getElem? (i := 6) rfl)) (fun _ h9 => h9) rfl (tyX2_ok 1 (by decide)) rfl rfl (Nat.le_of_ble_eq_true rfl) dX4_append_80 (fun H locs hP hD hS => ?_)
          have hP : va_P D vwCl (wXo d ns ++ ([((d 6) 0, .inr (2, [.ref (d 6 1), .int (nI (ln + 1)), .ref (d 7 0), .int pl, .int kd.1, .int fs, .int kd.2])), ((d 6) 1, .inl (k 0, 60, .inl (upd cd ln (nI cc)))), ((d 7) 0, .inr (1, [.ref ((d 7) 1), .ref ((d 7) 2), .ref ((d 7) 3), .ref ((d 7) 4), .ref ((d 7) 5), .ref ((d 7) 6), .ref ((d 7) 7), .int (G 7 0), .int (G 7 1), .int (G 7 2)])), ((d 7) 1, .inl (k 0, 9, .inl (G 0))), ((d 7) 2, .inl (k 0, 9, .inl (G 1))), ((d 7) 3, .inl (k 0, 9, .inl (G 2))), ((d 7) 4, .inl (k 0, 9, .inl (G 3))), ((d 7) 5, .inl (k 0, 9, .inl (G 4))), ((d 7) 6, .inl (k 0, 12, .inl (G 5))), ((d 7) 7, .inl (k 0, 12, .inl (G 6)))])) H := hP
          have hD : va_D A (wXo d ns ++ ([((d 6) 0, .inr (2, [.ref (d 6 1), .int (nI (ln + 1)), .ref (d 7 0), .int pl, .int kd.1, .int fs, .int kd.2])), ((d 6) 1, .inl (k 0, 60, .inl (upd cd ln (nI cc)))), ((d 7) 0, .inr (1, [.ref ((d 7) 1), .ref ((d 7) 2), .ref ((d 7) 3), .ref ((d 7) 4), .ref ((d 7) 5), .ref ((d 7) 6), .ref ((d 7) 7), .int (G 7 0), .int (G 7 1), .int (G 7 2)])), ((d 7) 1, .inl (k 0, 9, .inl (G 0))), ((d 7) 2, .inl (k 0, 9, .inl (G 1))), ((d 7) 3, .inl (k 0, 9, .inl (G 2))), ((d 7) 4, .inl (k 0, 9, .inl (G 3))), ((d 7) 5, .inl (k 0, 9, .inl (G 4))), ((d 7) 6, .inl (k 0, 12, .inl (G 5))), ((d 7) 7, .inl (k 0, 12, .inl (G 6)))])) := hD
          refine lv_aload_n hx hb dX4_append_83 rfl (lv_at hl 0 rfl) ?_
          refine va_get (D := D) (ci := 4) (v := .ref (d 6 0)) (C := RX4) (T := TX4) (N := 9) hx hb hts (fun _ h9 => (List.mem_cons_of_mem _ (List.mem_append_left _ (List.mem_append_left _ (List.mem_append_left _ (List.mem_append_right _ h9)))))) hown hK hP 0 rfl rfl 6 (by decide) (hts _ (List.mem_of_getElem? (i := 5) rfl)) (fun _ h9 => h9) rfl dX4_append_84 ?_
          refine va_get (D := D) (ci := 2) (v := .int (nI (ln + 1))) (C := RX2) (T := TX2) (N := 7) hx hb hts (fun _ h9 => (List.mem_cons_of_mem _ (List.mem_append_left _ (List.mem_append_left _ (List.mem_append_right _ h9))))) hown hK hP 1 rfl rfl 1 (by decide) (hts _ (List.mem_of_getElem? (i := 6) rfl)) (fun _ h9 => h9) rfl dX4_append_87 ?_
          subst hQ
          exact rt_i hx hb hr hlocks hS dX4_append_90 (hP) (rfl)
        · have c_4 : ¬ (ln < 60) := fun h9 => c_4 ((nI_ltI (a := ln) (b := 60) (by omega) (by omega)).mpr h9)
          exact absurd c_4 (by omega)
    · have c_2 : ¬ (cc ≤ 126) := fun h9 => c_2 ((nI_leI (a := cc) (b := 126) (by omega) (by omega)).mpr h9)
      exact absurd c_2 (by omega)

set_option maxHeartbeats 1000000 in
set_option maxRecDepth 100000 in
theorem c_X4_clearBuffer (l : Launch) (D : va_G) (k : Nat → ClassId) (d : Nat → Nat → Nat) (ns : Int32) (cd : Nat → Int32) (ln : Nat) (G : Nat → Nat → Int32) (pl : Int32) (kd : Int32 × Int32) (fs : Int32)  : MI l yX4_clearBuffer wsX4_clearBuffer ({ frames := 0, cells := 0, slots := 0, locals := 0 }) D k [.ref (d 0 0)] (wXo d ns ++ (wTx k (d 6) (d 7) cd (nI ln) G pl kd fs)) (nI ln) (wXo d ns ++ wTx k (d 6) (d 7) cd 0 G pl kd fs) := by
  intro sz
  refine Met.ofW (cc := cX4_clearBuffer) (maxL := 2) (ret := (some .int)) (by decide) rfl ?_
  intro p e s m args below meth c s₁ B hml hv
  obtain ⟨rfl, hN, hsz, hP, hK, hD0⟩ := hv
  have hx := B.exec
  have hb := B.bytes
  have hr := B.returns
  have hts := atoms_spec (ws := wsX4_clearBuffer) B.pre
  have hown : s.vm.findClass RX4 = some m.cls := findClass_of_methodNamed B.named
  have hlocks := B.notSynchronized
  subst hsz
  have hD := hD0.self (sz := s.heap.size)
  generalize hAe : va_A (wXo d ns ++ (wTx k (d 6) (d 7) cd (nI ln) G pl kd fs)) s.heap.size = A at hD ⊢
  have hA : ∀ q : Nat, s.heap.size ≤ q → A q := fun q h => by rw [← hAe]; exact Or.inr h
  have hS : va_S A s.heap s.heap [] := va_S.rf
  have hl := lv_entry ([.ref (d 0 0)]) (n := 2) (Nat.le_of_ble_eq_true rfl)
  rw [lg_entry_eq]
  generalize (lg_sl ([.ref (d 0 0)]) ++ List.replicate (2 - (lg_sl ([.ref (d 0 0)])).length) Slot.unset).toArray = ls at hl ⊢
  have hl : lv_has ls 2 [(0, .ref (d 0 0))] := hl
  obtain ⟨H, hHe⟩ : ∃ H, H = s.heap := ⟨_, rfl⟩
  have hP : va_P D vwCl (wXo d ns ++ (wTx k (d 6) (d 7) cd (nI ln) G pl kd fs)) H := by rw [hHe]; exact hP
  have hS : va_S A s.heap H [] := by rw [hHe]; exact hS
  rw [← hHe]
  refine absQ (fun Q hQ => ?_)
  refine lv_aload_n hx hb dX4_clearBuffer_0 rfl (lv_at hl 0 rfl) ?_
  refine va_get (D := D) (ci := 4) (v := .ref (d 6 0)) (C := RX4) (T := TX4) (N := 9) hx hb hts (fun _ h9 => (List.mem_cons_of_mem _ (List.mem_append_left _ (List.mem_append_right _ h9)))) hown hK hP 0 rfl rfl 6 (by decide) (hts _ (List.mem_of_getElem? (i := 1) rfl)) (fun _ h9 => h9) rfl dX4_clearBuffer_1 ?_
  refine va_get (D := D) (ci := 2) (v := .int (nI ln)) (C := RX2) (T := TX2) (N := 7) hx hb hts (fun _ h9 => (List.mem_cons_of_mem _ (List.mem_append_right _ h9))) hown hK hP 1 rfl rfl 1 (by decide) (hts _ (List.mem_of_getElem? (i := 2) rfl)) (fun _ h9 => h9) rfl dX4_clearBuffer_4 ?_
  refine lv_istore_n (lv' := [(1, .int (nI ln)), (0, .ref (d 0 0))]) hx hb dX4_clearBuffer_7 rfl hl (by decide) rfl (fun ls hl => ?_)
  refine lv_aload_n hx hb dX4_clearBuffer_8 rfl (lv_at hl 1 rfl) ?_
  refine va_get (D := D) (ci := 4) (v := .ref (d 6 0)) (C := RX4) (T := TX4) (N := 9) hx hb hts (fun _ h9 => (List.mem_cons_of_mem _ (List.mem_append_left _ (List.mem_append_right _ h9)))) hown hK hP 0 rfl rfl 6 (by decide) (hts _ (List.mem_of_getElem? (i := 1) rfl)) (fun _ h9 => h9) rfl dX4_clearBuffer_9 ?_
  refine lv_iconst (v := 0) hx hb dX4_clearBuffer_12 (by decide) ?_
  refine va_put (D := D) (ci := 2) (v := .int 0) (ty := tyX2 1) (C := RX2) (T := TX2) (N := 7) hx hb hts (fun _ h9 => (List.mem_cons_of_mem _ (List.mem_append_right _ h9))) tyX2 tyX2_ok nmX2 hown hK hP hD hS 1 rfl rfl 1 (by decide) (hts _ (List.mem_of_getElem? (i := 2) rfl)) (fun _ h9 => h9) rfl (tyX2_ok 1 (by decide)) rfl rfl (Nat.le_of_ble_eq_true rfl) dX4_clearBuffer_13 (fun H locs hP hD hS => ?_)
  have hP : va_P D vwCl (wXo d ns ++ ([((d 6) 0, .inr (2, [.ref (d 6 1), .int 0, .ref (d 7 0), .int pl, .int kd.1, .int fs, .int kd.2])), ((d 6) 1, .inl (k 0, 60, .inl cd)), ((d 7) 0, .inr (1, [.ref ((d 7) 1), .ref ((d 7) 2), .ref ((d 7) 3), .ref ((d 7) 4), .ref ((d 7) 5), .ref ((d 7) 6), .ref ((d 7) 7), .int (G 7 0), .int (G 7 1), .int (G 7 2)])), ((d 7) 1, .inl (k 0, 9, .inl (G 0))), ((d 7) 2, .inl (k 0, 9, .inl (G 1))), ((d 7) 3, .inl (k 0, 9, .inl (G 2))), ((d 7) 4, .inl (k 0, 9, .inl (G 3))), ((d 7) 5, .inl (k 0, 9, .inl (G 4))), ((d 7) 6, .inl (k 0, 12, .inl (G 5))), ((d 7) 7, .inl (k 0, 12, .inl (G 6)))])) H := hP
  have hD : va_D A (wXo d ns ++ ([((d 6) 0, .inr (2, [.ref (d 6 1), .int 0, .ref (d 7 0), .int pl, .int kd.1, .int fs, .int kd.2])), ((d 6) 1, .inl (k 0, 60, .inl cd)), ((d 7) 0, .inr (1, [.ref ((d 7) 1), .ref ((d 7) 2), .ref ((d 7) 3), .ref ((d 7) 4), .ref ((d 7) 5), .ref ((d 7) 6), .ref ((d 7) 7), .int (G 7 0), .int (G 7 1), .int (G 7 2)])), ((d 7) 1, .inl (k 0, 9, .inl (G 0))), ((d 7) 2, .inl (k 0, 9, .inl (G 1))), ((d 7) 3, .inl (k 0, 9, .inl (G 2))), ((d 7) 4, .inl (k 0, 9, .inl (G 3))), ((d 7) 5, .inl (k 0, 9, .inl (G 4))), ((d 7) 6, .inl (k 0, 12, .inl (G 5))), ((d 7) 7, .inl (k 0, 12, .inl (G 6)))])) := hD
  refine lv_iload_n hx hb dX4_clearBuffer_16 rfl (lv_at hl 0 rfl) ?_
  subst hQ
  exact rt_i hx hb hr hlocks hS dX4_clearBuffer_17 (hP) (rfl)

set_option maxHeartbeats 1000000 in
set_option maxRecDepth 100000 in
theorem c_X4_firstError (l : Launch) (D : va_G) (k : Nat → ClassId) (d : Nat → Nat → Nat) (ns : Int32) (cd : Nat → Int32) (ln : Nat) (G : Nat → Nat → Int32) (pl : Int32) (kd : Int32 × Int32) (fs : Int32) (hln : ln ≤ 60) (hfs : ∃ f, f < 9 ∧ fs = nI f) : MI l yX4_firstError wsX4_firstError ({ frames := 4, cells := 0, slots := 0, locals := 84 }) D k [.ref (d 0 0)] (wXo d ns ++ (wTx k (d 6) (d 7) cd (nI ln) G pl kd fs)) ((rdF cd ln G kd fs).1) (wXo d ns ++ wTx k (d 6) (d 7) cd (nI ln) ((rdF cd ln G kd fs).2.1) ((rdF cd ln G kd fs).2.2.1) ((rdF cd ln G kd fs).2.2.2.1) ((rdF cd ln G kd fs).2.2.2.2)) := by
  intro sz
  refine Met.ofW (cc := cX4_firstError) (maxL := 1) (ret := (some .int)) (by decide) rfl ?_
  intro p e s m args below meth c s₁ B hml hv
  obtain ⟨rfl, hN, hsz, hP, hK, hD0⟩ := hv
  have hx := B.exec
  have hb := B.bytes
  have hr := B.returns
  have hts := atoms_spec (ws := wsX4_firstError) B.pre
  have hown : s.vm.findClass RX4 = some m.cls := findClass_of_methodNamed B.named
  have hlocks := B.notSynchronized
  subst hsz
  have hD := hD0.self (sz := s.heap.size)
  generalize hAe : va_A (wXo d ns ++ (wTx k (d 6) (d 7) cd (nI ln) G pl kd fs)) s.heap.size = A at hD ⊢
  have hA : ∀ q : Nat, s.heap.size ≤ q → A q := fun q h => by rw [← hAe]; exact Or.inr h
  have hS : va_S A s.heap s.heap [] := va_S.rf
  have hl := lv_entry ([.ref (d 0 0)]) (n := 1) (Nat.le_of_ble_eq_true rfl)
  rw [lg_entry_eq]
  generalize (lg_sl ([.ref (d 0 0)]) ++ List.replicate (1 - (lg_sl ([.ref (d 0 0)])).length) Slot.unset).toArray = ls at hl ⊢
  have hl : lv_has ls 1 [(0, .ref (d 0 0))] := hl
  obtain ⟨H, hHe⟩ : ∃ H, H = s.heap := ⟨_, rfl⟩
  have hP : va_P D vwCl (wXo d ns ++ (wTx k (d 6) (d 7) cd (nI ln) G pl kd fs)) H := by rw [hHe]; exact hP
  have hS : va_S A s.heap H [] := by rw [hHe]; exact hS
  rw [← hHe]
  refine absQ (fun Q hQ => ?_)
  refine lv_aload_n hx hb dX4_firstError_0 rfl (lv_at hl 0 rfl) ?_
  refine va_get (D := D) (ci := 4) (v := .ref (d 6 0)) (C := RX4) (T := TX4) (N := 9) hx hb hts (fun _ h9 => (List.mem_cons_of_mem _ (List.mem_append_left _ (List.mem_append_left _ (List.mem_append_right _ h9))))) hown hK hP 0 rfl rfl 6 (by decide) (hts _ (List.mem_of_getElem? (i := 1) rfl)) (fun _ h9 => h9) rfl dX4_firstError_1 ?_
  have hPc : va_P D vwCl (wTx k (d 6) (d 7) cd (nI ln) G pl kd fs) H := hP.sub [1, 2, 3, 4, 5, 6, 7, 8, 9, 10] rfl
  have hDc : va_D A (wTx k (d 6) (d 7) cd (nI ln) G pl kd fs) := hD.sub [1, 2, 3, 4, 5, 6, 7, 8, 9, 10] (by decide +kernel) rfl
  refine cl_i (va_runV (As := []) (rest := []) ⟨hx, hb, hml, hown, hts⟩ (c_X2_read l D k (d 6) (d 7) cd ln G pl kd fs hln hfs H.size) (cwV 0 hts gX4_firstError_X2_read rfl rfl rfl (by decide +kernel) ⟨Nat.le_of_ble_eq_true rfl, Nat.le_of_ble_eq_true rfl⟩) ⟨pr_blind, va_recv hK hP (ci := 2) (q0 := 1) rfl rfl, pr_at hN hPc hK hDc⟩ rfl rfl hl.1 rfl (lv_room (Nat.le_of_ble_eq_true rfl)) dX4_firstError_4 ⟨Nat.le_of_ble_eq_true rfl, Nat.le_of_ble_eq_true rfl⟩) hP hD hS hA [1, 2, 3, 4, 5, 6, 7, 8, 9, 10] [0] (wXo d ns) [d 0 0, (d 6) 0, (d 6) 1, (d 7) 0, (d 7) 1, (d 7) 2, (d 7) 3, (d 7) 4, (d 7) 5, (d 7) 6, (d 7) 7] 11 rfl (wn := (wXo d ns ++ (wTx k (d 6) (d 7) cd (nI ln) ((rdF cd ln G kd fs).2.1) ((rdF cd ln G kd fs).2.2.1) ((rdF cd ln G kd fs).2.2.2.1) ((rdF cd ln G kd fs).2.2.2.2)))) rfl rfl rfl rfl (by decide +kernel) rfl rfl (fun H locs hP hD hS => ?_)
  clear hPc hDc
  subst hQ
  exact rt_i hx hb hr hlocks hS dX4_firstError_7 (hP) (rfl)

set_option maxHeartbeats 1000000 in
set_option maxRecDepth 100000 in
theorem c_X4_load (l : Launch) (D : va_G) (k : Nat → ClassId) (d v : Nat → Nat → Nat) (S : Nat → Nat → Int32) (Z : Nat → Nat → Nat → Int32) (ns : Nat) (cd : Nat → Int32) (ln : Nat) (G : Nat → Nat → Int32) (pl : Int32) (kd : Int32 × Int32) (fs : Int32) (hns : ns ≤ 6) (hln : ln ≤ 60) (hfs : ∃ f, f < 9 ∧ fs = nI f) (hrd : (rdF cd ln G kd fs).1 = nI ln) (hwh : ((rdF cd ln G kd fs).2.2.1 = 5 ∨ (rdF cd ln G kd fs).2.2.1 = 6)) : MID l yX4_load wsX4_load ({ frames := 4, cells := 0, slots := 0, locals := 90 }) D k [.ref (d 0 0)] (wTx k (d 6) (d 7) cd (nI ln) G pl kd fs ++ (wXo d (nI ns) ++ (wSt k (d 1) S ++ ([(d 3 0, .inl (k 2, 6, .inr (.inr (.inr (.inr (svA v))))))] ++ (wSt k (v 0) (Z 0) ++ (wSt k (v 1) (Z 1) ++ (wSt k (v 2) (Z 2) ++ (wSt k (v 3) (Z 3) ++ (wSt k (v 4) (Z 4) ++ (wSt k (v 5) (Z 5))))))))))) (cjF (loS S (rdF cd ln G kd fs).2.1 2) 9) (wTx k (d 6) (d 7) cd 0 ((rdF cd ln G kd fs).2.1) ((rdF cd ln G kd fs).2.2.1) ((rdF cd ln G kd fs).2.2.2.1) ((rdF cd ln G kd fs).2.2.2.2) ++ (wXo d (nI (svN ns)) ++ (wSt k (d 1) (loS S (rdF cd ln G kd fs).2.1) ++ wSv k (d 3 0) (svE v ns) (svZ Z ns S)))) := by
  intro sz
  refine Met.ofW (cc := cX4_load) (maxL := 1) (ret := (some .int)) (by decide) rfl ?_
  intro p e s m args below meth c s₁ B hml hv
  obtain ⟨rfl, hN, hsz, hP, hK, hD0⟩ := hv
  have hx := B.exec
  have hb := B.bytes
  have hr := B.returns
  have hts := atoms_spec (ws := wsX4_load) B.pre
  have hown : s.vm.findClass RX4 = some m.cls := findClass_of_methodNamed B.named
  have hlocks := B.notSynchronized
  subst hsz
  have hD := hD0.self (sz := s.heap.size)
  generalize hAe : va_A (wTx k (d 6) (d 7) cd (nI ln) G pl kd fs ++ (wXo d (nI ns) ++ (wSt k (d 1) S ++ ([(d 3 0, .inl (k 2, 6, .inr (.inr (.inr (.inr (svA v))))))] ++ (wSt k (v 0) (Z 0) ++ (wSt k (v 1) (Z 1) ++ (wSt k (v 2) (Z 2) ++ (wSt k (v 3) (Z 3) ++ (wSt k (v 4) (Z 4) ++ (wSt k (v 5) (Z 5))))))))))) s.heap.size = A at hD ⊢
  have hA : ∀ q : Nat, s.heap.size ≤ q → A q := fun q h => by rw [← hAe]; exact Or.inr h
  have hS : va_S A s.heap s.heap [] := va_S.rf
  have hl := lv_entry ([.ref (d 0 0)]) (n := 1) (Nat.le_of_ble_eq_true rfl)
  rw [lg_entry_eq]
  generalize (lg_sl ([.ref (d 0 0)]) ++ List.replicate (1 - (lg_sl ([.ref (d 0 0)])).length) Slot.unset).toArray = ls at hl ⊢
  have hl : lv_has ls 1 [(0, .ref (d 0 0))] := hl
  obtain ⟨H, hHe⟩ : ∃ H, H = s.heap := ⟨_, rfl⟩
  have hP : va_P D vwCl (wTx k (d 6) (d 7) cd (nI ln) G pl kd fs ++ (wXo d (nI ns) ++ (wSt k (d 1) S ++ ([(d 3 0, .inl (k 2, 6, .inr (.inr (.inr (.inr (svA v))))))] ++ (wSt k (v 0) (Z 0) ++ (wSt k (v 1) (Z 1) ++ (wSt k (v 2) (Z 2) ++ (wSt k (v 3) (Z 3) ++ (wSt k (v 4) (Z 4) ++ (wSt k (v 5) (Z 5))))))))))) H := by rw [hHe]; exact hP
  have hS : va_S A s.heap H [] := by rw [hHe]; exact hS
  rw [← hHe]
  refine absQ (fun Q hQ => ?_)
  refine lv_aload_n hx hb dX4_load_0 rfl (lv_at hl 0 rfl) ?_
  refine va_get (D := D) (ci := 4) (v := .ref (d 6 0)) (C := RX4) (T := TX4) (N := 9) hx hb hts (fun _ h9 => (List.mem_cons_of_mem _ (List.mem_append_left _ (List.mem_append_left _ (List.mem_append_left _ (List.mem_append_right _ h9)))))) hown hK hP 10 rfl rfl 6 (by decide) (hts _ (List.mem_of_getElem? (i := 3) rfl)) (fun _ h9 => h9) rfl dX4_load_1 ?_
  have hPc : va_P D vwCl (wTx k (d 6) (d 7) cd (nI ln) G pl kd fs) H := hP.sub [0, 1, 2, 3, 4, 5, 6, 7, 8, 9] rfl
  have hDc : va_D A (wTx k (d 6) (d 7) cd (nI ln) G pl kd fs) := hD.sub [0, 1, 2, 3, 4, 5, 6, 7, 8, 9] (by decide +kernel) rfl
  refine cl_i (va_runV (As := []) (rest := []) ⟨hx, hb, hml, hown, hts⟩ (c_X2_read l D k (d 6) (d 7) cd ln G pl kd fs hln hfs H.size) (cwV 0 hts gX4_load_X2_read rfl rfl rfl (by decide +kernel) ⟨Nat.le_of_ble_eq_true rfl, Nat.le_of_ble_eq_true rfl⟩) ⟨pr_blind, va_recv hK hP (ci := 2) (q0 := 0) rfl rfl, pr_at hN hPc hK hDc⟩ rfl rfl hl.1 rfl (lv_room (Nat.le_of_ble_eq_true rfl)) dX4_load_4 ⟨Nat.le_of_ble_eq_true rfl, Nat.le_of_ble_eq_true rfl⟩) hP hD hS hA [0, 1, 2, 3, 4, 5, 6, 7, 8, 9] [10, 11, 12, 13, 14, 15, 16, 17, 18, 19, 20, 21, 22, 23, 24, 25, 26, 27, 28, 29, 30, 31, 32, 33, 34, 35, 36, 37, 38, 39, 40, 41, 42, 43, 44, 45, 46, 47, 48, 49, 50, 51, 52, 53, 54, 55, 56, 57, 58, 59, 60, 61, 62, 63, 64, 65, 66, 67] ((wXo d (nI ns)) ++ (wSt k (d 1) S) ++ ([(d 3 0, .inl (k 2, 6, .inr (.inr (.inr (.inr (svA v))))))]) ++ (wSt k (v 0) (Z 0)) ++ (wSt k (v 1) (Z 1)) ++ (wSt k (v 2) (Z 2)) ++ (wSt k (v 3) (Z 3)) ++ (wSt k (v 4) (Z 4)) ++ (wSt k (v 5) (Z 5))) [(d 6) 0, (d 6) 1, (d 7) 0, (d 7) 1, (d 7) 2, (d 7) 3, (d 7) 4, (d 7) 5, (d 7) 6, (d 7) 7, d 0 0, (d 1) 0, (d 1) 1, (d 1) 2, (d 1) 3, (d 1) 4, (d 1) 5, (d 1) 6, (d 1) 7, d 3 0, (v 0) 0, (v 0) 1, (v 0) 2, (v 0) 3, (v 0) 4, (v 0) 5, (v 0) 6, (v 0) 7, (v 1) 0, (v 1) 1, (v 1) 2, (v 1) 3, (v 1) 4, (v 1) 5, (v 1) 6, (v 1) 7, (v 2) 0, (v 2) 1, (v 2) 2, (v 2) 3, (v 2) 4, (v 2) 5, (v 2) 6, (v 2) 7, (v 3) 0, (v 3) 1, (v 3) 2, (v 3) 3, (v 3) 4, (v 3) 5, (v 3) 6, (v 3) 7, (v 4) 0, (v 4) 1, (v 4) 2, (v 4) 3, (v 4) 4, (v 4) 5, (v 4) 6, (v 4) 7, (v 5) 0, (v 5) 1, (v 5) 2, (v 5) 3, (v 5) 4, (v 5) 5, (v 5) 6, (v 5) 7] 68 rfl (wn := (wTx k (d 6) (d 7) cd (nI ln) ((rdF cd ln G kd fs).2.1) ((rdF cd ln G kd fs).2.2.1) ((rdF cd ln G kd fs).2.2.2.1) ((rdF cd ln G kd fs).2.2.2.2) ++ (wXo d (nI ns) ++ (wSt k (d 1) S ++ ([(d 3 0, .inl (k 2, 6, .inr (.inr (.inr (.inr (svA v))))))] ++ (wSt k (v 0) (Z 0) ++ (wSt k (v 1) (Z 1) ++ (wSt k (v 2) (Z 2) ++ (wSt k (v 3) (Z 3) ++ (wSt k (v 4) (Z 4) ++ (wSt k (v 5) (Z 5)))))))))))) rfl rfl rfl rfl (by decide +kernel) rfl rfl (fun H locs hP hD hS => ?_)
  clear hPc hDc
  refine tp_e (y := (nI ln)) hrd ?_
  refine lv_aload_n hx hb dX4_load_7 rfl (lv_at hl 0 rfl) ?_
  refine va_get (D := D) (ci := 4) (v := .ref (d 6 0)) (C := RX4) (T := TX4) (N := 9) hx hb hts (fun _ h9 => (List.mem_cons_of_mem _ (List.mem_append_left _ (List.mem_append_left _ (List.mem_append_left _ (List.mem_append_right _ h9)))))) hown hK hP 10 rfl rfl 6 (by decide) (hts _ (List.mem_of_getElem? (i := 3) rfl)) (fun _ h9 => h9) rfl dX4_load_8 ?_
  refine va_get (D := D) (ci := 2) (v := .int (nI ln)) (C := RX2) (T := TX2) (N := 7) hx hb hts (fun _ h9 => (List.mem_cons_of_mem _ (List.mem_append_left _ (List.mem_append_left _ (List.mem_append_right _ h9))))) hown hK hP 0 rfl rfl 1 (by decide) (hts _ (List.mem_of_getElem? (i := 4) rfl)) (fun _ h9 => h9) rfl dX4_load_11 ?_
  refine lv_icmp_lt (tgt := 27) hx hb dX4_load_14 (by decide) (fun c_1 => ?_) (fun c_1 => ?_)
  · have c_1 : ln < ln := (nI_ltI (a := ln) (b := ln) (by omega) (by omega)).mp c_1
    exact absurd c_1 (by omega)
  · have c_1 : ¬ (ln < ln) := fun h9 => c_1 ((nI_ltI (a := ln) (b := ln) (by omega) (by omega)).mpr h9)
    refine lv_aload_n hx hb dX4_load_17 rfl (lv_at hl 0 rfl) ?_
    refine va_get (D := D) (ci := 4) (v := .ref (d 6 0)) (C := RX4) (T := TX4) (N := 9) hx hb hts (fun _ h9 => (List.mem_cons_of_mem _ (List.mem_append_left _ (List.mem_append_left _ (List.mem_append_left _ (List.mem_append_right _ h9)))))) hown hK hP 10 rfl rfl 6 (by decide) (hts _ (List.mem_of_getElem? (i := 3) rfl)) (fun _ h9 => h9) rfl dX4_load_18 ?_
    have hPc : va_P D vwCl (wTx k (d 6) (d 7) cd (nI ln) ((rdF cd ln G kd fs).2.1) ((rdF cd ln G kd fs).2.2.1) ((rdF cd ln G kd fs).2.2.2.1) ((rdF cd ln G kd fs).2.2.2.2)) H := hP.sub [0, 1, 2, 3, 4, 5, 6, 7, 8, 9] rfl
    have hDc : va_D A (wTx k (d 6) (d 7) cd (nI ln) ((rdF cd ln G kd fs).2.1) ((rdF cd ln G kd fs).2.2.1) ((rdF cd ln G kd fs).2.2.2.1) ((rdF cd ln G kd fs).2.2.2.2)) := hD.sub [0, 1, 2, 3, 4, 5, 6, 7, 8, 9] (by decide +kernel) rfl
    refine cl_i0 (va_runV (As := []) (rest := []) ⟨hx, hb, hml, hown, hts⟩ (c_X2_isWhole l D k (d 6) (d 7) cd (nI ln) ((rdF cd ln G kd fs).2.1) ((rdF cd ln G kd fs).2.2.1) ((rdF cd ln G kd fs).2.2.2.1) ((rdF cd ln G kd fs).2.2.2.2) H.size) (cwV 0 hts gX4_load_X2_isWhole rfl rfl rfl (by decide +kernel) ⟨Nat.le_of_ble_eq_true rfl, Nat.le_of_ble_eq_true rfl⟩) ⟨pr_blind, va_recv hK hP (ci := 2) (q0 := 0) rfl rfl, pr_at hN hPc hK hDc⟩ rfl rfl hl.1 rfl (lv_room (Nat.le_of_ble_eq_true rfl)) dX4_load_21 ⟨Nat.le_of_ble_eq_true rfl, Nat.le_of_ble_eq_true rfl⟩) hP hD hS hA [0, 1, 2, 3, 4, 5, 6, 7, 8, 9] rfl (fun H locs hP hD hS => ?_)
    clear hPc hDc
    refine lv_if_ne (tgt := 37) hx hb dX4_load_24 (by decide) (fun c_2 => ?_) (fun c_2 => ?_)
    · have c_2 := bI_ne.mp c_2
      refine lv_aload_n hx hb dX4_load_37 rfl (lv_at hl 0 rfl) ?_
      have hPc : va_P D vwCl (wXo d (nI ns) ++ (wSt k (d 1) S ++ wSv k (d 3 0) v Z)) H := hP.sub [10, 11, 12, 13, 14, 15, 16, 17, 18, 19, 20, 21, 22, 23, 24, 25, 26, 27, 28, 29, 30, 31, 32, 33, 34, 35, 36, 37, 38, 39, 40, 41, 42, 43, 44, 45, 46, 47, 48, 49, 50, 51, 52, 53, 54, 55, 56, 57, 58, 59, 60, 61, 62, 63, 64, 65, 66, 67] rfl
      have hDc : va_D A (wXo d (nI ns) ++ (wSt k (d 1) S ++ wSv k (d 3 0) v Z)) := hD.sub [10, 11, 12, 13, 14, 15, 16, 17, 18, 19, 20, 21, 22, 23, 24, 25, 26, 27, 28, 29, 30, 31, 32, 33, 34, 35, 36, 37, 38, 39, 40, 41, 42, 43, 44, 45, 46, 47, 48, 49, 50, 51, 52, 53, 54, 55, 56, 57, 58, 59, 60, 61, 62, 63, 64, 65, 66, 67] (by decide +kernel) rfl
      refine cl_vD (va_runV (As := []) (rest := []) ⟨hx, hb, hml, hown, hts⟩ (c_X4_saveState l D k d v S Z ns hns H.size) (cwV 0 hts gX4_load_X4_saveState rfl rfl rfl (by decide +kernel) ⟨Nat.le_of_ble_eq_true rfl, Nat.le_of_ble_eq_true rfl⟩) ⟨pr_blind, va_recv hK hP (ci := 4) (q0 := 10) rfl rfl, pr_at hN hPc hK hDc⟩ rfl rfl hl.1 rfl (lv_room (Nat.le_of_ble_eq_true rfl)) dX4_load_38 ⟨Nat.le_of_ble_eq_true rfl, Nat.le_of_ble_eq_true rfl⟩) hP hD hS hA [10, 11, 12, 13, 14, 15, 16, 17, 18, 19, 20, 21, 22, 23, 24, 25, 26, 27, 28, 29, 30, 31, 32, 33, 34, 35, 36, 37, 38, 39, 40, 41, 42, 43, 44, 45, 46, 47, 48, 49, 50, 51, 52, 53, 54, 55, 56, 57, 58, 59, 60, 61, 62, 63, 64, 65, 66, 67] [0, 1, 2, 3, 4, 5, 6, 7, 8, 9] rfl (wr := wTx k (d 6) (d 7) cd (nI ln) ((rdF cd ln G kd fs).2.1) ((rdF cd ln G kd fs).2.2.1) ((rdF cd ln G kd fs).2.2.2.1) ((rdF cd ln G kd fs).2.2.2.2)) rfl (by decide +kernel) (by decide +kernel) (fun H locs hP hD hS => ?_)
      have hP : va_P D vwCl (wTx k (d 6) (d 7) cd (nI ln) ((rdF cd ln G kd fs).2.1) ((rdF cd ln G kd fs).2.2.1) ((rdF cd ln G kd fs).2.2.2.1) ((rdF cd ln G kd fs).2.2.2.2) ++ (wXo d (nI (svN ns)) ++ (wSt k (d 1) S ++ ([(d 3 0, .inl (k 2, 6, .inr (.inr (.inr (.inr (svA (svE v ns)))))))] ++ (wSt k ((svE v ns) 0) ((svZ Z ns S) 0) ++ (wSt k ((svE v ns) 1) ((svZ Z ns S) 1) ++ (wSt k ((svE v ns) 2) ((svZ Z ns S) 2) ++ (wSt k ((svE v ns) 3) ((svZ Z ns S) 3) ++ (wSt k ((svE v ns) 4) ((svZ Z ns S) 4) ++ (wSt k ((svE v ns) 5) ((svZ Z ns S) 5))))))))))) H := hP
      have hD : va_D A (wTx k (d 6) (d 7) cd (nI ln) ((rdF cd ln G kd fs).2.1) ((rdF cd ln G kd fs).2.2.1) ((rdF cd ln G kd fs).2.2.2.1) ((rdF cd ln G kd fs).2.2.2.2) ++ (wXo d (nI (svN ns)) ++ (wSt k (d 1) S ++ ([(d 3 0, .inl (k 2, 6, .inr (.inr (.inr (.inr (svA (svE v ns)))))))] ++ (wSt k ((svE v ns) 0) ((svZ Z ns S) 0) ++ (wSt k ((svE v ns) 1) ((svZ Z ns S) 1) ++ (wSt k ((svE v ns) 2) ((svZ Z ns S) 2) ++ (wSt k ((svE v ns) 3) ((svZ Z ns S) 3) ++ (wSt k ((svE v ns) 4) ((svZ Z ns S) 4) ++ (wSt k ((svE v ns) 5) ((svZ Z ns S) 5))))))))))) := hD
      clear hPc hDc
      refine lv_aload_n hx hb dX4_load_41 rfl (lv_at hl 0 rfl) ?_
      refine va_get (D := D) (ci := 4) (v := .ref (d 1 0)) (C := RX4) (T := TX4) (N := 9) hx hb hts (fun _ h9 => (List.mem_cons_of_mem _ (List.mem_append_left _ (List.mem_append_left _ (List.mem_append_left _ (List.mem_append_right _ h9)))))) hown hK hP 10 rfl rfl 0 (by decide) (hts _ (List.mem_of_getElem? (i := 5) rfl)) (fun _ h9 => h9) rfl dX4_load_42 ?_
      refine lv_aload_n hx hb dX4_load_45 rfl (lv_at hl 0 rfl) ?_
      refine va_get (D := D) (ci := 4) (v := .ref (d 6 0)) (C := RX4) (T := TX4) (N := 9) hx hb hts (fun _ h9 => (List.mem_cons_of_mem _ (List.mem_append_left _ (List.mem_append_left _ (List.mem_append_left _ (List.mem_append_right _ h9)))))) hown hK hP 10 rfl rfl 6 (by decide) (hts _ (List.mem_of_getElem? (i := 3) rfl)) (fun _ h9 => h9) rfl dX4_load_46 ?_
      refine va_get (D := D) (ci := 2) (v := .ref (d 7 0)) (C := RX2) (T := TX2) (N := 7) hx hb hts (fun _ h9 => (List.mem_cons_of_mem _ (List.mem_append_left _ (List.mem_append_left _ (List.mem_append_right _ h9))))) hown hK hP 0 rfl rfl 2 (by decide) (hts _ (List.mem_of_getElem? (i := 6) rfl)) (fun _ h9 => h9) rfl dX4_load_49 ?_
      have hPc : va_P D vwCl (wSt k (d 1) S ++ wSt k (d 7) ((rdF cd ln G kd fs).2.1)) H := hP.sub [11, 12, 13, 14, 15, 16, 17, 18, 2, 3, 4, 5, 6, 7, 8, 9] rfl
      have hDc : va_D A (wSt k (d 1) S ++ wSt k (d 7) ((rdF cd ln G kd fs).2.1)) := hD.sub [11, 12, 13, 14, 15, 16, 17, 18, 2, 3, 4, 5, 6, 7, 8, 9] (by decide +kernel) rfl
      refine cl_v (va_runV (As := [.ref (d 7 0)]) (rest := []) ⟨hx, hb, hml, hown, hts⟩ (c_X1_copyGraph l D k (d 1) (d 7) S ((rdF cd ln G kd fs).2.1) H.size) (cwV 1 hts gX4_load_X1_copyGraph rfl rfl rfl (by decide +kernel) ⟨Nat.le_of_ble_eq_true rfl, Nat.le_of_ble_eq_true rfl⟩) ⟨pr_blind, va_recv hK hP (ci := 1) (q0 := 11) rfl rfl, pr_at hN hPc hK hDc⟩ rfl rfl hl.1 rfl (lv_room (Nat.le_of_ble_eq_true rfl)) dX4_load_52 ⟨Nat.le_of_ble_eq_true rfl, Nat.le_of_ble_eq_true rfl⟩) hP hD hS hA [11, 12, 13, 14, 15, 16, 17, 18, 2, 3, 4, 5, 6, 7, 8, 9] [0, 1, 10, 19, 20, 21, 22, 23, 24, 25, 26, 27, 28, 29, 30, 31, 32, 33, 34, 35, 36, 37, 38, 39, 40, 41, 42, 43, 44, 45, 46, 47, 48, 49, 50, 51, 52, 53, 54, 55, 56, 57, 58, 59, 60, 61, 62, 63, 64, 65, 66, 67] (([((d 6) 0, .inr (2, [.ref (d 6 1), .int (nI ln), .ref (d 7 0), .int ((rdF cd ln G kd fs).2.2.1), .int (((rdF cd ln G kd fs).2.2.2.1).1), .int ((rdF cd ln G kd fs).2.2.2.2), .int (((rdF cd ln G kd fs).2.2.2.1).2)])), ((d 6) 1, .inl (k 0, 60, .inl cd))]) ++ (wXo d (nI (svN ns))) ++ ([(d 3 0, .inl (k 2, 6, .inr (.inr (.inr (.inr (svA (svE v ns)))))))]) ++ (wSt k ((svE v ns) 0) ((svZ Z ns S) 0)) ++ (wSt k ((svE v ns) 1) ((svZ Z ns S) 1)) ++ (wSt k ((svE v ns) 2) ((svZ Z ns S) 2)) ++ (wSt k ((svE v ns) 3) ((svZ Z ns S) 3)) ++ (wSt k ((svE v ns) 4) ((svZ Z ns S) 4)) ++ (wSt k ((svE v ns) 5) ((svZ Z ns S) 5))) [(d 6) 0, (d 6) 1, (d 7) 0, (d 7) 1, (d 7) 2, (d 7) 3, (d 7) 4, (d 7) 5, (d 7) 6, (d 7) 7, d 0 0, (d 1) 0, (d 1) 1, (d 1) 2, (d 1) 3, (d 1) 4, (d 1) 5, (d 1) 6, (d 1) 7, d 3 0, ((svE v ns) 0) 0, ((svE v ns) 0) 1, ((svE v ns) 0) 2, ((svE v ns) 0) 3, ((svE v ns) 0) 4, ((svE v ns) 0) 5, ((svE v ns) 0) 6, ((svE v ns) 0) 7, ((svE v ns) 1) 0, ((svE v ns) 1) 1, ((svE v ns) 1) 2, ((svE v ns) 1) 3, ((svE v ns) 1) 4, ((svE v ns) 1) 5, ((svE v ns) 1) 6, ((svE v ns) 1) 7, ((svE v ns) 2) 0, ((svE v ns) 2) 1, ((svE v ns) 2) 2, ((svE v ns) 2) 3, ((svE v ns) 2) 4, ((svE v ns) 2) 5, ((svE v ns) 2) 6, ((svE v ns) 2) 7, ((svE v ns) 3) 0, ((svE v ns) 3) 1, ((svE v ns) 3) 2, ((svE v ns) 3) 3, ((svE v ns) 3) 4, ((svE v ns) 3) 5, ((svE v ns) 3) 6, ((svE v ns) 3) 7, ((svE v ns) 4) 0, ((svE v ns) 4) 1, ((svE v ns) 4) 2, ((svE v ns) 4) 3, ((svE v ns) 4) 4, ((svE v ns) 4) 5, ((svE v ns) 4) 6, ((svE v ns) 4) 7, ((svE v ns) 5) 0, ((svE v ns) 5) 1, ((svE v ns) 5) 2, ((svE v ns) 5) 3, ((svE v ns) 5) 4, ((svE v ns) 5) 5, ((svE v ns) 5) 6, ((svE v ns) 5) 7] 68 rfl (wn := (wTx k (d 6) (d 7) cd (nI ln) ((rdF cd ln G kd fs).2.1) ((rdF cd ln G kd fs).2.2.1) ((rdF cd ln G kd fs).2.2.2.1) ((rdF cd ln G kd fs).2.2.2.2) ++ (wXo d (nI (svN ns)) ++ (wSt k (d 1) (mkS (((rdF cd ln G kd fs).2.1) 0) (((rdF cd ln G kd fs).2.1) 1) (((rdF cd ln G kd fs).2.1) 2) (((rdF cd ln G kd fs).2.1) 3) (S 4) (S 5) (S 6) (S 7)) ++ ([(d 3 0, .inl (k 2, 6, .inr (.inr (.inr (.inr (svA (svE v ns)))))))] ++ (wSt k ((svE v ns) 0) ((svZ Z ns S) 0) ++ (wSt k ((svE v ns) 1) ((svZ Z ns S) 1) ++ (wSt k ((svE v ns) 2) ((svZ Z ns S) 2) ++ (wSt k ((svE v ns) 3) ((svZ Z ns S) 3) ++ (wSt k ((svE v ns) 4) ((svZ Z ns S) 4) ++ (wSt k ((svE v ns) 5) ((svZ Z ns S) 5)))))))))))) rfl rfl rfl rfl (by decide +kernel) rfl rfl (fun H locs hP hD hS => ?_)
      clear hPc hDc
      refine lv_aload_n hx hb dX4_load_55 rfl (lv_at hl 0 rfl) ?_
      refine va_get (D := D) (ci := 4) (v := .ref (d 1 0)) (C := RX4) (T := TX4) (N := 9) hx hb hts (fun _ h9 => (List.mem_cons_of_mem _ (List.mem_append_left _ (List.mem_append_left _ (List.mem_append_left _ (List.mem_append_right _ h9)))))) hown hK hP 10 rfl rfl 0 (by decide) (hts _ (List.mem_of_getElem? (i := 5) rfl)) (fun _ h9 => h9) rfl dX4_load_56 ?_
      have hPc : va_P D vwCl (wSt k (d 1) (mkS (((rdF cd ln G kd fs).2.1) 0) (((rdF cd ln G kd fs).2.1) 1) (((rdF cd ln G kd fs).2.1) 2) (((rdF cd ln G kd fs).2.1) 3) (S 4) (S 5) (S 6) (S 7))) H := hP.sub [11, 12, 13, 14, 15, 16, 17, 18] rfl
      have hDc : va_D A (wSt k (d 1) (mkS (((rdF cd ln G kd fs).2.1) 0) (((rdF cd ln G kd fs).2.1) 1) (((rdF cd ln G kd fs).2.1) 2) (((rdF cd ln G kd fs).2.1) 3) (S 4) (S 5) (S 6) (S 7))) := hD.sub [11, 12, 13, 14, 15, 16, 17, 18] (by decide +kernel) rfl
      refine cl_v (va_runV (As := []) (rest := []) ⟨hx, hb, hml, hown, hts⟩ (c_X1_beginAnew l D k (d 1) (mkS (((rdF cd ln G kd fs).2.1) 0) (((rdF cd ln G kd fs).2.1) 1) (((rdF cd ln G kd fs).2.1) 2) (((rdF cd ln G kd fs).2.1) 3) (S 4) (S 5) (S 6) (S 7))  H.size) (cwV 0 hts gX4_load_X1_beginAnew rfl rfl rfl (by decide +kernel) ⟨Nat.le_of_ble_eq_true rfl, Nat.le_of_ble_eq_true rfl⟩) ⟨pr_blind, va_recv hK hP (ci := 1) (q0 := 11) rfl rfl, pr_at hN hPc hK hDc⟩ rfl rfl hl.1 rfl (lv_room (Nat.le_of_ble_eq_true rfl)) dX4_load_59 ⟨Nat.le_of_ble_eq_true rfl, Nat.le_of_ble_eq_true rfl⟩) hP hD hS hA [11, 12, 13, 14, 15, 16, 17, 18] [0, 1, 2, 3, 4, 5, 6, 7, 8, 9, 10, 19, 20, 21, 22, 23, 24, 25, 26, 27, 28, 29, 30, 31, 32, 33, 34, 35, 36, 37, 38, 39, 40, 41, 42, 43, 44, 45, 46, 47, 48, 49, 50, 51, 52, 53, 54, 55, 56, 57, 58, 59, 60, 61, 62, 63, 64, 65, 66, 67] ((wTx k (d 6) (d 7) cd (nI ln) ((rdF cd ln G kd fs).2.1) ((rdF cd ln G kd fs).2.2.1) ((rdF cd ln G kd fs).2.2.2.1) ((rdF cd ln G kd fs).2.2.2.2)) ++ (wXo d (nI (svN ns))) ++ ([(d 3 0, .inl (k 2, 6, .inr (.inr (.inr (.inr (svA (svE v ns)))))))]) ++ (wSt k ((svE v ns) 0) ((svZ Z ns S) 0)) ++ (wSt k ((svE v ns) 1) ((svZ Z ns S) 1)) ++ (wSt k ((svE v ns) 2) ((svZ Z ns S) 2)) ++ (wSt k ((svE v ns) 3) ((svZ Z ns S) 3)) ++ (wSt k ((svE v ns) 4) ((svZ Z ns S) 4)) ++ (wSt k ((svE v ns) 5) ((svZ Z ns S) 5))) [(d 6) 0, (d 6) 1, (d 7) 0, (d 7) 1, (d 7) 2, (d 7) 3, (d 7) 4, (d 7) 5, (d 7) 6, (d 7) 7, d 0 0, (d 1) 0, (d 1) 1, (d 1) 2, (d 1) 3, (d 1) 4, (d 1) 5, (d 1) 6, (d 1) 7, d 3 0, ((svE v ns) 0) 0, ((svE v ns) 0) 1, ((svE v ns) 0) 2, ((svE v ns) 0) 3, ((svE v ns) 0) 4, ((svE v ns) 0) 5, ((svE v ns) 0) 6, ((svE v ns) 0) 7, ((svE v ns) 1) 0, ((svE v ns) 1) 1, ((svE v ns) 1) 2, ((svE v ns) 1) 3, ((svE v ns) 1) 4, ((svE v ns) 1) 5, ((svE v ns) 1) 6, ((svE v ns) 1) 7, ((svE v ns) 2) 0, ((svE v ns) 2) 1, ((svE v ns) 2) 2, ((svE v ns) 2) 3, ((svE v ns) 2) 4, ((svE v ns) 2) 5, ((svE v ns) 2) 6, ((svE v ns) 2) 7, ((svE v ns) 3) 0, ((svE v ns) 3) 1, ((svE v ns) 3) 2, ((svE v ns) 3) 3, ((svE v ns) 3) 4, ((svE v ns) 3) 5, ((svE v ns) 3) 6, ((svE v ns) 3) 7, ((svE v ns) 4) 0, ((svE v ns) 4) 1, ((svE v ns) 4) 2, ((svE v ns) 4) 3, ((svE v ns) 4) 4, ((svE v ns) 4) 5, ((svE v ns) 4) 6, ((svE v ns) 4) 7, ((svE v ns) 5) 0, ((svE v ns) 5) 1, ((svE v ns) 5) 2, ((svE v ns) 5) 3, ((svE v ns) 5) 4, ((svE v ns) 5) 5, ((svE v ns) 5) 6, ((svE v ns) 5) 7] 68 rfl (wn := (wTx k (d 6) (d 7) cd (nI ln) ((rdF cd ln G kd fs).2.1) ((rdF cd ln G kd fs).2.2.1) ((rdF cd ln G kd fs).2.2.2.1) ((rdF cd ln G kd fs).2.2.2.2) ++ (wXo d (nI (svN ns)) ++ (wSt k (d 1) (anS (mkS (((rdF cd ln G kd fs).2.1) 0) (((rdF cd ln G kd fs).2.1) 1) (((rdF cd ln G kd fs).2.1) 2) (((rdF cd ln G kd fs).2.1) 3) (S 4) (S 5) (S 6) (S 7))) ++ ([(d 3 0, .inl (k 2, 6, .inr (.inr (.inr (.inr (svA (svE v ns)))))))] ++ (wSt k ((svE v ns) 0) ((svZ Z ns S) 0) ++ (wSt k ((svE v ns) 1) ((svZ Z ns S) 1) ++ (wSt k ((svE v ns) 2) ((svZ Z ns S) 2) ++ (wSt k ((svE v ns) 3) ((svZ Z ns S) 3) ++ (wSt k ((svE v ns) 4) ((svZ Z ns S) 4) ++ (wSt k ((svE v ns) 5) ((svZ Z ns S) 5)))))))))))) rfl rfl rfl rfl (by decide +kernel) rfl rfl (fun H locs hP hD hS => ?_)
      clear hPc hDc
      refine lv_aload_n hx hb dX4_load_62 rfl (lv_at hl 0 rfl) ?_
      refine va_get (D := D) (ci := 4) (v := .ref (d 6 0)) (C := RX4) (T := TX4) (N := 9) hx hb hts (fun _ h9 => (List.mem_cons_of_mem _ (List.mem_append_left _ (List.mem_append_left _ (List.mem_append_left _ (List.mem_append_right _ h9)))))) hown hK hP 10 rfl rfl 6 (by decide) (hts _ (List.mem_of_getElem? (i := 3) rfl)) (fun _ h9 => h9) rfl dX4_load_63 ?_
      refine lv_iconst (v := 0) hx hb dX4_load_66 (by decide) ?_
      refine va_put (D := D) (ci := 2) (v := .int 0) (ty := tyX2 1) (C := RX2) (T := TX2) (N := 7) hx hb hts (fun _ h9 => (List.mem_cons_of_mem _ (List.mem_append_left _ (List.mem_append_left _ (List.mem_append_right _ h9))))) tyX2 tyX2_ok nmX2 hown hK hP hD hS 0 rfl rfl 1 (by decide) (hts _ (List.mem_of_getElem? (i := 4) rfl)) (fun _ h9 => h9) rfl (tyX2_ok 1 (by decide)) rfl rfl (Nat.le_of_ble_eq_true rfl) dX4_load_67 (fun H locs hP hD hS => ?_)
      have hP : va_P D vwCl ([((d 6) 0, .inr (2, [.ref (d 6 1), .int 0, .ref (d 7 0), .int ((rdF cd ln G kd fs).2.2.1), .int (((rdF cd ln G kd fs).2.2.2.1).1), .int ((rdF cd ln G kd fs).2.2.2.2), .int (((rdF cd ln G kd fs).2.2.2.1).2)])), ((d 6) 1, .inl (k 0, 60, .inl cd)), ((d 7) 0, .inr (1, [.ref ((d 7) 1), .ref ((d 7) 2), .ref ((d 7) 3), .ref ((d 7) 4), .ref ((d 7) 5), .ref ((d 7) 6), .ref ((d 7) 7), .int ((rdF cd ln G kd fs).2.1 7 0), .int ((rdF cd ln G kd fs).2.1 7 1), .int ((rdF cd ln G kd fs).2.1 7 2)])), ((d 7) 1, .inl (k 0, 9, .inl ((rdF cd ln G kd fs).2.1 0))), ((d 7) 2, .inl (k 0, 9, .inl ((rdF cd ln G kd fs).2.1 1))), ((d 7) 3, .inl (k 0, 9, .inl ((rdF cd ln G kd fs).2.1 2))), ((d 7) 4, .inl (k 0, 9, .inl ((rdF cd ln G kd fs).2.1 3))), ((d 7) 5, .inl (k 0, 9, .inl ((rdF cd ln G kd fs).2.1 4))), ((d 7) 6, .inl (k 0, 12, .inl ((rdF cd ln G kd fs).2.1 5))), ((d 7) 7, .inl (k 0, 12, .inl ((rdF cd ln G kd fs).2.1 6)))] ++ (wXo d (nI (svN ns)) ++ (wSt k (d 1) (anS (mkS (((rdF cd ln G kd fs).2.1) 0) (((rdF cd ln G kd fs).2.1) 1) (((rdF cd ln G kd fs).2.1) 2) (((rdF cd ln G kd fs).2.1) 3) (S 4) (S 5) (S 6) (S 7))) ++ ([(d 3 0, .inl (k 2, 6, .inr (.inr (.inr (.inr (svA (svE v ns)))))))] ++ (wSt k ((svE v ns) 0) ((svZ Z ns S) 0) ++ (wSt k ((svE v ns) 1) ((svZ Z ns S) 1) ++ (wSt k ((svE v ns) 2) ((svZ Z ns S) 2) ++ (wSt k ((svE v ns) 3) ((svZ Z ns S) 3) ++ (wSt k ((svE v ns) 4) ((svZ Z ns S) 4) ++ (wSt k ((svE v ns) 5) ((svZ Z ns S) 5))))))))))) H := hP
      have hD : va_D A ([((d 6) 0, .inr (2, [.ref (d 6 1), .int 0, .ref (d 7 0), .int ((rdF cd ln G kd fs).2.2.1), .int (((rdF cd ln G kd fs).2.2.2.1).1), .int ((rdF cd ln G kd fs).2.2.2.2), .int (((rdF cd ln G kd fs).2.2.2.1).2)])), ((d 6) 1, .inl (k 0, 60, .inl cd)), ((d 7) 0, .inr (1, [.ref ((d 7) 1), .ref ((d 7) 2), .ref ((d 7) 3), .ref ((d 7) 4), .ref ((d 7) 5), .ref ((d 7) 6), .ref ((d 7) 7), .int ((rdF cd ln G kd fs).2.1 7 0), .int ((rdF cd ln G kd fs).2.1 7 1), .int ((rdF cd ln G kd fs).2.1 7 2)])), ((d 7) 1, .inl (k 0, 9, .inl ((rdF cd ln G kd fs).2.1 0))), ((d 7) 2, .inl (k 0, 9, .inl ((rdF cd ln G kd fs).2.1 1))), ((d 7) 3, .inl (k 0, 9, .inl ((rdF cd ln G kd fs).2.1 2))), ((d 7) 4, .inl (k 0, 9, .inl ((rdF cd ln G kd fs).2.1 3))), ((d 7) 5, .inl (k 0, 9, .inl ((rdF cd ln G kd fs).2.1 4))), ((d 7) 6, .inl (k 0, 12, .inl ((rdF cd ln G kd fs).2.1 5))), ((d 7) 7, .inl (k 0, 12, .inl ((rdF cd ln G kd fs).2.1 6)))] ++ (wXo d (nI (svN ns)) ++ (wSt k (d 1) (anS (mkS (((rdF cd ln G kd fs).2.1) 0) (((rdF cd ln G kd fs).2.1) 1) (((rdF cd ln G kd fs).2.1) 2) (((rdF cd ln G kd fs).2.1) 3) (S 4) (S 5) (S 6) (S 7))) ++ ([(d 3 0, .inl (k 2, 6, .inr (.inr (.inr (.inr (svA (svE v ns)))))))] ++ (wSt k ((svE v ns) 0) ((svZ Z ns S) 0) ++ (wSt k ((svE v ns) 1) ((svZ Z ns S) 1) ++ (wSt k ((svE v ns) 2) ((svZ Z ns S) 2) ++ (wSt k ((svE v ns) 3) ((svZ Z ns S) 3) ++ (wSt k ((svE v ns) 4) ((svZ Z ns S) 4) ++ (wSt k ((svE v ns) 5) ((svZ Z ns S) 5))))))))))) := hD
      refine lv_aload_n hx hb dX4_load_70 rfl (lv_at hl 0 rfl) ?_
      refine va_get (D := D) (ci := 4) (v := .ref (d 1 0)) (C := RX4) (T := TX4) (N := 9) hx hb hts (fun _ h9 => (List.mem_cons_of_mem _ (List.mem_append_left _ (List.mem_append_left _ (List.mem_append_left _ (List.mem_append_right _ h9)))))) hown hK hP 10 rfl rfl 0 (by decide) (hts _ (List.mem_of_getElem? (i := 5) rfl)) (fun _ h9 => h9) rfl dX4_load_71 ?_
      have hPc : va_P D vwCl (wSt k (d 1) (anS (mkS (((rdF cd ln G kd fs).2.1) 0) (((rdF cd ln G kd fs).2.1) 1) (((rdF cd ln G kd fs).2.1) 2) (((rdF cd ln G kd fs).2.1) 3) (S 4) (S 5) (S 6) (S 7)))) H := hP.sub [11, 12, 13, 14, 15, 16, 17, 18] rfl
      have hDc : va_D A (wSt k (d 1) (anS (mkS (((rdF cd ln G kd fs).2.1) 0) (((rdF cd ln G kd fs).2.1) 1) (((rdF cd ln G kd fs).2.1) 2) (((rdF cd ln G kd fs).2.1) 3) (S 4) (S 5) (S 6) (S 7)))) := hD.sub [11, 12, 13, 14, 15, 16, 17, 18] (by decide +kernel) rfl
      refine cl_i0 (va_runV (As := []) (rest := []) ⟨hx, hb, hml, hown, hts⟩ (c_X1_countJoins l D k (d 1) (anS (mkS (((rdF cd ln G kd fs).2.1) 0) (((rdF cd ln G kd fs).2.1) 1) (((rdF cd ln G kd fs).2.1) 2) (((rdF cd ln G kd fs).2.1) 3) (S 4) (S 5) (S 6) (S 7)))  H.size) (cwV 0 hts gX4_load_X1_countJoins rfl rfl rfl (by decide +kernel) ⟨Nat.le_of_ble_eq_true rfl, Nat.le_of_ble_eq_true rfl⟩) ⟨pr_blind, va_recv hK hP (ci := 1) (q0 := 11) rfl rfl, pr_at hN hPc hK hDc⟩ rfl rfl hl.1 rfl (lv_room (Nat.le_of_ble_eq_true rfl)) dX4_load_74 ⟨Nat.le_of_ble_eq_true rfl, Nat.le_of_ble_eq_true rfl⟩) hP hD hS hA [11, 12, 13, 14, 15, 16, 17, 18] rfl (fun H locs hP hD hS => ?_)
      clear hPc hDc
      subst hQ
      exact rt_iD hx hb hr hlocks hS dX4_load_77 (hP) (hD) (rfl)
    · have c_2 := bI_eq.mp c_2
      exact absurd c_2 (by rw [decide_eq_true hwh]; decide)
