/-- the row of the saved states: their addresses in their order -/
def svA (v : Nat → Nat → Nat) : Nat → Option Nat := fun i => match i with
  | 0 => some (v 0 0) | 1 => some (v 1 0) | 2 => some (v 2 0) | 3 => some (v 3 0) | 4 => some (v 4 0) | 5 => some (v 5 0) | _ => none
abbrev wSv (k : Nat → ClassId) (sv : Nat) (v : Nat → Nat → Nat) (Z : Nat → Nat → Nat → Int32) : va_W :=
  [(sv, .inl (k 2, 6, .inr (.inr (.inr (.inr (svA v))))))] ++ (wSt k (v 0) (Z 0) ++ (wSt k (v 1) (Z 1) ++ (wSt k (v 2) (Z 2) ++ (wSt k (v 3) (Z 3) ++ (wSt k (v 4) (Z 4) ++ wSt k (v 5) (Z 5))))))
def rotL {α : Type} (v : Nat → α) : Nat → α := fun i => match i with
  | 0 => v 1 | 1 => v 2 | 2 => v 3 | 3 => v 4 | 4 => v 5 | _ => v 0
/-- behind saving: the addresses, the States, how many -/
def svE (v : Nat → Nat → Nat) (ns : Nat) : Nat → Nat → Nat := match ns with
  | 6 => rotL v | _ => v
def upZ {α : Type} (Z : Nat → α) (n : Nat) (S : α) : Nat → α := fun i => if i = n then S else Z i
def svZ (Z : Nat → Nat → Nat → Int32) (ns : Nat) (S : Nat → Nat → Int32) : Nat → Nat → Nat → Int32 := match ns with
  | 6 => upZ (rotL Z) 5 S | n => upZ Z n S
def svN (ns : Nat) : Nat := match ns with
  | 6 => 6 | n => n + 1

set_option maxHeartbeats 1000000 in
set_option maxRecDepth 100000 in
theorem c_X4_dropOldest (l : Launch) (D : va_G) (k : Nat → ClassId) (d v : Nat → Nat → Nat) (ns : Int32) (Z : Nat → Nat → Nat → Int32)  : MVD l yX4_dropOldest wsX4_dropOldest ({ frames := 0, cells := 0, slots := 0, locals := 0 }) D k [.ref (d 0 0)] (wXo d ns ++ ([(d 3 0, .inl (k 2, 6, .inr (.inr (.inr (.inr (svA v))))))] ++ (wSt k (v 0) (Z 0) ++ (wSt k (v 1) (Z 1) ++ (wSt k (v 2) (Z 2) ++ (wSt k (v 3) (Z 3) ++ (wSt k (v 4) (Z 4) ++ (wSt k (v 5) (Z 5))))))))) (wXo d 5 ++ wSv k (d 3 0) (rotL v) (rotL Z)) := by
  intro sz
  refine Met.ofW (cc := cX4_dropOldest) (maxL := 3) (ret := none) (by decide) rfl ?_
  intro p e s m args below meth c s₁ B hml hv
  obtain ⟨rfl, hN, hsz, hP, hK, hD0⟩ := hv
  have hx := B.exec
  have hb := B.bytes
  have hr := B.returns
  have hts := atoms_spec (ws := wsX4_dropOldest) B.pre
  have hown : s.vm.findClass RX4 = some m.cls := findClass_of_methodNamed B.named
  have hlocks := B.notSynchronized
  subst hsz
  have hD := hD0.self (sz := s.heap.size)
  generalize hAe : va_A (wXo d ns ++ ([(d 3 0, .inl (k 2, 6, .inr (.inr (.inr (.inr (svA v))))))] ++ (wSt k (v 0) (Z 0) ++ (wSt k (v 1) (Z 1) ++ (wSt k (v 2) (Z 2) ++ (wSt k (v 3) (Z 3) ++ (wSt k (v 4) (Z 4) ++ (wSt k (v 5) (Z 5))))))))) s.heap.size = A at hD ⊢
  have hA : ∀ q : Nat, s.heap.size ≤ q → A q := fun q h => by rw [← hAe]; exact Or.inr h
  have hS : va_S A s.heap s.heap [] := va_S.rf
  have hl := lv_entry ([.ref (d 0 0)]) (n := 3) (Nat.le_of_ble_eq_true rfl)
  rw [lg_entry_eq]
  generalize (lg_sl ([.ref (d 0 0)]) ++ List.replicate (3 - (lg_sl ([.ref (d 0 0)])).length) Slot.unset).toArray = ls at hl ⊢
  have hl : lv_has ls 3 [(0, .ref (d 0 0))] := hl
  obtain ⟨H, hHe⟩ : ∃ H, H = s.heap := ⟨_, rfl⟩
  have hP : va_P D vwCl (wXo d ns ++ ([(d 3 0, .inl (k 2, 6, .inr (.inr (.inr (.inr (svA v))))))] ++ (wSt k (v 0) (Z 0) ++ (wSt k (v 1) (Z 1) ++ (wSt k (v 2) (Z 2) ++ (wSt k (v 3) (Z 3) ++ (wSt k (v 4) (Z 4) ++ (wSt k (v 5) (Z 5))))))))) H := by rw [hHe]; exact hP
  have hS : va_S A s.heap H [] := by rw [hHe]; exact hS
  rw [← hHe]
  refine absQ (fun Q hQ => ?_)
  refine lv_aload_n hx hb dX4_dropOldest_0 rfl (lv_at hl 0 rfl) ?_
  refine va_get (D := D) (ci := 4) (v := .ref (d 3 0)) (C := RX4) (T := TX4) (N := 9) hx hb hts (fun _ h9 => (List.mem_cons_of_mem _ (List.mem_append_right _ h9))) hown hK hP 0 rfl rfl 2 (by decide) (hts _ (List.mem_of_getElem? (i := 1) rfl)) (fun _ h9 => h9) rfl dX4_dropOldest_1 ?_
  refine lv_iconst (v := 0) hx hb dX4_dropOldest_4 (by decide) ?_
  refine ar_qld hx hb hK hP 1 rfl 0 rfl (show vp_in (nI 0) 6 from vp_in_nI (by decide) (by decide)) (v 0 0) rfl dX4_dropOldest_5 ?_
  refine lv_astore_n (lv' := [(1, .ref (v 0 0)), (0, .ref (d 0 0))]) hx hb dX4_dropOldest_6 rfl hl (by decide) rfl (fun ls hl => ?_)
  refine lv_iconst (v := 1) hx hb dX4_dropOldest_7 (by decide) ?_
  refine lv_istore_n (lv' := [(2, .int 1), (1, .ref (v 0 0)), (0, .ref (d 0 0))]) hx hb dX4_dropOldest_8 rfl hl (by decide) rfl (fun ls hl => ?_)
  refine lv_iload_n hx hb dX4_dropOldest_9 rfl (lv_at hl 0 rfl) ?_
  refine lv_bipush (v := 6) hx hb dX4_dropOldest_10 (by decide) ?_
  refine lv_icmp_ge (tgt := 35) hx hb dX4_dropOldest_12 (by decide) (fun c_1 => ?_) (fun c_1 => ?_)
  · exact absurd c_1 (by decide)
  · refine lv_aload_n hx hb dX4_dropOldest_15 rfl (lv_at hl 2 rfl) ?_
    refine va_get (D := D) (ci := 4) (v := .ref (d 3 0)) (C := RX4) (T := TX4) (N := 9) hx hb hts (fun _ h9 => (List.mem_cons_of_mem _ (List.mem_append_right _ h9))) hown hK hP 0 rfl rfl 2 (by decide) (hts _ (List.mem_of_getElem? (i := 1) rfl)) (fun _ h9 => h9) rfl dX4_dropOldest_16 ?_
    refine lv_iload_n hx hb dX4_dropOldest_19 rfl (lv_at hl 0 rfl) ?_
    refine lv_iconst (v := 1) hx hb dX4_dropOldest_20 (by decide) ?_
    refine lv_isub hx hb dX4_dropOldest_21 ?_
    refine tp_e (y := 0) (by decide) ?_
    refine lv_aload_n hx hb dX4_dropOldest_22 rfl (lv_at hl 2 rfl) ?_
    refine va_get (D := D) (ci := 4) (v := .ref (d 3 0)) (C := RX4) (T := TX4) (N := 9) hx hb hts (fun _ h9 => (List.mem_cons_of_mem _ (List.mem_append_right _ h9))) hown hK hP 0 rfl rfl 2 (by decide) (hts _ (List.mem_of_getElem? (i := 1) rfl)) (fun _ h9 => h9) rfl dX4_dropOldest_23 ?_
    refine lv_iload_n hx hb dX4_dropOldest_26 rfl (lv_at hl 0 rfl) ?_
    refine ar_qld hx hb hK hP 1 rfl 1 rfl (show vp_in (nI 1) 6 from vp_in_nI (by decide) (by decide)) (v 1 0) rfl dX4_dropOldest_27 ?_
    refine ar_qst hx hb hK hP hD hS 1 10 rfl rfl 0 rfl (show vp_in (nI 0) 6 from vp_in_nI (by decide) (by decide)) dX4_dropOldest_28 (wn := (wXo d ns ++ ([(d 3 0, .inl (k 2, 6, .inr (.inr (.inr (.inr (va_up (svA v) 0 (some (v 1 0))))))))] ++ (wSt k (v 0) (Z 0) ++ (wSt k (v 1) (Z 1) ++ (wSt k (v 2) (Z 2) ++ (wSt k (v 3) (Z 3) ++ (wSt k (v 4) (Z 4) ++ (wSt k (v 5) (Z 5)))))))))) rfl (fun H locs hP hD hS => ?_)
    refine lv_iinc (v := 2) (lv' := [(2, .int 2), (1, .ref (v 0 0)), (0, .ref (d 0 0))]) hx hb dX4_dropOldest_29 hl (k := 0) rfl rfl (by decide) rfl (fun ls hl => ?_)
    refine lv_goto (tgt := 9) hx hb dX4_dropOldest_32 (by decide) ?_
    refine lv_iload_n hx hb dX4_dropOldest_9 rfl (lv_at hl 0 rfl) ?_
    refine lv_bipush (v := 6) hx hb dX4_dropOldest_10 (by decide) ?_
    refine lv_icmp_ge (tgt := 35) hx hb dX4_dropOldest_12 (by decide) (fun c_2 => ?_) (fun c_2 => ?_)
    · exact absurd c_2 (by decide)
    · refine lv_aload_n hx hb dX4_dropOldest_15 rfl (lv_at hl 2 rfl) ?_
      refine va_get (D := D) (ci := 4) (v := .ref (d 3 0)) (C := RX4) (T := TX4) (N := 9) hx hb hts (fun _ h9 => (List.mem_cons_of_mem _ (List.mem_append_right _ h9))) hown hK hP 0 rfl rfl 2 (by decide) (hts _ (List.mem_of_getElem? (i := 1) rfl)) (fun _ h9 => h9) rfl dX4_dropOldest_16 ?_
      refine lv_iload_n hx hb dX4_dropOldest_19 rfl (lv_at hl 0 rfl) ?_
      refine lv_iconst (v := 1) hx hb dX4_dropOldest_20 (by decide) ?_
      refine lv_isub hx hb dX4_dropOldest_21 ?_
      refine tp_e (y := 1) (by decide) ?_
      refine lv_aload_n hx hb dX4_dropOldest_22 rfl (lv_at hl 2 rfl) ?_
      refine va_get (D := D) (ci := 4) (v := .ref (d 3 0)) (C := RX4) (T := TX4) (N := 9) hx hb hts (fun _ h9 => (List.mem_cons_of_mem _ (List.mem_append_right _ h9))) hown hK hP 0 rfl rfl 2 (by decide) (hts _ (List.mem_of_getElem? (i := 1) rfl)) (fun _ h9 => h9) rfl dX4_dropOldest_23 ?_
      refine lv_iload_n hx hb dX4_dropOldest_26 rfl (lv_at hl 0 rfl) ?_
      refine ar_qld hx hb hK hP 1 rfl 2 rfl (show vp_in (nI 2) 6 from vp_in_nI (by decide) (by decide)) (v 2 0) rfl dX4_dropOldest_27 ?_
      refine ar_qst hx hb hK hP hD hS 1 18 rfl rfl 1 rfl (show vp_in (nI 1) 6 from vp_in_nI (by decide) (by decide)) dX4_dropOldest_28 (wn := (wXo d ns ++ ([(d 3 0, .inl (k 2, 6, .inr (.inr (.inr (.inr (va_up (va_up (svA v) 0 (some (v 1 0))) 1 (some (v 2 0))))))))] ++ (wSt k (v 0) (Z 0) ++ (wSt k (v 1) (Z 1) ++ (wSt k (v 2) (Z 2) ++ (wSt k (v 3) (Z 3) ++ (wSt k (v 4) (Z 4) ++ (wSt k (v 5) (Z 5)))))))))) rfl (fun H locs hP hD hS => ?_)
      refine lv_iinc (v := 3) (lv' := [(2, .int 3), (1, .ref (v 0 0)), (0, .ref (d 0 0))]) hx hb dX4_dropOldest_29 hl (k := 0) rfl rfl (by decide) rfl (fun ls hl => ?_)
      refine lv_goto (tgt := 9) hx hb dX4_dropOldest_32 (by decide) ?_
      refine lv_iload_n hx hb dX4_dropOldest_9 rfl (lv_at hl 0 rfl) ?_
      refine lv_bipush (v := 6) hx hb dX4_dropOldest_10 (by decide) ?_
      refine lv_icmp_ge (tgt := 35) hx hb dX4_dropOldest_12 (by decide) (fun c_3 => ?_) (fun c_3 => ?_)
      · exact absurd c_3 (by decide)
      · refine lv_aload_n hx hb dX4_dropOldest_15 rfl (lv_at hl 2 rfl) ?_
        refine va_get (D := D) (ci := 4) (v := .ref (d 3 0)) (C := RX4) (T := TX4) (N := 9) hx hb hts (fun _ h9 => (List.mem_cons_of_mem _ (List.mem_append_right _ h9))) hown hK hP 0 rfl rfl 2 (by decide) (hts _ (List.mem_of_getElem? (i := 1) rfl)) (fun _ h9 => h9) rfl dX4_dropOldest_16 ?_
        refine lv_iload_n hx hb dX4_dropOldest_19 rfl (lv_at hl 0 rfl) ?_
        refine lv_iconst (v := 1) hx hb dX4_dropOldest_20 (by decide) ?_
        refine lv_isub hx hb dX4_dropOldest_21 ?_
        refine tp_e (y := 2) (by decide) ?_
        refine lv_aload_n hx hb dX4_dropOldest_22 rfl (lv_at hl 2 rfl) ?_
        refine va_get (D := D) (ci := 4) (v := .ref (d 3 0)) (C := RX4) (T := TX4) (N := 9) hx hb hts (fun _ h9 => (List.mem_cons_of_mem _ (List.mem_append_right _ h9))) hown hK hP 0 rfl rfl 2 (by decide) (hts _ (List.mem_of_getElem? (i := 1) rfl)) (fun _ h9 => h9) rfl dX4_dropOldest_23 ?_
        refine lv_iload_n hx hb dX4_dropOldest_26 rfl (lv_at hl 0 rfl) ?_
        refine ar_qld hx hb hK hP 1 rfl 3 rfl (show vp_in (nI 3) 6 from vp_in_nI (by decide) (by decide)) (v 3 0) rfl dX4_dropOldest_27 ?_
        refine ar_qst hx hb hK hP hD hS 1 26 rfl rfl 2 rfl (show vp_in (nI 2) 6 from vp_in_nI (by decide) (by decide)) dX4_dropOldest_28 (wn := (wXo d ns ++ ([(d 3 0, .inl (k 2, 6, .inr (.inr (.inr (.inr (va_up (va_up (va_up (svA v) 0 (some (v 1 0))) 1 (some (v 2 0))) 2 (some (v 3 0))))))))] ++ (wSt k (v 0) (Z 0) ++ (wSt k (v 1) (Z 1) ++ (wSt k (v 2) (Z 2) ++ (wSt k (v 3) (Z 3) ++ (wSt k (v 4) (Z 4) ++ (wSt k (v 5) (Z 5)))))))))) rfl (fun H locs hP hD hS => ?_)
        refine lv_iinc (v := 4) (lv' := [(2, .int 4), (1, .ref (v 0 0)), (0, .ref (d 0 0))]) hx hb dX4_dropOldest_29 hl (k := 0) rfl rfl (by decide) rfl (fun ls hl => ?_)
        refine lv_goto (tgt := 9) hx hb dX4_dropOldest_32 (by decide) ?_
        refine lv_iload_n hx hb dX4_dropOldest_9 rfl (lv_at hl 0 rfl) ?_
        refine lv_bipush (v := 6) hx hb dX4_dropOldest_10 (by decide) ?_
        refine lv_icmp_ge (tgt := 35) hx hb dX4_dropOldest_12 (by decide) (fun c_4 => ?_) (fun c_4 => ?_)
        · exact absurd c_4 (by decide)
        · refine lv_aload_n hx hb dX4_dropOldest_15 rfl (lv_at hl 2 rfl) ?_
          refine va_get (D := D) (ci := 4) (v := .ref (d 3 0)) (C := RX4) (T := TX4) (N := 9) hx hb hts (fun _ h9 => (List.mem_cons_of_mem _ (List.mem_append_right _ h9))) hown hK hP 0 rfl rfl 2 (by decide) (hts _ (List.mem_of_getElem? (i := 1) rfl)) (fun _ h9 => h9) rfl dX4_dropOldest_16 ?_
          refine lv_iload_n hx hb dX4_dropOldest_19 rfl (lv_at hl 0 rfl) ?_
          refine lv_iconst (v := 1) hx hb dX4_dropOldest_20 (by decide) ?_
          refine lv_isub hx hb dX4_dropOldest_21 ?_
          refine tp_e (y := 3) (by decide) ?_
          refine lv_aload_n hx hb dX4_dropOldest_22 rfl (lv_at hl 2 rfl) ?_
          refine va_get (D := D) (ci := 4) (v := .ref (d 3 0)) (C := RX4) (T := TX4) (N := 9) hx hb hts (fun _ h9 => (List.mem_cons_of_mem _ (List.mem_append_right _ h9))) hown hK hP 0 rfl rfl 2 (by decide) (hts _ (List.mem_of_getElem? (i := 1) rfl)) (fun _ h9 => h9) rfl dX4_dropOldest_23 ?_
          refine lv_iload_n hx hb dX4_dropOldest_26 rfl (lv_at hl 0 rfl) ?_
          refine ar_qld hx hb hK hP 1 rfl 4 rfl (show vp_in (nI 4) 6 from vp_in_nI (by decide) (by decide)) (v 4 0) rfl dX4_dropOldest_27 ?_
          refine ar_qst hx hb hK hP hD hS 1 34 rfl rfl 3 rfl (show vp_in (nI 3) 6 from vp_in_nI (by decide) (by decide)) dX4_dropOldest_28 (wn := (wXo d ns ++ ([(d 3 0, .inl (k 2, 6, .inr (.inr (.inr (.inr (va_up (va_up (va_up (va_up (svA v) 0 (some (v 1 0))) 1 (some (v 2 0))) 2 (some (v 3 0))) 3 (some (v 4 0))))))))] ++ (wSt k (v 0) (Z 0) ++ (wSt k (v 1) (Z 1) ++ (wSt k (v 2) (Z 2) ++ (wSt k (v 3) (Z 3) ++ (wSt k (v 4) (Z 4) ++ (wSt k (v 5) (Z 5)))))))))) rfl (fun H locs hP hD hS => ?_)
          refine lv_iinc (v := 5) (lv' := [(2, .int 5), (1, .ref (v 0 0)), (0, .ref (d 0 0))]) hx hb dX4_dropOldest_29 hl (k := 0) rfl rfl (by decide) rfl (fun ls hl => ?_)
          refine lv_goto (tgt := 9) hx hb dX4_dropOldest_32 (by decide) ?_
          refine lv_iload_n hx hb dX4_dropOldest_9 rfl (lv_at hl 0 rfl) ?_
          refine lv_bipush (v := 6) hx hb dX4_dropOldest_10 (by decide) ?_
          refine lv_icmp_ge (tgt := 35) hx hb dX4_dropOldest_12 (by decide) (fun c_5 => ?_) (fun c_5 => ?_)
          · exact absurd c_5 (by decide)
          · refine lv_aload_n hx hb dX4_dropOldest_15 rfl (lv_at hl 2 rfl) ?_
            refine va_get (D := D) (ci := 4) (v := .ref (d 3 0)) (C := RX4) (T := TX4) (N := 9) hx hb hts (fun _ h9 => (List.mem_cons_of_mem _ (List.mem_append_right _ h9))) hown hK hP 0 rfl rfl 2 (by decide) (hts _ (List.mem_of_getElem? (i := 1) rfl)) (fun _ h9 => h9) rfl dX4_dropOldest_16 ?_
            refine lv_iload_n hx hb dX4_dropOldest_19 rfl (lv_at hl 0 rfl) ?_
            refine lv_iconst (v := 1) hx hb dX4_dropOldest_20 (by decide) ?_
            refine lv_isub hx hb dX4_dropOldest_21 ?_
            refine tp_e (y := 4) (by decide) ?_
            refine lv_aload_n hx hb dX4_dropOldest_22 rfl (lv_at hl 2 rfl) ?_
            refine va_get (D := D) (ci := 4) (v := .ref (d 3 0)) (C := RX4) (T := TX4) (N := 9) hx hb hts (fun _ h9 => (List.mem_cons_of_mem _ (List.mem_append_right _ h9))) hown hK hP 0 rfl rfl 2 (by decide) (hts _ (List.mem_of_getElem? (i := 1) rfl)) (fun _ h9 => h9) rfl dX4_dropOldest_23 ?_
            refine lv_iload_n hx hb dX4_dropOldest_26 rfl (lv_at hl 0 rfl) ?_
            refine ar_qld hx hb hK hP 1 rfl 5 rfl (show vp_in (nI 5) 6 from vp_in_nI (by decide) (by decide)) (v 5 0) rfl dX4_dropOldest_27 ?_
            refine ar_qst hx hb hK hP hD hS 1 42 rfl rfl 4 rfl (show vp_in (nI 4) 6 from vp_in_nI (by decide) (by decide)) dX4_dropOldest_28 (wn := (wXo d ns ++ ([(d 3 0, .inl (k 2, 6, .inr (.inr (.inr (.inr (va_up (va_up (va_up (va_up (va_up (svA v) 0 (some (v 1 0))) 1 (some (v 2 0))) 2 (some (v 3 0))) 3 (some (v 4 0))) 4 (some (v 5 0))))))))] ++ (wSt k (v 0) (Z 0) ++ (wSt k (v 1) (Z 1) ++ (wSt k (v 2) (Z 2) ++ (wSt k (v 3) (Z 3) ++ (wSt k (v 4) (Z 4) ++ (wSt k (v 5) (Z 5)))))))))) rfl (fun H locs hP hD hS => ?_)
            refine lv_iinc (v := 6) (lv' := [(2, .int 6), (1, .ref (v 0 0)), (0, .ref (d 0 0))]) hx hb dX4_dropOldest_29 hl (k := 0) rfl rfl (by decide) rfl (fun ls hl => ?_)
            refine lv_goto (tgt := 9) hx hb dX4_dropOldest_32 (by decide) ?_
            refine lv_iload_n hx hb dX4_dropOldest_9 rfl (lv_at hl 0 rfl) ?_
            refine lv_bipush (v := 6) hx hb dX4_dropOldest_10 (by decide) ?_
            refine lv_icmp_ge (tgt := 35) hx hb dX4_dropOldest_12 (by decide) (fun c_6 => ?_) (fun c_6 => ?_)
            · refine lv_aload_n hx hb dX4_dropOldest_35 rfl (lv_at hl 2 rfl) ?_
              refine va_get (D := D) (ci := 4) (v := .ref (d 3 0)) (C := RX4) (T := TX4) (N := 9) hx hb hts (fun _ h9 => (List.mem_cons_of_mem _ (List.mem_append_right _ h9))) hown hK hP 0 rfl rfl 2 (by decide) (hts _ (List.mem_of_getElem? (i := 1) rfl)) (fun _ h9 => h9) rfl dX4_dropOldest_36 ?_
              refine lv_iconst (v := 5) hx hb dX4_dropOldest_39 (by decide) ?_
              refine lv_aload_n hx hb dX4_dropOldest_40 rfl (lv_at hl 1 rfl) ?_
              refine ar_qst hx hb hK hP hD hS 1 2 rfl rfl 5 rfl (show vp_in (nI 5) 6 from vp_in_nI (by decide) (by decide)) dX4_dropOldest_41 (wn := (wXo d ns ++ ([(d 3 0, .inl (k 2, 6, .inr (.inr (.inr (.inr (va_up (va_up (va_up (va_up (va_up (va_up (svA v) 0 (some (v 1 0))) 1 (some (v 2 0))) 2 (some (v 3 0))) 3 (some (v 4 0))) 4 (some (v 5 0))) 5 (some (v 0 0))))))))] ++ (wSt k (v 0) (Z 0) ++ (wSt k (v 1) (Z 1) ++ (wSt k (v 2) (Z 2) ++ (wSt k (v 3) (Z 3) ++ (wSt k (v 4) (Z 4) ++ (wSt k (v 5) (Z 5)))))))))) rfl (fun H locs hP hD hS => ?_)
              refine lv_aload_n hx hb dX4_dropOldest_42 rfl (lv_at hl 2 rfl) ?_
              refine lv_iconst (v := 5) hx hb dX4_dropOldest_43 (by decide) ?_
              refine va_put (D := D) (ci := 4) (v := .int 5) (ty := tyX4 3) (C := RX4) (T := TX4) (N := 9) hx hb hts (fun _ h9 => (List.mem_cons_of_mem _ (List.mem_append_right _ h9))) tyX4 tyX4_ok nmX4 hown hK hP hD hS 0 rfl rfl 3 (by decide) (hts _ (List.mem_of_getElem? (i := 2) rfl)) (fun _ h9 => h9) rfl (tyX4_ok 3 (by decide)) rfl rfl (Nat.le_of_ble_eq_true rfl) dX4_dropOldest_44 (fun H locs hP hD hS => ?_)
              have hP : va_P D vwCl ([(d 0 0, .inr (4, [.ref (d 1 0), .ref (d 2 0), .ref (d 3 0), .int 5, .ref (d 4 0), .ref (d 5 0), .ref (d 6 0), .ref (d 8 0), .ref (d 10 0)]))] ++ ([(d 3 0, .inl (k 2, 6, .inr (.inr (.inr (.inr (va_up (va_up (va_up (va_up (va_up (va_up (svA v) 0 (some (v 1 0))) 1 (some (v 2 0))) 2 (some (v 3 0))) 3 (some (v 4 0))) 4 (some (v 5 0))) 5 (some (v 0 0))))))))] ++ (wSt k (v 0) (Z 0) ++ (wSt k (v 1) (Z 1) ++ (wSt k (v 2) (Z 2) ++ (wSt k (v 3) (Z 3) ++ (wSt k (v 4) (Z 4) ++ (wSt k (v 5) (Z 5))))))))) H := hP
              have hD : va_D A ([(d 0 0, .inr (4, [.ref (d 1 0), .ref (d 2 0), .ref (d 3 0), .int 5, .ref (d 4 0), .ref (d 5 0), .ref (d 6 0), .ref (d 8 0), .ref (d 10 0)]))] ++ ([(d 3 0, .inl (k 2, 6, .inr (.inr (.inr (.inr (va_up (va_up (va_up (va_up (va_up (va_up (svA v) 0 (some (v 1 0))) 1 (some (v 2 0))) 2 (some (v 3 0))) 3 (some (v 4 0))) 4 (some (v 5 0))) 5 (some (v 0 0))))))))] ++ (wSt k (v 0) (Z 0) ++ (wSt k (v 1) (Z 1) ++ (wSt k (v 2) (Z 2) ++ (wSt k (v 3) (Z 3) ++ (wSt k (v 4) (Z 4) ++ (wSt k (v 5) (Z 5))))))))) := hD
              have hP : va_P D vwCl ([(d 0 0, .inr (4, [.ref (d 1 0), .ref (d 2 0), .ref (d 3 0), .int 5, .ref (d 4 0), .ref (d 5 0), .ref (d 6 0), .ref (d 8 0), .ref (d 10 0)]))] ++ ([(d 3 0, .inl (k 2, 6, .inr (.inr (.inr (.inr (svA (rotL v)))))))] ++ (wSt k (v 0) (Z 0) ++ (wSt k (v 1) (Z 1) ++ (wSt k (v 2) (Z 2) ++ (wSt k (v 3) (Z 3) ++ (wSt k (v 4) (Z 4) ++ (wSt k (v 5) (Z 5))))))))) H := va_P.extq hP hD 1 rfl (svA (rotL v)) (fun j hj => by rcases (show j = 0 ∨ j = 1 ∨ j = 2 ∨ j = 3 ∨ j = 4 ∨ j = 5 by omega) with rfl | rfl | rfl | rfl | rfl | rfl <;> rfl)
              have hD : va_D A ([(d 0 0, .inr (4, [.ref (d 1 0), .ref (d 2 0), .ref (d 3 0), .int 5, .ref (d 4 0), .ref (d 5 0), .ref (d 6 0), .ref (d 8 0), .ref (d 10 0)]))] ++ ([(d 3 0, .inl (k 2, 6, .inr (.inr (.inr (.inr (svA (rotL v)))))))] ++ (wSt k (v 0) (Z 0) ++ (wSt k (v 1) (Z 1) ++ (wSt k (v 2) (Z 2) ++ (wSt k (v 3) (Z 3) ++ (wSt k (v 4) (Z 4) ++ (wSt k (v 5) (Z 5))))))))) := hD.addr (by rfl)
              subst hQ
              exact rt_vD hx hb hr hlocks hS dX4_dropOldest_47 (hP.sub [0, 1, 10, 11, 12, 13, 14, 15, 16, 17, 18, 19, 20, 21, 22, 23, 24, 25, 26, 27, 28, 29, 30, 31, 32, 33, 34, 35, 36, 37, 38, 39, 40, 41, 42, 43, 44, 45, 46, 47, 48, 49, 2, 3, 4, 5, 6, 7, 8, 9] rfl) (hD.sub [0, 1, 10, 11, 12, 13, 14, 15, 16, 17, 18, 19, 20, 21, 22, 23, 24, 25, 26, 27, 28, 29, 30, 31, 32, 33, 34, 35, 36, 37, 38, 39, 40, 41, 42, 43, 44, 45, 46, 47, 48, 49, 2, 3, 4, 5, 6, 7, 8, 9] (by decide +kernel) rfl)
            · exact absurd c_6 (by decide)
