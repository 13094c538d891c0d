def ntF (S : Nat → Nat → Int32) (nw r : Nat) (v : Int32) : Int32 := if nw ≤ r then -1 else v

set_option maxHeartbeats 1000000 in
set_option maxRecDepth 100000 in
theorem c_X4_noted_0 (l : Launch) (D : va_G) (k : Nat → ClassId) (d : Nat → Nat → Nat) (ns : Int32) (S : Nat → Nat → Int32) (V : Nat → Nat → Int32) (al op wf bh ah : Nat → Int32) (tr : Int32) (r nw : Nat) (hr31 : r < 2 ^ 31) (hnw : S 7 0 = nI nw) (hnw2 : nw ≤ 12) : MI l yX4_noted wsX4_noted ({ frames := 0, cells := 0, slots := 0, locals := 0 }) D k [.ref (d 0 0), .int (nI r), .int 0] (wXo d ns ++ (wSt k (d 1) S ++ (wWays k (d 8) (d 9) V al op wf ++ (wRw k (d 10) bh ah tr)))) (ntF S nw r (S 5 r)) (wXo d ns ++ (wSt k (d 1) S ++ (wWays k (d 8) (d 9) V al op wf ++ (wRw k (d 10) bh ah tr)))) := by
  intro sz
  refine Met.ofW (cc := cX4_noted) (maxL := 3) (ret := (some .int)) (by decide) rfl ?_
  intro p e s m args below meth c s₁ B hml hv
  obtain ⟨rfl, hN, hsz, hP, hK, hD0⟩ := hv
  have hx := B.exec
  have hb := B.bytes
  have hr := B.returns
  have hts := atoms_spec (ws := wsX4_noted) B.pre
  have hown : s.vm.findClass RX4 = some m.cls := findClass_of_methodNamed B.named
  have hlocks := B.notSynchronized
  subst hsz
  have hD := hD0.self (sz := s.heap.size)
  generalize hAe : va_A (wXo d ns ++ (wSt k (d 1) S ++ (wWays k (d 8) (d 9) V al op wf ++ (wRw k (d 10) bh ah tr)))) s.heap.size = A at hD ⊢
  have hA : ∀ q : Nat, s.heap.size ≤ q → A q := fun q h => by rw [← hAe]; exact Or.inr h
  have hS : va_S A s.heap s.heap [] := va_S.rf
  have hl := lv_entry ([.ref (d 0 0), .int (nI r), .int 0]) (n := 3) (Nat.le_of_ble_eq_true rfl)
  rw [lg_entry_eq]
  generalize (lg_sl ([.ref (d 0 0), .int (nI r), .int 0]) ++ List.replicate (3 - (lg_sl ([.ref (d 0 0), .int (nI r), .int 0])).length) Slot.unset).toArray = ls at hl ⊢
  have hl : lv_has ls 3 [(0, .ref (d 0 0)), (1, .int (nI r)), (2, .int 0)] := hl
  obtain ⟨H, hHe⟩ : ∃ H, H = s.heap := ⟨_, rfl⟩
  have hP : va_P D vwCl (wXo d ns ++ (wSt k (d 1) S ++ (wWays k (d 8) (d 9) V al op wf ++ (wRw k (d 10) bh ah tr)))) H := by rw [hHe]; exact hP
  have hS : va_S A s.heap H [] := by rw [hHe]; exact hS
  rw [← hHe]
  refine absQ (fun Q hQ => ?_)
  refine lv_iload_n hx hb dX4_noted_0 rfl (lv_at hl 1 rfl) ?_
  refine lv_if_lt (tgt := 13) hx hb dX4_noted_1 (by decide) (fun c_1 => ?_) (fun c_1 => ?_)
  · have c_1 : r < 0 := (nI_ltI (a := r) (b := 0) (by omega) (by omega)).mp c_1
    exact absurd c_1 (by omega)
  · have c_1 : ¬ (r < 0) := fun h9 => c_1 ((nI_ltI (a := r) (b := 0) (by omega) (by omega)).mpr h9)
    refine lv_iload_n hx hb dX4_noted_4 rfl (lv_at hl 2 rfl) ?_
    refine lv_if_lt (tgt := 13) hx hb dX4_noted_5 (by decide) (fun c_2 => ?_) (fun c_2 => ?_)
    · exact absurd c_2 (by decide)
    · refine lv_iload_n hx hb dX4_noted_8 rfl (lv_at hl 2 rfl) ?_
      refine lv_iconst (v := 3) hx hb dX4_noted_9 (by decide) ?_
      refine lv_icmp_lt (tgt := 23) hx hb dX4_noted_10 (by decide) (fun c_3 => ?_) (fun c_3 => ?_)
      · refine lv_iload_n hx hb dX4_noted_23 rfl (lv_at hl 1 rfl) ?_
        refine lv_aload_n hx hb dX4_noted_24 rfl (lv_at hl 0 rfl) ?_
        refine va_get (D := D) (ci := 4) (v := .ref (d 1 0)) (C := RX4) (T := TX4) (N := 9) hx hb hts (fun _ h9 => (List.mem_cons_of_mem _ (List.mem_append_left _ (List.mem_append_left _ (List.mem_append_right _ h9))))) hown hK hP 0 rfl rfl 0 (by decide) (hts _ (List.mem_of_getElem? (i := 3) rfl)) (fun _ h9 => h9) rfl dX4_noted_25 ?_
        refine va_get (D := D) (ci := 1) (v := .int (S 7 0)) (C := RX1) (T := TX1) (N := 10) hx hb hts (fun _ h9 => (List.mem_cons_of_mem _ (List.mem_append_left _ (List.mem_append_right _ h9)))) hown hK hP 1 rfl rfl 7 (by decide) (hts _ (List.mem_of_getElem? (i := 4) rfl)) (fun _ h9 => h9) rfl dX4_noted_28 ?_
        refine tp_e (y := (nI nw)) hnw ?_
        refine lv_icmp_ge (tgt := 40) hx hb dX4_noted_31 (by decide) (fun c_4 => ?_) (fun c_4 => ?_)
        · have c_4 : nw ≤ r := (nI_leI (a := nw) (b := r) (by omega) (by omega)).mp c_4
          refine lv_iconst (v := (-1)) hx hb dX4_noted_40 (by decide) ?_
          subst hQ
          exact rt_i hx hb hr hlocks hS dX4_noted_41 (hP) (by rw [ntF, if_pos c_4])
        · have c_4 : ¬ (nw ≤ r) := fun h9 => c_4 ((nI_leI (a := nw) (b := r) (by omega) (by omega)).mpr h9)
          refine lv_iload_n hx hb dX4_noted_34 rfl (lv_at hl 1 rfl) ?_
          refine lv_bipush (v := 12) hx hb dX4_noted_35 (by decide) ?_
          refine lv_icmp_lt (tgt := 42) hx hb dX4_noted_37 (by decide) (fun c_5 => ?_) (fun c_5 => ?_)
          · have c_5 : r < 12 := (nI_ltI (a := r) (b := 12) (by omega) (by omega)).mp c_5
            refine lv_iload_n hx hb dX4_noted_42 rfl (lv_at hl 2 rfl) ?_
            refine lv_if_ne (tgt := 56) hx hb dX4_noted_43 (by decide) (fun c_6 => ?_) (fun c_6 => ?_)
            · exact absurd c_6 (by decide)
            · refine lv_aload_n hx hb dX4_noted_46 rfl (lv_at hl 0 rfl) ?_
              refine va_get (D := D) (ci := 4) (v := .ref (d 1 0)) (C := RX4) (T := TX4) (N := 9) hx hb hts (fun _ h9 => (List.mem_cons_of_mem _ (List.mem_append_left _ (List.mem_append_left _ (List.mem_append_right _ h9))))) hown hK hP 0 rfl rfl 0 (by decide) (hts _ (List.mem_of_getElem? (i := 3) rfl)) (fun _ h9 => h9) rfl dX4_noted_47 ?_
              refine va_get (D := D) (ci := 1) (v := .ref ((d 1) 6)) (C := RX1) (T := TX1) (N := 10) hx hb hts (fun _ h9 => (List.mem_cons_of_mem _ (List.mem_append_left _ (List.mem_append_right _ h9)))) hown hK hP 1 rfl rfl 5 (by decide) (hts _ (List.mem_of_getElem? (i := 5) rfl)) (fun _ h9 => h9) rfl dX4_noted_50 ?_
              refine lv_iload_n hx hb dX4_noted_53 rfl (lv_at hl 1 rfl) ?_
              refine ar_ld hx hb hK hP 7 rfl r (nI_clamp (by omega)) (vp_in_nI (by omega) (by omega)) dX4_noted_54 ?_
              subst hQ
              exact rt_i hx hb hr hlocks hS dX4_noted_55 (hP) (by rw [ntF, if_neg c_4])
          · have c_5 : ¬ (r < 12) := fun h9 => c_5 ((nI_ltI (a := r) (b := 12) (by omega) (by omega)).mpr h9)
            exact absurd c_5 (by omega)
      · exact absurd c_3 (by decide)

set_option maxHeartbeats 1000000 in
set_option maxRecDepth 100000 in
theorem c_X4_noted_1 (l : Launch) (D : va_G) (k : Nat → ClassId) (d : Nat → Nat → Nat) (ns : Int32) (S : Nat → Nat → Int32) (V : Nat → Nat → Int32) (al op wf bh ah : Nat → Int32) (tr : Int32) (r nw : Nat) (hr31 : r < 2 ^ 31) (hnw : S 7 0 = nI nw) (hnw2 : nw ≤ 12) : MI l yX4_noted wsX4_noted ({ frames := 0, cells := 0, slots := 0, locals := 0 }) D k [.ref (d 0 0), .int (nI r), .int 1] (wXo d ns ++ (wSt k (d 1) S ++ (wWays k (d 8) (d 9) V al op wf ++ (wRw k (d 10) bh ah tr)))) (ntF S nw r (S 6 r)) (wXo d ns ++ (wSt k (d 1) S ++ (wWays k (d 8) (d 9) V al op wf ++ (wRw k (d 10) bh ah tr)))) := by
  intro sz
  refine Met.ofW (cc := cX4_noted) (maxL := 3) (ret := (some .int)) (by decide) rfl ?_
  intro p e s m args below meth c s₁ B hml hv
  obtain ⟨rfl, hN, hsz, hP, hK, hD0⟩ := hv
  have hx := B.exec
  have hb := B.bytes
  have hr := B.returns
  have hts := atoms_spec (ws := wsX4_noted) B.pre
  have hown : s.vm.findClass RX4 = some m.cls := findClass_of_methodNamed B.named
  have hlocks := B.notSynchronized
  subst hsz
  have hD := hD0.self (sz := s.heap.size)
  generalize hAe : va_A (wXo d ns ++ (wSt k (d 1) S ++ (wWays k (d 8) (d 9) V al op wf ++ (wRw k (d 10) bh ah tr)))) s.heap.size = A at hD ⊢
  have hA : ∀ q : Nat, s.heap.size ≤ q → A q := fun q h => by rw [← hAe]; exact Or.inr h
  have hS : va_S A s.heap s.heap [] := va_S.rf
  have hl := lv_entry ([.ref (d 0 0), .int (nI r), .int 1]) (n := 3) (Nat.le_of_ble_eq_true rfl)
  rw [lg_entry_eq]
  generalize (lg_sl ([.ref (d 0 0), .int (nI r), .int 1]) ++ List.replicate (3 - (lg_sl ([.ref (d 0 0), .int (nI r), .int 1])).length) Slot.unset).toArray = ls at hl ⊢
  have hl : lv_has ls 3 [(0, .ref (d 0 0)), (1, .int (nI r)), (2, .int 1)] := hl
  obtain ⟨H, hHe⟩ : ∃ H, H = s.heap := ⟨_, rfl⟩
  have hP : va_P D vwCl (wXo d ns ++ (wSt k (d 1) S ++ (wWays k (d 8) (d 9) V al op wf ++ (wRw k (d 10) bh ah tr)))) H := by rw [hHe]; exact hP
  have hS : va_S A s.heap H [] := by rw [hHe]; exact hS
  rw [← hHe]
  refine absQ (fun Q hQ => ?_)
  refine lv_iload_n hx hb dX4_noted_0 rfl (lv_at hl 1 rfl) ?_
  refine lv_if_lt (tgt := 13) hx hb dX4_noted_1 (by decide) (fun c_1 => ?_) (fun c_1 => ?_)
  · have c_1 : r < 0 := (nI_ltI (a := r) (b := 0) (by omega) (by omega)).mp c_1
    exact absurd c_1 (by omega)
  · have c_1 : ¬ (r < 0) := fun h9 => c_1 ((nI_ltI (a := r) (b := 0) (by omega) (by omega)).mpr h9)
    refine lv_iload_n hx hb dX4_noted_4 rfl (lv_at hl 2 rfl) ?_
    refine lv_if_lt (tgt := 13) hx hb dX4_noted_5 (by decide) (fun c_2 => ?_) (fun c_2 => ?_)
    · exact absurd c_2 (by decide)
    · refine lv_iload_n hx hb dX4_noted_8 rfl (lv_at hl 2 rfl) ?_
      refine lv_iconst (v := 3) hx hb dX4_noted_9 (by decide) ?_
      refine lv_icmp_lt (tgt := 23) hx hb dX4_noted_10 (by decide) (fun c_3 => ?_) (fun c_3 => ?_)
      · refine lv_iload_n hx hb dX4_noted_23 rfl (lv_at hl 1 rfl) ?_
        refine lv_aload_n hx hb dX4_noted_24 rfl (lv_at hl 0 rfl) ?_
        refine va_get (D := D) (ci := 4) (v := .ref (d 1 0)) (C := RX4) (T := TX4) (N := 9) hx hb hts (fun _ h9 => (List.mem_cons_of_mem _ (List.mem_append_left _ (List.mem_append_left _ (List.mem_append_right _ h9))))) hown hK hP 0 rfl rfl 0 (by decide) (hts _ (List.mem_of_getElem? (i := 3) rfl)) (fun _ h9 => h9) rfl dX4_noted_25 ?_
        refine va_get (D := D) (ci := 1) (v := .int (S 7 0)) (C := RX1) (T := TX1) (N := 10) hx hb hts (fun _ h9 => (List.mem_cons_of_mem _ (List.mem_append_left _ (List.mem_append_right _ h9)))) hown hK hP 1 rfl rfl 7 (by decide) (hts _ (List.mem_of_getElem? (i := 4) rfl)) (fun _ h9 => h9) rfl dX4_noted_28 ?_
        refine tp_e (y := (nI nw)) hnw ?_
        refine lv_icmp_ge (tgt := 40) hx hb dX4_noted_31 (by decide) (fun c_4 => ?_) (fun c_4 => ?_)
        · have c_4 : nw ≤ r := (nI_leI (a := nw) (b := r) (by omega) (by omega)).mp c_4
          refine lv_iconst (v := (-1)) hx hb dX4_noted_40 (by decide) ?_
          subst hQ
          exact rt_i hx hb hr hlocks hS dX4_noted_41 (hP) (by rw [ntF, if_pos c_4])
        · have c_4 : ¬ (nw ≤ r) := fun h9 => c_4 ((nI_leI (a := nw) (b := r) (by omega) (by omega)).mpr h9)
          refine lv_iload_n hx hb dX4_noted_34 rfl (lv_at hl 1 rfl) ?_
          refine lv_bipush (v := 12) hx hb dX4_noted_35 (by decide) ?_
          refine lv_icmp_lt (tgt := 42) hx hb dX4_noted_37 (by decide) (fun c_5 => ?_) (fun c_5 => ?_)
          · have c_5 : r < 12 := (nI_ltI (a := r) (b := 12) (by omega) (by omega)).mp c_5
            refine lv_iload_n hx hb dX4_noted_42 rfl (lv_at hl 2 rfl) ?_
            refine lv_if_ne (tgt := 56) hx hb dX4_noted_43 (by decide) (fun c_6 => ?_) (fun c_6 => ?_)
            · refine lv_iload_n hx hb dX4_noted_56 rfl (lv_at hl 2 rfl) ?_
              refine lv_iconst (v := 1) hx hb dX4_noted_57 (by decide) ?_
              refine lv_icmp_ne (tgt := 73) hx hb dX4_noted_58 (by decide) (fun c_7 => ?_) (fun c_7 => ?_)
              · exact absurd c_7 (by decide)
              · refine lv_aload_n hx hb dX4_noted_61 rfl (lv_at hl 0 rfl) ?_
                refine va_get (D := D) (ci := 4) (v := .ref (d 1 0)) (C := RX4) (T := TX4) (N := 9) hx hb hts (fun _ h9 => (List.mem_cons_of_mem _ (List.mem_append_left _ (List.mem_append_left _ (List.mem_append_right _ h9))))) hown hK hP 0 rfl rfl 0 (by decide) (hts _ (List.mem_of_getElem? (i := 3) rfl)) (fun _ h9 => h9) rfl dX4_noted_62 ?_
                refine va_get (D := D) (ci := 1) (v := .ref ((d 1) 7)) (C := RX1) (T := TX1) (N := 10) hx hb hts (fun _ h9 => (List.mem_cons_of_mem _ (List.mem_append_left _ (List.mem_append_right _ h9)))) hown hK hP 1 rfl rfl 6 (by decide) (hts _ (List.mem_of_getElem? (i := 6) rfl)) (fun _ h9 => h9) rfl dX4_noted_65 ?_
                refine lv_iload_n hx hb dX4_noted_68 rfl (lv_at hl 1 rfl) ?_
                refine ar_ld hx hb hK hP 8 rfl r (nI_clamp (by omega)) (vp_in_nI (by omega) (by omega)) dX4_noted_69 ?_
                refine lv_goto (tgt := 85) hx hb dX4_noted_70 (by decide) ?_
                subst hQ
                exact rt_i hx hb hr hlocks hS dX4_noted_85 (hP) (by rw [ntF, if_neg c_4])
            · exact absurd c_6 (by decide)
          · have c_5 : ¬ (r < 12) := fun h9 => c_5 ((nI_ltI (a := r) (b := 12) (by omega) (by omega)).mpr h9)
            exact absurd c_5 (by omega)
      · exact absurd c_3 (by decide)

set_option maxHeartbeats 1000000 in
set_option maxRecDepth 100000 in
theorem c_X4_noted_2 (l : Launch) (D : va_G) (k : Nat → ClassId) (d : Nat → Nat → Nat) (ns : Int32) (S : Nat → Nat → Int32) (V : Nat → Nat → Int32) (al op wf bh ah : Nat → Int32) (tr : Int32) (r nw : Nat) (hr31 : r < 2 ^ 31) (hnw : S 7 0 = nI nw) (hnw2 : nw ≤ 12) : MI l yX4_noted wsX4_noted ({ frames := 1, cells := 0, slots := 0, locals := 20 }) D k [.ref (d 0 0), .int (nI r), .int 2] (wXo d ns ++ (wSt k (d 1) S ++ (wWays k (d 8) (d 9) V al op wf ++ (wRw k (d 10) bh ah tr)))) (ntF S nw r (bcF (S 6 r))) (wXo d ns ++ (wSt k (d 1) S ++ (wWays k (d 8) (d 9) V al op wf ++ (wRw k (d 10) bh ah tr)))) := by
  intro sz
  refine Met.ofW (cc := cX4_noted) (maxL := 3) (ret := (some .int)) (by decide) rfl ?_
  intro p e s m args below meth c s₁ B hml hv
  obtain ⟨rfl, hN, hsz, hP, hK, hD0⟩ := hv
  have hx := B.exec
  have hb := B.bytes
  have hr := B.returns
  have hts := atoms_spec (ws := wsX4_noted) B.pre
  have hown : s.vm.findClass RX4 = some m.cls := findClass_of_methodNamed B.named
  have hlocks := B.notSynchronized
  subst hsz
  have hD := hD0.self (sz := s.heap.size)
  generalize hAe : va_A (wXo d ns ++ (wSt k (d 1) S ++ (wWays k (d 8) (d 9) V al op wf ++ (wRw k (d 10) bh ah tr)))) s.heap.size = A at hD ⊢
  have hA : ∀ q : Nat, s.heap.size ≤ q → A q := fun q h => by rw [← hAe]; exact Or.inr h
  have hS : va_S A s.heap s.heap [] := va_S.rf
  have hl := lv_entry ([.ref (d 0 0), .int (nI r), .int 2]) (n := 3) (Nat.le_of_ble_eq_true rfl)
  rw [lg_entry_eq]
  generalize (lg_sl ([.ref (d 0 0), .int (nI r), .int 2]) ++ List.replicate (3 - (lg_sl ([.ref (d 0 0), .int (nI r), .int 2])).length) Slot.unset).toArray = ls at hl ⊢
  have hl : lv_has ls 3 [(0, .ref (d 0 0)), (1, .int (nI r)), (2, .int 2)] := hl
  obtain ⟨H, hHe⟩ : ∃ H, H = s.heap := ⟨_, rfl⟩
  have hP : va_P D vwCl (wXo d ns ++ (wSt k (d 1) S ++ (wWays k (d 8) (d 9) V al op wf ++ (wRw k (d 10) bh ah tr)))) H := by rw [hHe]; exact hP
  have hS : va_S A s.heap H [] := by rw [hHe]; exact hS
  rw [← hHe]
  refine absQ (fun Q hQ => ?_)
  refine lv_iload_n hx hb dX4_noted_0 rfl (lv_at hl 1 rfl) ?_
  refine lv_if_lt (tgt := 13) hx hb dX4_noted_1 (by decide) (fun c_1 => ?_) (fun c_1 => ?_)
  · have c_1 : r < 0 := (nI_ltI (a := r) (b := 0) (by omega) (by omega)).mp c_1
    exact absurd c_1 (by omega)
  · have c_1 : ¬ (r < 0) := fun h9 => c_1 ((nI_ltI (a := r) (b := 0) (by omega) (by omega)).mpr h9)
    refine lv_iload_n hx hb dX4_noted_4 rfl (lv_at hl 2 rfl) ?_
    refine lv_if_lt (tgt := 13) hx hb dX4_noted_5 (by decide) (fun c_2 => ?_) (fun c_2 => ?_)
    · exact absurd c_2 (by decide)
    · refine lv_iload_n hx hb dX4_noted_8 rfl (lv_at hl 2 rfl) ?_
      refine lv_iconst (v := 3) hx hb dX4_noted_9 (by decide) ?_
      refine lv_icmp_lt (tgt := 23) hx hb dX4_noted_10 (by decide) (fun c_3 => ?_) (fun c_3 => ?_)
      · refine lv_iload_n hx hb dX4_noted_23 rfl (lv_at hl 1 rfl) ?_
        refine lv_aload_n hx hb dX4_noted_24 rfl (lv_at hl 0 rfl) ?_
        refine va_get (D := D) (ci := 4) (v := .ref (d 1 0)) (C := RX4) (T := TX4) (N := 9) hx hb hts (fun _ h9 => (List.mem_cons_of_mem _ (List.mem_append_left _ (List.mem_append_left _ (List.mem_append_right _ h9))))) hown hK hP 0 rfl rfl 0 (by decide) (hts _ (List.mem_of_getElem? (i := 3) rfl)) (fun _ h9 => h9) rfl dX4_noted_25 ?_
        refine va_get (D := D) (ci := 1) (v := .int (S 7 0)) (C := RX1) (T := TX1) (N := 10) hx hb hts (fun _ h9 => (List.mem_cons_of_mem _ (List.mem_append_left _ (List.mem_append_right _ h9)))) hown hK hP 1 rfl rfl 7 (by decide) (hts _ (List.mem_of_getElem? (i := 4) rfl)) (fun _ h9 => h9) rfl dX4_noted_28 ?_
        refine tp_e (y := (nI nw)) hnw ?_
        refine lv_icmp_ge (tgt := 40) hx hb dX4_noted_31 (by decide) (fun c_4 => ?_) (fun c_4 => ?_)
        · have c_4 : nw ≤ r := (nI_leI (a := nw) (b := r) (by omega) (by omega)).mp c_4
          refine lv_iconst (v := (-1)) hx hb dX4_noted_40 (by decide) ?_
          subst hQ
          exact rt_i hx hb hr hlocks hS dX4_noted_41 (hP) (by rw [ntF, if_pos c_4])
        · have c_4 : ¬ (nw ≤ r) := fun h9 => c_4 ((nI_leI (a := nw) (b := r) (by omega) (by omega)).mpr h9)
          refine lv_iload_n hx hb dX4_noted_34 rfl (lv_at hl 1 rfl) ?_
          refine lv_bipush (v := 12) hx hb dX4_noted_35 (by decide) ?_
          refine lv_icmp_lt (tgt := 42) hx hb dX4_noted_37 (by decide) (fun c_5 => ?_) (fun c_5 => ?_)
          · have c_5 : r < 12 := (nI_ltI (a := r) (b := 12) (by omega) (by omega)).mp c_5
            refine lv_iload_n hx hb dX4_noted_42 rfl (lv_at hl 2 rfl) ?_
            refine lv_if_ne (tgt := 56) hx hb dX4_noted_43 (by decide) (fun c_6 => ?_) (fun c_6 => ?_)
            · refine lv_iload_n hx hb dX4_noted_56 rfl (lv_at hl 2 rfl) ?_
              refine lv_iconst (v := 1) hx hb dX4_noted_57 (by decide) ?_
              refine lv_icmp_ne (tgt := 73) hx hb dX4_noted_58 (by decide) (fun c_7 => ?_) (fun c_7 => ?_)
              · refine lv_aload_n hx hb dX4_noted_73 rfl (lv_at hl 0 rfl) ?_
                refine va_get (D := D) (ci := 4) (v := .ref (d 1 0)) (C := RX4) (T := TX4) (N := 9) hx hb hts (fun _ h9 => (List.mem_cons_of_mem _ (List.mem_append_left _ (List.mem_append_left _ (List.mem_append_right _ h9))))) hown hK hP 0 rfl rfl 0 (by decide) (hts _ (List.mem_of_getElem? (i := 3) rfl)) (fun _ h9 => h9) rfl dX4_noted_74 ?_
                refine va_get (D := D) (ci := 1) (v := .ref ((d 1) 7)) (C := RX1) (T := TX1) (N := 10) hx hb hts (fun _ h9 => (List.mem_cons_of_mem _ (List.mem_append_left _ (List.mem_append_right _ h9)))) hown hK hP 1 rfl rfl 6 (by decide) (hts _ (List.mem_of_getElem? (i := 6) rfl)) (fun _ h9 => h9) rfl dX4_noted_77 ?_
                refine lv_iload_n hx hb dX4_noted_80 rfl (lv_at hl 1 rfl) ?_
                refine ar_ld hx hb hK hP 8 rfl r (nI_clamp (by omega)) (vp_in_nI (by omega) (by omega)) dX4_noted_81 ?_
                have hPc : va_P D vwCl ([]) H := hP.sub [] rfl
                have hDc : va_D A ([]) := hD.sub [] (by decide +kernel) rfl
                refine cl_i0 (va_runS (As := [.int ((S 6) r)]) (rest := []) ⟨hx, hb, hml, hown, hts⟩ (c_J6_bitCount l D k ((S 6) r) H.size) (va_cwS 1 hts gX4_noted_J6_bitCount_0f7a4 rfl rfl rfl (by decide +kernel) ⟨Nat.le_of_ble_eq_true rfl, Nat.le_of_ble_eq_true rfl⟩) ⟨pr_blind, pr_at hN hPc hK hDc⟩ rfl rfl hl.1 rfl (lv_room (Nat.le_of_ble_eq_true rfl)) dX4_noted_82 ⟨Nat.le_of_ble_eq_true rfl, Nat.le_of_ble_eq_true rfl⟩) hP hD hS hA [] rfl (fun H locs hP hD hS => ?_)
                clear hPc hDc
                subst hQ
                exact rt_i hx hb hr hlocks hS dX4_noted_85 (hP) (by rw [ntF, if_neg c_4])
              · exact absurd c_7 (by decide)
            · exact absurd c_6 (by decide)
          · have c_5 : ¬ (r < 12) := fun h9 => c_5 ((nI_ltI (a := r) (b := 12) (by omega) (by omega)).mpr h9)
            exact absurd c_5 (by omega)
      · exact absurd c_3 (by decide)

set_option maxHeartbeats 1000000 in
set_option maxRecDepth 100000 in
theorem c_X4_count_0 (l : Launch) (D : va_G) (k : Nat → ClassId) (d : Nat → Nat → Nat) (ns : Int32) (S : Nat → Nat → Int32) (V : Nat → Nat → Int32) (al op wf bh ah : Nat → Int32) (tr : Int32)   : MI l yX4_count wsX4_count ({ frames := 2, cells := 0, slots := 0, locals := 42 }) D k [.ref (d 0 0), .int 0] (wXo d ns ++ (wSt k (d 1) S ++ (wWays k (d 8) (d 9) V al op wf ++ (wRw k (d 10) bh ah tr)))) (cjF (S 2) 9) (wXo d ns ++ (wSt k (d 1) S ++ (wWays k (d 8) (d 9) V al op wf ++ wRw k (d 10) bh ah tr))) := by
  intro sz
  refine Met.ofW (cc := cX4_count) (maxL := 2) (ret := (some .int)) (by decide) rfl ?_
  intro p e s m args below meth c s₁ B hml hv
  obtain ⟨rfl, hN, hsz, hP, hK, hD0⟩ := hv
  have hx := B.exec
  have hb := B.bytes
  have hr := B.returns
  have hts := atoms_spec (ws := wsX4_count) B.pre
  have hown : s.vm.findClass RX4 = some m.cls := findClass_of_methodNamed B.named
  have hlocks := B.notSynchronized
  subst hsz
  have hD := hD0.self (sz := s.heap.size)
  generalize hAe : va_A (wXo d ns ++ (wSt k (d 1) S ++ (wWays k (d 8) (d 9) V al op wf ++ (wRw k (d 10) bh ah tr)))) s.heap.size = A at hD ⊢
  have hA : ∀ q : Nat, s.heap.size ≤ q → A q := fun q h => by rw [← hAe]; exact Or.inr h
  have hS : va_S A s.heap s.heap [] := va_S.rf
  have hl := lv_entry ([.ref (d 0 0), .int 0]) (n := 2) (Nat.le_of_ble_eq_true rfl)
  rw [lg_entry_eq]
  generalize (lg_sl ([.ref (d 0 0), .int 0]) ++ List.replicate (2 - (lg_sl ([.ref (d 0 0), .int 0])).length) Slot.unset).toArray = ls at hl ⊢
  have hl : lv_has ls 2 [(0, .ref (d 0 0)), (1, .int 0)] := hl
  obtain ⟨H, hHe⟩ : ∃ H, H = s.heap := ⟨_, rfl⟩
  have hP : va_P D vwCl (wXo d ns ++ (wSt k (d 1) S ++ (wWays k (d 8) (d 9) V al op wf ++ (wRw k (d 10) bh ah tr)))) H := by rw [hHe]; exact hP
  have hS : va_S A s.heap H [] := by rw [hHe]; exact hS
  rw [← hHe]
  refine absQ (fun Q hQ => ?_)
  refine lv_iload_n hx hb dX4_count_0 rfl (lv_at hl 1 rfl) ?_
  refine lv_tableIn (off := 63) (tgt := 64) hx hb dX4_count_1 (by decide) (by decide) rfl (by decide) ?_
  refine lv_aload_n hx hb dX4_count_64 rfl (lv_at hl 0 rfl) ?_
  refine va_get (D := D) (ci := 4) (v := .ref (d 1 0)) (C := RX4) (T := TX4) (N := 9) hx hb hts (fun _ h9 => (List.mem_cons_of_mem _ (List.mem_append_left _ (List.mem_append_left _ (List.mem_append_left _ (List.mem_append_left _ (List.mem_append_right _ h9))))))) hown hK hP 0 rfl rfl 0 (by decide) (hts _ (List.mem_of_getElem? (i := 3) rfl)) (fun _ h9 => h9) rfl dX4_count_65 ?_
  have hPc : va_P D vwCl (wSt k (d 1) S) H := hP.sub [1, 2, 3, 4, 5, 6, 7, 8] rfl
  have hDc : va_D A (wSt k (d 1) S) := hD.sub [1, 2, 3, 4, 5, 6, 7, 8] (by decide +kernel) rfl
  refine cl_i0 (va_runV (As := []) (rest := []) ⟨hx, hb, hml, hown, hts⟩ (c_X1_countJoins l D k (d 1) S  H.size) (cwV 0 hts gX4_count_X1_countJoins rfl rfl rfl (by decide +kernel) ⟨Nat.le_of_ble_eq_true rfl, Nat.le_of_ble_eq_true rfl⟩) ⟨pr_blind, va_recv hK hP (ci := 1) (q0 := 1) rfl rfl, pr_at hN hPc hK hDc⟩ rfl rfl hl.1 rfl (lv_room (Nat.le_of_ble_eq_true rfl)) dX4_count_68 ⟨Nat.le_of_ble_eq_true rfl, Nat.le_of_ble_eq_true rfl⟩) hP hD hS hA [1, 2, 3, 4, 5, 6, 7, 8] rfl (fun H locs hP hD hS => ?_)
  clear hPc hDc
  subst hQ
  exact rt_i hx hb hr hlocks hS dX4_count_71 (hP) (rfl)

set_option maxHeartbeats 1000000 in
set_option maxRecDepth 100000 in
theorem c_X4_count_1 (l : Launch) (D : va_G) (k : Nat → ClassId) (d : Nat → Nat → Nat) (ns : Int32) (S : Nat → Nat → Int32) (V : Nat → Nat → Int32) (al op wf bh ah : Nat → Int32) (tr : Int32)   : MI l yX4_count wsX4_count ({ frames := 1, cells := 0, slots := 0, locals := 25 }) D k [.ref (d 0 0), .int 1] (wXo d ns ++ (wSt k (d 1) S ++ (wWays k (d 8) (d 9) V al op wf ++ (wRw k (d 10) bh ah tr)))) (smF (S 0) 9) (wXo d ns ++ (wSt k (d 1) S ++ (wWays k (d 8) (d 9) V al op wf ++ wRw k (d 10) bh ah tr))) := by
  intro sz
  refine Met.ofW (cc := cX4_count) (maxL := 2) (ret := (some .int)) (by decide) rfl ?_
  intro p e s m args below meth c s₁ B hml hv
  obtain ⟨rfl, hN, hsz, hP, hK, hD0⟩ := hv
  have hx := B.exec
  have hb := B.bytes
  have hr := B.returns
  have hts := atoms_spec (ws := wsX4_count) B.pre
  have hown : s.vm.findClass RX4 = some m.cls := findClass_of_methodNamed B.named
  have hlocks := B.notSynchronized
  subst hsz
  have hD := hD0.self (sz := s.heap.size)
  generalize hAe : va_A (wXo d ns ++ (wSt k (d 1) S ++ (wWays k (d 8) (d 9) V al op wf ++ (wRw k (d 10) bh ah tr)))) s.heap.size = A at hD ⊢
  have hA : ∀ q : Nat, s.heap.size ≤ q → A q := fun q h => by rw [← hAe]; exact Or.inr h
  have hS : va_S A s.heap s.heap [] := va_S.rf
  have hl := lv_entry ([.ref (d 0 0), .int 1]) (n := 2) (Nat.le_of_ble_eq_true rfl)
  rw [lg_entry_eq]
  generalize (lg_sl ([.ref (d 0 0), .int 1]) ++ List.replicate (2 - (lg_sl ([.ref (d 0 0), .int 1])).length) Slot.unset).toArray = ls at hl ⊢
  have hl : lv_has ls 2 [(0, .ref (d 0 0)), (1, .int 1)] := hl
  obtain ⟨H, hHe⟩ : ∃ H, H = s.heap := ⟨_, rfl⟩
  have hP : va_P D vwCl (wXo d ns ++ (wSt k (d 1) S ++ (wWays k (d 8) (d 9) V al op wf ++ (wRw k (d 10) bh ah tr)))) H := by rw [hHe]; exact hP
  have hS : va_S A s.heap H [] := by rw [hHe]; exact hS
  rw [← hHe]
  refine absQ (fun Q hQ => ?_)
  refine lv_iload_n hx hb dX4_count_0 rfl (lv_at hl 1 rfl) ?_
  refine lv_tableIn (off := 71) (tgt := 72) hx hb dX4_count_1 (by decide) (by decide) rfl (by decide) ?_
  refine lv_aload_n hx hb dX4_count_72 rfl (lv_at hl 0 rfl) ?_
  refine va_get (D := D) (ci := 4) (v := .ref (d 1 0)) (C := RX4) (T := TX4) (N := 9) hx hb hts (fun _ h9 => (List.mem_cons_of_mem _ (List.mem_append_left _ (List.mem_append_left _ (List.mem_append_left _ (List.mem_append_left _ (List.mem_append_right _ h9))))))) hown hK hP 0 rfl rfl 0 (by decide) (hts _ (List.mem_of_getElem? (i := 3) rfl)) (fun _ h9 => h9) rfl dX4_count_73 ?_
  refine va_get (D := D) (ci := 1) (v := .ref ((d 1) 1)) (C := RX1) (T := TX1) (N := 10) hx hb hts (fun _ h9 => (List.mem_cons_of_mem _ (List.mem_append_left _ (List.mem_append_left _ (List.mem_append_left _ (List.mem_append_right _ h9)))))) hown hK hP 1 rfl rfl 0 (by decide) (hts _ (List.mem_of_getElem? (i := 4) rfl)) (fun _ h9 => h9) rfl dX4_count_76 ?_
  have hPc : va_P D vwCl ([((d 1) 1, .inl (k 0, 9, .inl (S 0)))]) H := hP.sub [2] rfl
  have hDc : va_D A ([((d 1) 1, .inl (k 0, 9, .inl (S 0)))]) := hD.sub [2] (by decide +kernel) rfl
  refine cl_i0 (va_runS (As := [.ref ((d 1) 1)]) (rest := []) ⟨hx, hb, hml, hown, hts⟩ (c_X4_sum l D k ((d 1) 1) (S 0) H.size) (va_cwS 1 hts gX4_count_X4_sum rfl rfl rfl (by decide +kernel) ⟨Nat.le_of_ble_eq_true rfl, Nat.le_of_ble_eq_true rfl⟩) ⟨pr_blind, pr_at hN hPc hK hDc⟩ rfl rfl hl.1 rfl (lv_room (Nat.le_of_ble_eq_true rfl)) dX4_count_79 ⟨Nat.le_of_ble_eq_true rfl, Nat.le_of_ble_eq_true rfl⟩) hP hD hS hA [2] rfl (fun H locs hP hD hS => ?_)
  clear hPc hDc
  subst hQ
  exact rt_i hx hb hr hlocks hS dX4_count_82 (hP) (rfl)

set_option maxHeartbeats 1000000 in
set_option maxRecDepth 100000 in
theorem c_X4_count_2 (l : Launch) (D : va_G) (k : Nat → ClassId) (d : Nat → Nat → Nat) (ns : Int32) (S : Nat → Nat → Int32) (V : Nat → Nat → Int32) (al op wf bh ah : Nat → Int32) (tr : Int32)   : MI l yX4_count wsX4_count ({ frames := 1, cells := 0, slots := 0, locals := 25 }) D k [.ref (d 0 0), .int 2] (wXo d ns ++ (wSt k (d 1) S ++ (wWays k (d 8) (d 9) V al op wf ++ (wRw k (d 10) bh ah tr)))) (smF (S 4) 9) (wXo d ns ++ (wSt k (d 1) S ++ (wWays k (d 8) (d 9) V al op wf ++ wRw k (d 10) bh ah tr))) := by
  intro sz
  refine Met.ofW (cc := cX4_count) (maxL := 2) (ret := (some .int)) (by decide) rfl ?_
  intro p e s m args below meth c s₁ B hml hv
  obtain ⟨rfl, hN, hsz, hP, hK, hD0⟩ := hv
  have hx := B.exec
  have hb := B.bytes
  have hr := B.returns
  have hts := atoms_spec (ws := wsX4_count) B.pre
  have hown : s.vm.findClass RX4 = some m.cls := findClass_of_methodNamed B.named
  have hlocks := B.notSynchronized
  subst hsz
  have hD := hD0.self (sz := s.heap.size)
  generalize hAe : va_A (wXo d ns ++ (wSt k (d 1) S ++ (wWays k (d 8) (d 9) V al op wf ++ (wRw k (d 10) bh ah tr)))) s.heap.size = A at hD ⊢
  have hA : ∀ q : Nat, s.heap.size ≤ q → A q := fun q h => by rw [← hAe]; exact Or.inr h
  have hS : va_S A s.heap s.heap [] := va_S.rf
  have hl := lv_entry ([.ref (d 0 0), .int 2]) (n := 2) (Nat.le_of_ble_eq_true rfl)
  rw [lg_entry_eq]
  generalize (lg_sl ([.ref (d 0 0), .int 2]) ++ List.replicate (2 - (lg_sl ([.ref (d 0 0), .int 2])).length) Slot.unset).toArray = ls at hl ⊢
  have hl : lv_has ls 2 [(0, .ref (d 0 0)), (1, .int 2)] := hl
  obtain ⟨H, hHe⟩ : ∃ H, H = s.heap := ⟨_, rfl⟩
  have hP : va_P D vwCl (wXo d ns ++ (wSt k (d 1) S ++ (wWays k (d 8) (d 9) V al op wf ++ (wRw k (d 10) bh ah tr)))) H := by rw [hHe]; exact hP
  have hS : va_S A s.heap H [] := by rw [hHe]; exact hS
  rw [← hHe]
  refine absQ (fun Q hQ => ?_)
  refine lv_iload_n hx hb dX4_count_0 rfl (lv_at hl 1 rfl) ?_
  refine lv_tableIn (off := 82) (tgt := 83) hx hb dX4_count_1 (by decide) (by decide) rfl (by decide) ?_
  refine lv_aload_n hx hb dX4_count_83 rfl (lv_at hl 0 rfl) ?_
  refine va_get (D := D) (ci := 4) (v := .ref (d 1 0)) (C := RX4) (T := TX4) (N := 9) hx hb hts (fun _ h9 => (List.mem_cons_of_mem _ (List.mem_append_left _ (List.mem_append_left _ (List.mem_append_left _ (List.mem_append_left _ (List.mem_append_right _ h9))))))) hown hK hP 0 rfl rfl 0 (by decide) (hts _ (List.mem_of_getElem? (i := 3) rfl)) (fun _ h9 => h9) rfl dX4_count_84 ?_
  refine va_get (D := D) (ci := 1) (v := .ref ((d 1) 5)) (C := RX1) (T := TX1) (N := 10) hx hb hts (fun _ h9 => (List.mem_cons_of_mem _ (List.mem_append_left _ (List.mem_append_left _ (List.mem_append_left _ (List.mem_append_right _ h9)))))) hown hK hP 1 rfl rfl 4 (by decide) (hts _ (List.mem_of_getElem? (i := 5) rfl)) (fun _ h9 => h9) rfl dX4_count_87 ?_
  have hPc : va_P D vwCl ([((d 1) 5, .inl (k 0, 9, .inl (S 4)))]) H := hP.sub [6] rfl
  have hDc : va_D A ([((d 1) 5, .inl (k 0, 9, .inl (S 4)))]) := hD.sub [6] (by decide +kernel) rfl
  refine cl_i0 (va_runS (As := [.ref ((d 1) 5)]) (rest := []) ⟨hx, hb, hml, hown, hts⟩ (c_X4_sum l D k ((d 1) 5) (S 4) H.size) (va_cwS 1 hts gX4_count_X4_sum rfl rfl rfl (by decide +kernel) ⟨Nat.le_of_ble_eq_true rfl, Nat.le_of_ble_eq_true rfl⟩) ⟨pr_blind, pr_at hN hPc hK hDc⟩ rfl rfl hl.1 rfl (lv_room (Nat.le_of_ble_eq_true rfl)) dX4_count_90 ⟨Nat.le_of_ble_eq_true rfl, Nat.le_of_ble_eq_true rfl⟩) hP hD hS hA [6] rfl (fun H locs hP hD hS => ?_)
  clear hPc hDc
  subst hQ
  exact rt_i hx hb hr hlocks hS dX4_count_93 (hP) (rfl)

set_option maxHeartbeats 1000000 in
set_option maxRecDepth 100000 in
theorem c_X4_count_3 (l : Launch) (D : va_G) (k : Nat → ClassId) (d : Nat → Nat → Nat) (ns : Int32) (S : Nat → Nat → Int32) (V : Nat → Nat → Int32) (al op wf bh ah : Nat → Int32) (tr : Int32)   : MI l yX4_count wsX4_count ({ frames := 0, cells := 0, slots := 0, locals := 0 }) D k [.ref (d 0 0), .int 3] (wXo d ns ++ (wSt k (d 1) S ++ (wWays k (d 8) (d 9) V al op wf ++ (wRw k (d 10) bh ah tr)))) (S 7 0) (wXo d ns ++ (wSt k (d 1) S ++ (wWays k (d 8) (d 9) V al op wf ++ wRw k (d 10) bh ah tr))) := by
  intro sz
  refine Met.ofW (cc := cX4_count) (maxL := 2) (ret := (some .int)) (by decide) rfl ?_
  intro p e s m args below meth c s₁ B hml hv
  obtain ⟨rfl, hN, hsz, hP, hK, hD0⟩ := hv
  have hx := B.exec
  have hb := B.bytes
  have hr := B.returns
  have hts := atoms_spec (ws := wsX4_count) B.pre
  have hown : s.vm.findClass RX4 = some m.cls := findClass_of_methodNamed B.named
  have hlocks := B.notSynchronized
  subst hsz
  have hD := hD0.self (sz := s.heap.size)
  generalize hAe : va_A (wXo d ns ++ (wSt k (d 1) S ++ (wWays k (d 8) (d 9) V al op wf ++ (wRw k (d 10) bh ah tr)))) s.heap.size = A at hD ⊢
  have hA : ∀ q : Nat, s.heap.size ≤ q → A q := fun q h => by rw [← hAe]; exact Or.inr h
  have hS : va_S A s.heap s.heap [] := va_S.rf
  have hl := lv_entry ([.ref (d 0 0), .int 3]) (n := 2) (Nat.le_of_ble_eq_true rfl)
  rw [lg_entry_eq]
  generalize (lg_sl ([.ref (d 0 0), .int 3]) ++ List.replicate (2 - (lg_sl ([.ref (d 0 0), .int 3])).length) Slot.unset).toArray = ls at hl ⊢
  have hl : lv_has ls 2 [(0, .ref (d 0 0)), (1, .int 3)] := hl
  obtain ⟨H, hHe⟩ : ∃ H, H = s.heap := ⟨_, rfl⟩
  have hP : va_P D vwCl (wXo d ns ++ (wSt k (d 1) S ++ (wWays k (d 8) (d 9) V al op wf ++ (wRw k (d 10) bh ah tr)))) H := by rw [hHe]; exact hP
  have hS : va_S A s.heap H [] := by rw [hHe]; exact hS
  rw [← hHe]
  refine absQ (fun Q hQ => ?_)
  refine lv_iload_n hx hb dX4_count_0 rfl (lv_at hl 1 rfl) ?_
  refine lv_tableIn (off := 93) (tgt := 94) hx hb dX4_count_1 (by decide) (by decide) rfl (by decide) ?_
  refine lv_aload_n hx hb dX4_count_94 rfl (lv_at hl 0 rfl) ?_
  refine va_get (D := D) (ci := 4) (v := .ref (d 1 0)) (C := RX4) (T := TX4) (N := 9) hx hb hts (fun _ h9 => (List.mem_cons_of_mem _ (List.mem_append_left _ (List.mem_append_left _ (List.mem_append_left _ (List.mem_append_left _ (List.mem_append_right _ h9))))))) hown hK hP 0 rfl rfl 0 (by decide) (hts _ (List.mem_of_getElem? (i := 3) rfl)) (fun _ h9 => h9) rfl dX4_count_95 ?_
  refine va_get (D := D) (ci := 1) (v := .int (S 7 0)) (C := RX1) (T := TX1) (N := 10) hx hb hts (fun _ h9 => (List.mem_cons_of_mem _ (List.mem_append_left _ (List.mem_append_left _ (List.mem_append_left _ (List.mem_append_right _ h9)))))) hown hK hP 1 rfl rfl 7 (by decide) (hts _ (List.mem_of_getElem? (i := 6) rfl)) (fun _ h9 => h9) rfl dX4_count_98 ?_
  subst hQ
  exact rt_i hx hb hr hlocks hS dX4_count_101 (hP) (rfl)

set_option maxHeartbeats 1000000 in
set_option maxRecDepth 100000 in
theorem c_X4_count_4 (l : Launch) (D : va_G) (k : Nat → ClassId) (d : Nat → Nat → Nat) (ns : Int32) (S : Nat → Nat → Int32) (V : Nat → Nat → Int32) (al op wf bh ah : Nat → Int32) (tr : Int32)   : MI l yX4_count wsX4_count ({ frames := 2, cells := 0, slots := 0, locals := 45 }) D k [.ref (d 0 0), .int 4] (wXo d ns ++ (wSt k (d 1) S ++ (wWays k (d 8) (d 9) V al op wf ++ (wRw k (d 10) bh ah tr)))) (auT (S 2) (S 1) 9) (wXo d ns ++ (wSt k (d 1) S ++ (wWays k (d 8) (d 9) V al op (dnF (auG (S 2) (S 1)) wf 9) ++ wRw k (d 10) bh ah tr))) := by
  intro sz
  refine Met.ofW (cc := cX4_count) (maxL := 2) (ret := (some .int)) (by decide) rfl ?_
  intro p e s m args below meth c s₁ B hml hv
  obtain ⟨rfl, hN, hsz, hP, hK, hD0⟩ := hv
  have hx := B.exec
  have hb := B.bytes
  have hr := B.returns
  have hts := atoms_spec (ws := wsX4_count) B.pre
  have hown : s.vm.findClass RX4 = some m.cls := findClass_of_methodNamed B.named
  have hlocks := B.notSynchronized
  subst hsz
  have hD := hD0.self (sz := s.heap.size)
  generalize hAe : va_A (wXo d ns ++ (wSt k (d 1) S ++ (wWays k (d 8) (d 9) V al op wf ++ (wRw k (d 10) bh ah tr)))) s.heap.size = A at hD ⊢
  have hA : ∀ q : Nat, s.heap.size ≤ q → A q := fun q h => by rw [← hAe]; exact Or.inr h
  have hS : va_S A s.heap s.heap [] := va_S.rf
  have hl := lv_entry ([.ref (d 0 0), .int 4]) (n := 2) (Nat.le_of_ble_eq_true rfl)
  rw [lg_entry_eq]
  generalize (lg_sl ([.ref (d 0 0), .int 4]) ++ List.replicate (2 - (lg_sl ([.ref (d 0 0), .int 4])).length) Slot.unset).toArray = ls at hl ⊢
  have hl : lv_has ls 2 [(0, .ref (d 0 0)), (1, .int 4)] := hl
  obtain ⟨H, hHe⟩ : ∃ H, H = s.heap := ⟨_, rfl⟩
  have hP : va_P D vwCl (wXo d ns ++ (wSt k (d 1) S ++ (wWays k (d 8) (d 9) V al op wf ++ (wRw k (d 10) bh ah tr)))) H := by rw [hHe]; exact hP
  have hS : va_S A s.heap H [] := by rw [hHe]; exact hS
  rw [← hHe]
  refine absQ (fun Q hQ => ?_)
  refine lv_iload_n hx hb dX4_count_0 rfl (lv_at hl 1 rfl) ?_
  refine lv_tableIn (off := 101) (tgt := 102) hx hb dX4_count_1 (by decide) (by decide) rfl (by decide) ?_
  refine lv_aload_n hx hb dX4_count_102 rfl (lv_at hl 0 rfl) ?_
  refine va_get (D := D) (ci := 4) (v := .ref (d 8 0)) (C := RX4) (T := TX4) (N := 9) hx hb hts (fun _ h9 => (List.mem_cons_of_mem _ (List.mem_append_left _ (List.mem_append_left _ (List.mem_append_left _ (List.mem_append_left _ (List.mem_append_right _ h9))))))) hown hK hP 0 rfl rfl 7 (by decide) (hts _ (List.mem_of_getElem? (i := 7) rfl)) (fun _ h9 => h9) rfl dX4_count_103 ?_
  refine lv_aload_n hx hb dX4_count_106 rfl (lv_at hl 0 rfl) ?_
  refine va_get (D := D) (ci := 4) (v := .ref (d 1 0)) (C := RX4) (T := TX4) (N := 9) hx hb hts (fun _ h9 => (List.mem_cons_of_mem _ (List.mem_append_left _ (List.mem_append_left _ (List.mem_append_left _ (List.mem_append_left _ (List.mem_append_right _ h9))))))) hown hK hP 0 rfl rfl 0 (by decide) (hts _ (List.mem_of_getElem? (i := 3) rfl)) (fun _ h9 => h9) rfl dX4_count_107 ?_
  have hPc : va_P D vwCl (wWays k (d 8) (d 9) V al op wf ++ wSt k (d 1) S) H := hP.sub [9, 10, 11, 12, 13, 14, 15, 16, 17, 18, 19, 20, 1, 2, 3, 4, 5, 6, 7, 8] rfl
  have hDc : va_D A (wWays k (d 8) (d 9) V al op wf ++ wSt k (d 1) S) := hD.sub [9, 10, 11, 12, 13, 14, 15, 16, 17, 18, 19, 20, 1, 2, 3, 4, 5, 6, 7, 8] (by decide +kernel) rfl
  refine cl_i (va_runV (As := [.ref (d 1 0)]) (rest := []) ⟨hx, hb, hml, hown, hts⟩ (c_X3_addUp l D k (d 8) (d 9) (d 1) V S (apL al 0 (allL V)) (apL op 0 (opnL V)) wf (nI (allL V).length) (nI (opnL V).length) H.size) (cwV 1 hts gX4_count_X3_addUp rfl rfl rfl (by decide +kernel) ⟨Nat.le_of_ble_eq_true rfl, Nat.le_of_ble_eq_true rfl⟩) ⟨pr_blind, va_recv hK hP (ci := 3) (q0 := 9) rfl rfl, pr_at hN hPc hK hDc⟩ rfl rfl hl.1 rfl (lv_room (Nat.le_of_ble_eq_true rfl)) dX4_count_110 ⟨Nat.le_of_ble_eq_true rfl, Nat.le_of_ble_eq_true rfl⟩) hP hD hS hA [9, 10, 11, 12, 13, 14, 15, 16, 17, 18, 19, 20, 1, 2, 3, 4, 5, 6, 7, 8] [0, 21, 22, 23] ((wXo d ns) ++ (wRw k (d 10) bh ah tr)) [d 0 0, (d 1) 0, (d 1) 1, (d 1) 2, (d 1) 3, (d 1) 4, (d 1) 5, (d 1) 6, (d 1) 7, (d 8) 0, (d 8) 1, (d 8) 2, (d 8) 3, (d 9) 0, (d 9) 1, (d 9) 2, (d 9) 3, (d 9) 4, (d 9) 5, (d 9) 6, (d 9) 7, (d 10) 0, (d 10) 1, (d 10) 2] 24 rfl (wn := (wXo d ns ++ (wSt k (d 1) S ++ (wWays k (d 8) (d 9) V al op (dnF (auG (S 2) (S 1)) wf 9) ++ (wRw k (d 10) bh ah tr))))) rfl rfl rfl rfl (by decide +kernel) rfl rfl (fun H locs hP hD hS => ?_)
  clear hPc hDc
  subst hQ
  exact rt_i hx hb hr hlocks hS dX4_count_113 (hP) (rfl)

set_option maxHeartbeats 1000000 in
set_option maxRecDepth 100000 in
theorem c_X4_count_5 (l : Launch) (D : va_G) (k : Nat → ClassId) (d : Nat → Nat → Nat) (ns : Int32) (S : Nat → Nat → Int32) (V : Nat → Nat → Int32) (al op wf bh ah : Nat → Int32) (tr : Int32)   : MI l yX4_count wsX4_count ({ frames := 13, cells := 0, slots := 0, locals := 447 }) D k [.ref (d 0 0), .int 5] (wXo d ns ++ (wSt k (d 1) S ++ (wWays k (d 8) (d 9) V al op wf ++ (wRw k (d 10) bh ah tr)))) (nI (allL (lsS V S)).length) (wXo d ns ++ (wSt k (d 1) S ++ (wWays k (d 8) (d 9) (lsS V S) (lsA V S al) (lsO V S op) wf ++ wRw k (d 10) bh ah tr))) := by
  intro sz
  refine Met.ofW (cc := cX4_count) (maxL := 2) (ret := (some .int)) (by decide) rfl ?_
  intro p e s m args below meth c s₁ B hml hv
  obtain ⟨rfl, hN, hsz, hP, hK, hD0⟩ := hv
  have hx := B.exec
  have hb := B.bytes
  have hr := B.returns
  have hts := atoms_spec (ws := wsX4_count) B.pre
  have hown : s.vm.findClass RX4 = some m.cls := findClass_of_methodNamed B.named
  have hlocks := B.notSynchronized
  subst hsz
  have hD := hD0.self (sz := s.heap.size)
  generalize hAe : va_A (wXo d ns ++ (wSt k (d 1) S ++ (wWays k (d 8) (d 9) V al op wf ++ (wRw k (d 10) bh ah tr)))) s.heap.size = A at hD ⊢
  have hA : ∀ q : Nat, s.heap.size ≤ q → A q := fun q h => by rw [← hAe]; exact Or.inr h
  have hS : va_S A s.heap s.heap [] := va_S.rf
  have hl := lv_entry ([.ref (d 0 0), .int 5]) (n := 2) (Nat.le_of_ble_eq_true rfl)
  rw [lg_entry_eq]
  generalize (lg_sl ([.ref (d 0 0), .int 5]) ++ List.replicate (2 - (lg_sl ([.ref (d 0 0), .int 5])).length) Slot.unset).toArray = ls at hl ⊢
  have hl : lv_has ls 2 [(0, .ref (d 0 0)), (1, .int 5)] := hl
  obtain ⟨H, hHe⟩ : ∃ H, H = s.heap := ⟨_, rfl⟩
  have hP : va_P D vwCl (wXo d ns ++ (wSt k (d 1) S ++ (wWays k (d 8) (d 9) V al op wf ++ (wRw k (d 10) bh ah tr)))) H := by rw [hHe]; exact hP
  have hS : va_S A s.heap H [] := by rw [hHe]; exact hS
  rw [← hHe]
  refine absQ (fun Q hQ => ?_)
  refine lv_iload_n hx hb dX4_count_0 rfl (lv_at hl 1 rfl) ?_
  refine lv_tableIn (off := 113) (tgt := 114) hx hb dX4_count_1 (by decide) (by decide) rfl (by decide) ?_
  refine lv_aload_n hx hb dX4_count_114 rfl (lv_at hl 0 rfl) ?_
  refine va_get (D := D) (ci := 4) (v := .ref (d 8 0)) (C := RX4) (T := TX4) (N := 9) hx hb hts (fun _ h9 => (List.mem_cons_of_mem _ (List.mem_append_left _ (List.mem_append_left _ (List.mem_append_left _ (List.mem_append_left _ (List.mem_append_right _ h9))))))) hown hK hP 0 rfl rfl 7 (by decide) (hts _ (List.mem_of_getElem? (i := 7) rfl)) (fun _ h9 => h9) rfl dX4_count_115 ?_
  refine lv_aload_n hx hb dX4_count_118 rfl (lv_at hl 0 rfl) ?_
  refine va_get (D := D) (ci := 4) (v := .ref (d 1 0)) (C := RX4) (T := TX4) (N := 9) hx hb hts (fun _ h9 => (List.mem_cons_of_mem _ (List.mem_append_left _ (List.mem_append_left _ (List.mem_append_left _ (List.mem_append_left _ (List.mem_append_right _ h9))))))) hown hK hP 0 rfl rfl 0 (by decide) (hts _ (List.mem_of_getElem? (i := 3) rfl)) (fun _ h9 => h9) rfl dX4_count_119 ?_
  have hPc : va_P D vwCl (wWays k (d 8) (d 9) V al op wf ++ wSt k (d 1) S) H := hP.sub [9, 10, 11, 12, 13, 14, 15, 16, 17, 18, 19, 20, 1, 2, 3, 4, 5, 6, 7, 8] rfl
  have hDc : va_D A (wWays k (d 8) (d 9) V al op wf ++ wSt k (d 1) S) := hD.sub [9, 10, 11, 12, 13, 14, 15, 16, 17, 18, 19, 20, 1, 2, 3, 4, 5, 6, 7, 8] (by decide +kernel) rfl
  refine cl_v (va_runV (As := [.ref (d 1 0)]) (rest := []) ⟨hx, hb, hml, hown, hts⟩ (c_X3_list l D k (d 8) (d 9) (d 1) V S al op wf H.size) (cwV 1 hts gX4_count_X3_list rfl rfl rfl (by decide +kernel) ⟨Nat.le_of_ble_eq_true rfl, Nat.le_of_ble_eq_true rfl⟩) ⟨pr_blind, va_recv hK hP (ci := 3) (q0 := 9) rfl rfl, pr_at hN hPc hK hDc⟩ rfl rfl hl.1 rfl (lv_room (Nat.le_of_ble_eq_true rfl)) dX4_count_122 ⟨Nat.le_of_ble_eq_true rfl, Nat.le_of_ble_eq_true rfl⟩) hP hD hS hA [9, 10, 11, 12, 13, 14, 15, 16, 17, 18, 19, 20, 1, 2, 3, 4, 5, 6, 7, 8] [0, 21, 22, 23] ((wXo d ns) ++ (wRw k (d 10) bh ah tr)) [d 0 0, (d 1) 0, (d 1) 1, (d 1) 2, (d 1) 3, (d 1) 4, (d 1) 5, (d 1) 6, (d 1) 7, (d 8) 0, (d 8) 1, (d 8) 2, (d 8) 3, (d 9) 0, (d 9) 1, (d 9) 2, (d 9) 3, (d 9) 4, (d 9) 5, (d 9) 6, (d 9) 7, (d 10) 0, (d 10) 1, (d 10) 2] 24 rfl (wn := (wXo d ns ++ (wSt k (d 1) S ++ (wWays k (d 8) (d 9) (lsS V S) (lsA V S al) (lsO V S op) wf ++ (wRw k (d 10) bh ah tr))))) rfl rfl rfl rfl (by decide +kernel) rfl rfl (fun H locs hP hD hS => ?_)
  clear hPc hDc
  refine lv_aload_n hx hb dX4_count_125 rfl (lv_at hl 0 rfl) ?_
  refine va_get (D := D) (ci := 4) (v := .ref (d 8 0)) (C := RX4) (T := TX4) (N := 9) hx hb hts (fun _ h9 => (List.mem_cons_of_mem _ (List.mem_append_left _ (List.mem_append_left _ (List.mem_append_left _ (List.mem_append_left _ (List.mem_append_right _ h9))))))) hown hK hP 0 rfl rfl 7 (by decide) (hts _ (List.mem_of_getElem? (i := 7) rfl)) (fun _ h9 => h9) rfl dX4_count_126 ?_
  refine va_get (D := D) (ci := 3) (v := .int (nI ((allL (lsS V S)).length))) (C := RX3) (T := TX3) (N := 6) hx hb hts (fun _ h9 => (List.mem_cons_of_mem _ (List.mem_append_left _ (List.mem_append_left _ (List.mem_append_right _ h9))))) hown hK hP 9 rfl rfl 2 (by decide) (hts _ (List.mem_of_getElem? (i := 8) rfl)) (fun _ h9 => h9) rfl dX4_count_129 ?_
  subst hQ
  exact rt_i hx hb hr hlocks hS dX4_count_132 (hP) (rfl)

set_option maxHeartbeats 1000000 in
set_option maxRecDepth 100000 in
theorem c_X4_count_6 (l : Launch) (D : va_G) (k : Nat → ClassId) (d : Nat → Nat → Nat) (ns : Int32) (S : Nat → Nat → Int32) (V : Nat → Nat → Int32) (al op wf bh ah : Nat → Int32) (tr : Int32)   : MI l yX4_count wsX4_count ({ frames := 13, cells := 0, slots := 0, locals := 447 }) D k [.ref (d 0 0), .int 6] (wXo d ns ++ (wSt k (d 1) S ++ (wWays k (d 8) (d 9) V al op wf ++ (wRw k (d 10) bh ah tr)))) (nI (opnL (lsS V S)).length) (wXo d ns ++ (wSt k (d 1) S ++ (wWays k (d 8) (d 9) (lsS V S) (lsA V S al) (lsO V S op) wf ++ wRw k (d 10) bh ah tr))) := by
  intro sz
  refine Met.ofW (cc := cX4_count) (maxL := 2) (ret := (some .int)) (by decide) rfl ?_
  intro p e s m args below meth c s₁ B hml hv
  obtain ⟨rfl, hN, hsz, hP, hK, hD0⟩ := hv
  have hx := B.exec
  have hb := B.bytes
  have hr := B.returns
  have hts := atoms_spec (ws := wsX4_count) B.pre
  have hown : s.vm.findClass RX4 = some m.cls := findClass_of_methodNamed B.named
  have hlocks := B.notSynchronized
  subst hsz
  have hD := hD0.self (sz := s.heap.size)
  generalize hAe : va_A (wXo d ns ++ (wSt k (d 1) S ++ (wWays k (d 8) (d 9) V al op wf ++ (wRw k (d 10) bh ah tr)))) s.heap.size = A at hD ⊢
  have hA : ∀ q : Nat, s.heap.size ≤ q → A q := fun q h => by rw [← hAe]; exact Or.inr h
  have hS : va_S A s.heap s.heap [] := va_S.rf
  have hl := lv_entry ([.ref (d 0 0), .int 6]) (n := 2) (Nat.le_of_ble_eq_true rfl)
  rw [lg_entry_eq]
  generalize (lg_sl ([.ref (d 0 0), .int 6]) ++ List.replicate (2 - (lg_sl ([.ref (d 0 0), .int 6])).length) Slot.unset).toArray = ls at hl ⊢
  have hl : lv_has ls 2 [(0, .ref (d 0 0)), (1, .int 6)] := hl
  obtain ⟨H, hHe⟩ : ∃ H, H = s.heap := ⟨_, rfl⟩
  have hP : va_P D vwCl (wXo d ns ++ (wSt k (d 1) S ++ (wWays k (d 8) (d 9) V al op wf ++ (wRw k (d 10) bh ah tr)))) H := by rw [hHe]; exact hP
  have hS : va_S A s.heap H [] := by rw [hHe]; exact hS
  rw [← hHe]
  refine absQ (fun Q hQ => ?_)
  refine lv_iload_n hx hb dX4_count_0 rfl (lv_at hl 1 rfl) ?_
  refine lv_tableIn (off := 132) (tgt := 133) hx hb dX4_count_1 (by decide) (by decide) rfl (by decide) ?_
  refine lv_aload_n hx hb dX4_count_133 rfl (lv_at hl 0 rfl) ?_
  refine va_get (D := D) (ci := 4) (v := .ref (d 8 0)) (C := RX4) (T := TX4) (N := 9) hx hb hts (fun _ h9 => (List.mem_cons_of_mem _ (List.mem_append_left _ (List.mem_append_left _ (List.mem_append_left _ (List.mem_append_left _ (List.mem_append_right _ h9))))))) hown hK hP 0 rfl rfl 7 (by decide) (hts _ (List.mem_of_getElem? (i := 7) rfl)) (fun _ h9 => h9) rfl dX4_count_134 ?_
  refine lv_aload_n hx hb dX4_count_137 rfl (lv_at hl 0 rfl) ?_
  refine va_get (D := D) (ci := 4) (v := .ref (d 1 0)) (C := RX4) (T := TX4) (N := 9) hx hb hts (fun _ h9 => (List.mem_cons_of_mem _ (List.mem_append_left _ (List.mem_append_left _ (List.mem_append_left _ (List.mem_append_left _ (List.mem_append_right _ h9))))))) hown hK hP 0 rfl rfl 0 (by decide) (hts _ (List.mem_of_getElem? (i := 3) rfl)) (fun _ h9 => h9) rfl dX4_count_138 ?_
  have hPc : va_P D vwCl (wWays k (d 8) (d 9) V al op wf ++ wSt k (d 1) S) H := hP.sub [9, 10, 11, 12, 13, 14, 15, 16, 17, 18, 19, 20, 1, 2, 3, 4, 5, 6, 7, 8] rfl
  have hDc : va_D A (wWays k (d 8) (d 9) V al op wf ++ wSt k (d 1) S) := hD.sub [9, 10, 11, 12, 13, 14, 15, 16, 17, 18, 19, 20, 1, 2, 3, 4, 5, 6, 7, 8] (by decide +kernel) rfl
  refine cl_v (va_runV (As := [.ref (d 1 0)]) (rest := []) ⟨hx, hb, hml, hown, hts⟩ (c_X3_list l D k (d 8) (d 9) (d 1) V S al op wf H.size) (cwV 1 hts gX4_count_X3_list rfl rfl rfl (by decide +kernel) ⟨Nat.le_of_ble_eq_true rfl, Nat.le_of_ble_eq_true rfl⟩) ⟨pr_blind, va_recv hK hP (ci := 3) (q0 := 9) rfl rfl, pr_at hN hPc hK hDc⟩ rfl rfl hl.1 rfl (lv_room (Nat.le_of_ble_eq_true rfl)) dX4_count_141 ⟨Nat.le_of_ble_eq_true rfl, Nat.le_of_ble_eq_true rfl⟩) hP hD hS hA [9, 10, 11, 12, 13, 14, 15, 16, 17, 18, 19, 20, 1, 2, 3, 4, 5, 6, 7, 8] [0, 21, 22, 23] ((wXo d ns) ++ (wRw k (d 10) bh ah tr)) [d 0 0, (d 1) 0, (d 1) 1, (d 1) 2, (d 1) 3, (d 1) 4, (d 1) 5, (d 1) 6, (d 1) 7, (d 8) 0, (d 8) 1, (d 8) 2, (d 8) 3, (d 9) 0, (d 9) 1, (d 9) 2, (d 9) 3, (d 9) 4, (d 9) 5, (d 9) 6, (d 9) 7, (d 10) 0, (d 10) 1, (d 10) 2] 24 rfl (wn := (wXo d ns ++ (wSt k (d 1) S ++ (wWays k (d 8) (d 9) (lsS V S) (lsA V S al) (lsO V S op) wf ++ (wRw k (d 10) bh ah tr))))) rfl rfl rfl rfl (by decide +kernel) rfl rfl (fun H locs hP hD hS => ?_)
  clear hPc hDc
  refine lv_aload_n hx hb dX4_count_144 rfl (lv_at hl 0 rfl) ?_
  refine va_get (D := D) (ci := 4) (v := .ref (d 8 0)) (C := RX4) (T := TX4) (N := 9) hx hb hts (fun _ h9 => (List.mem_cons_of_mem _ (List.mem_append_left _ (List.mem_append_left _ (List.mem_append_left _ (List.mem_append_left _ (List.mem_append_right _ h9))))))) hown hK hP 0 rfl rfl 7 (by decide) (hts _ (List.mem_of_getElem? (i := 7) rfl)) (fun _ h9 => h9) rfl dX4_count_145 ?_
  refine va_get (D := D) (ci := 3) (v := .int (nI ((opnL (lsS V S)).length))) (C := RX3) (T := TX3) (N := 6) hx hb hts (fun _ h9 => (List.mem_cons_of_mem _ (List.mem_append_left _ (List.mem_append_left _ (List.mem_append_right _ h9))))) hown hK hP 9 rfl rfl 3 (by decide) (hts _ (List.mem_of_getElem? (i := 9) rfl)) (fun _ h9 => h9) rfl dX4_count_148 ?_
  subst hQ
  exact rt_i hx hb hr hlocks hS dX4_count_151 (hP) (rfl)

set_option maxHeartbeats 1000000 in
set_option maxRecDepth 100000 in
theorem c_X4_count_7 (l : Launch) (D : va_G) (k : Nat → ClassId) (d : Nat → Nat → Nat) (ns : Int32) (S : Nat → Nat → Int32) (V : Nat → Nat → Int32) (al op wf bh ah : Nat → Int32) (tr : Int32)   : MI l yX4_count wsX4_count ({ frames := 13, cells := 0, slots := 0, locals := 446 }) D k [.ref (d 0 0), .int 7] (wXo d ns ++ (wSt k (d 1) S ++ (wWays k (d 8) (d 9) V al op wf ++ (wRw k (d 10) bh ah tr)))) ((cpS (bhG (S 2)) 9).2) (wXo d ns ++ (wSt k (d 1) S ++ (wWays k (d 8) (d 9) V al op wf ++ wRw k (d 10) (bhG (S 2)) (cpS (bhG (S 2)) 9).1 (cpT (bhG (S 2)) tr 9)))) := by
  intro sz
  refine Met.ofW (cc := cX4_count) (maxL := 2) (ret := (some .int)) (by decide) rfl ?_
  intro p e s m args below meth c s₁ B hml hv
  obtain ⟨rfl, hN, hsz, hP, hK, hD0⟩ := hv
  have hx := B.exec
  have hb := B.bytes
  have hr := B.returns
  have hts := atoms_spec (ws := wsX4_count) B.pre
  have hown : s.vm.findClass RX4 = some m.cls := findClass_of_methodNamed B.named
  have hlocks := B.notSynchronized
  subst hsz
  have hD := hD0.self (sz := s.heap.size)
  generalize hAe : va_A (wXo d ns ++ (wSt k (d 1) S ++ (wWays k (d 8) (d 9) V al op wf ++ (wRw k (d 10) bh ah tr)))) s.heap.size = A at hD ⊢
  have hA : ∀ q : Nat, s.heap.size ≤ q → A q := fun q h => by rw [← hAe]; exact Or.inr h
  have hS : va_S A s.heap s.heap [] := va_S.rf
  have hl := lv_entry ([.ref (d 0 0), .int 7]) (n := 2) (Nat.le_of_ble_eq_true rfl)
  rw [lg_entry_eq]
  generalize (lg_sl ([.ref (d 0 0), .int 7]) ++ List.replicate (2 - (lg_sl ([.ref (d 0 0), .int 7])).length) Slot.unset).toArray = ls at hl ⊢
  have hl : lv_has ls 2 [(0, .ref (d 0 0)), (1, .int 7)] := hl
  obtain ⟨H, hHe⟩ : ∃ H, H = s.heap := ⟨_, rfl⟩
  have hP : va_P D vwCl (wXo d ns ++ (wSt k (d 1) S ++ (wWays k (d 8) (d 9) V al op wf ++ (wRw k (d 10) bh ah tr)))) H := by rw [hHe]; exact hP
  have hS : va_S A s.heap H [] := by rw [hHe]; exact hS
  rw [← hHe]
  refine absQ (fun Q hQ => ?_)
  refine lv_iload_n hx hb dX4_count_0 rfl (lv_at hl 1 rfl) ?_
  refine lv_tableIn (off := 151) (tgt := 152) hx hb dX4_count_1 (by decide) (by decide) rfl (by decide) ?_
  refine lv_aload_n hx hb dX4_count_152 rfl (lv_at hl 0 rfl) ?_
  refine va_get (D := D) (ci := 4) (v := .ref (d 10 0)) (C := RX4) (T := TX4) (N := 9) hx hb hts (fun _ h9 => (List.mem_cons_of_mem _ (List.mem_append_left _ (List.mem_append_left _ (List.mem_append_left _ (List.mem_append_left _ (List.mem_append_right _ h9))))))) hown hK hP 0 rfl rfl 8 (by decide) (hts _ (List.mem_of_getElem? (i := 10) rfl)) (fun _ h9 => h9) rfl dX4_count_153 ?_
  refine lv_aload_n hx hb dX4_count_156 rfl (lv_at hl 0 rfl) ?_
  refine va_get (D := D) (ci := 4) (v := .ref (d 1 0)) (C := RX4) (T := TX4) (N := 9) hx hb hts (fun _ h9 => (List.mem_cons_of_mem _ (List.mem_append_left _ (List.mem_append_left _ (List.mem_append_left _ (List.mem_append_left _ (List.mem_append_right _ h9))))))) hown hK hP 0 rfl rfl 0 (by decide) (hts _ (List.mem_of_getElem? (i := 3) rfl)) (fun _ h9 => h9) rfl dX4_count_157 ?_
  have hPc : va_P D vwCl (wRw k (d 10) bh ah tr ++ wSt k (d 1) S) H := hP.sub [21, 22, 23, 1, 2, 3, 4, 5, 6, 7, 8] rfl
  have hDc : va_D A (wRw k (d 10) bh ah tr ++ wSt k (d 1) S) := hD.sub [21, 22, 23, 1, 2, 3, 4, 5, 6, 7, 8] (by decide +kernel) rfl
  refine cl_v (va_runV (As := [.ref (d 1 0)]) (rest := []) ⟨hx, hb, hml, hown, hts⟩ (c_X0_findBehind l D k (d 10) (d 1) bh ah tr S H.size) (cwV 1 hts gX4_count_X0_findBehind rfl rfl rfl (by decide +kernel) ⟨Nat.le_of_ble_eq_true rfl, Nat.le_of_ble_eq_true rfl⟩) ⟨pr_blind, va_recv hK hP (ci := 0) (q0 := 21) rfl rfl, pr_at hN hPc hK hDc⟩ rfl rfl hl.1 rfl (lv_room (Nat.le_of_ble_eq_true rfl)) dX4_count_160 ⟨Nat.le_of_ble_eq_true rfl, Nat.le_of_ble_eq_true rfl⟩) hP hD hS hA [21, 22, 23, 1, 2, 3, 4, 5, 6, 7, 8] [0, 9, 10, 11, 12, 13, 14, 15, 16, 17, 18, 19, 20] ((wXo d ns) ++ (wWays k (d 8) (d 9) V al op wf)) [d 0 0, (d 1) 0, (d 1) 1, (d 1) 2, (d 1) 3, (d 1) 4, (d 1) 5, (d 1) 6, (d 1) 7, (d 8) 0, (d 8) 1, (d 8) 2, (d 8) 3, (d 9) 0, (d 9) 1, (d 9) 2, (d 9) 3, (d 9) 4, (d 9) 5, (d 9) 6, (d 9) 7, (d 10) 0, (d 10) 1, (d 10) 2] 24 rfl (wn := (wXo d ns ++ (wSt k (d 1) S ++ (wWays k (d 8) (d 9) V al op wf ++ (wRw k (d 10) (bhG (S 2)) ah tr))))) rfl rfl rfl rfl (by decide +kernel) rfl rfl (fun H locs hP hD hS => ?_)
  clear hPc hDc
  refine lv_aload_n hx hb dX4_count_163 rfl (lv_at hl 0 rfl) ?_
  refine va_get (D := D) (ci := 4) (v := .ref (d 10 0)) (C := RX4) (T := TX4) (N := 9) hx hb hts (fun _ h9 => (List.mem_cons_of_mem _ (List.mem_append_left _ (List.mem_append_left _ (List.mem_append_left _ (List.mem_append_left _ (List.mem_append_right _ h9))))))) hown hK hP 0 rfl rfl 8 (by decide) (hts _ (List.mem_of_getElem? (i := 10) rfl)) (fun _ h9 => h9) rfl dX4_count_164 ?_
  have hPc : va_P D vwCl (wRw k (d 10) (bhG (S 2)) ah tr) H := hP.sub [21, 22, 23] rfl
  have hDc : va_D A (wRw k (d 10) (bhG (S 2)) ah tr) := hD.sub [21, 22, 23] (by decide +kernel) rfl
  refine cl_i (va_runV (As := []) (rest := []) ⟨hx, hb, hml, hown, hts⟩ (c_X0_countByPairing l D k (d 10) (bhG (S 2)) ah tr H.size) (cwV 0 hts gX4_count_X0_countByPairing rfl rfl rfl (by decide +kernel) ⟨Nat.le_of_ble_eq_true rfl, Nat.le_of_ble_eq_true rfl⟩) ⟨pr_blind, va_recv hK hP (ci := 0) (q0 := 21) rfl rfl, pr_at hN hPc hK hDc⟩ rfl rfl hl.1 rfl (lv_room (Nat.le_of_ble_eq_true rfl)) dX4_count_167 ⟨Nat.le_of_ble_eq_true rfl, Nat.le_of_ble_eq_true rfl⟩) hP hD hS hA [21, 22, 23] [0, 1, 2, 3, 4, 5, 6, 7, 8, 9, 10, 11, 12, 13, 14, 15, 16, 17, 18, 19, 20] ((wXo d ns) ++ (wSt k (d 1) S) ++ (wWays k (d 8) (d 9) V al op wf)) [d 0 0, (d 1) 0, (d 1) 1, (d 1) 2, (d 1) 3, (d 1) 4, (d 1) 5, (d 1) 6, (d 1) 7, (d 8) 0, (d 8) 1, (d 8) 2, (d 8) 3, (d 9) 0, (d 9) 1, (d 9) 2, (d 9) 3, (d 9) 4, (d 9) 5, (d 9) 6, (d 9) 7, (d 10) 0, (d 10) 1, (d 10) 2] 24 rfl (wn := (wXo d ns ++ (wSt k (d 1) S ++ (wWays k (d 8) (d 9) V al op wf ++ (wRw k (d 10) (bhG (S 2)) ((cpS (bhG (S 2)) 9).1) (cpT (bhG (S 2)) tr 9)))))) rfl rfl rfl rfl (by decide +kernel) rfl rfl (fun H locs hP hD hS => ?_)
  clear hPc hDc
  subst hQ
  exact rt_i hx hb hr hlocks hS dX4_count_170 (hP) (rfl)

set_option maxHeartbeats 1000000 in
set_option maxRecDepth 100000 in
theorem c_X4_count_8 (l : Launch) (D : va_G) (k : Nat → ClassId) (d : Nat → Nat → Nat) (ns : Int32) (S : Nat → Nat → Int32) (V : Nat → Nat → Int32) (al op wf bh ah : Nat → Int32) (tr : Int32)   : MI l yX4_count wsX4_count ({ frames := 3, cells := 0, slots := 0, locals := 66 }) D k [.ref (d 0 0), .int 8] (wXo d ns ++ (wSt k (d 1) S ++ (wWays k (d 8) (d 9) V al op wf ++ (wRw k (d 10) bh ah tr)))) (cbT (bhG (S 2)) 511) (wXo d ns ++ (wSt k (d 1) S ++ (wWays k (d 8) (d 9) V al op wf ++ wRw k (d 10) (bhG (S 2)) ah tr))) := by
  intro sz
  refine Met.ofW (cc := cX4_count) (maxL := 2) (ret := (some .int)) (by decide) rfl ?_
  intro p e s m args below meth c s₁ B hml hv
  obtain ⟨rfl, hN, hsz, hP, hK, hD0⟩ := hv
  have hx := B.exec
  have hb := B.bytes
  have hr := B.returns
  have hts := atoms_spec (ws := wsX4_count) B.pre
  have hown : s.vm.findClass RX4 = some m.cls := findClass_of_methodNamed B.named
  have hlocks := B.notSynchronized
  subst hsz
  have hD := hD0.self (sz := s.heap.size)
  generalize hAe : va_A (wXo d ns ++ (wSt k (d 1) S ++ (wWays k (d 8) (d 9) V al op wf ++ (wRw k (d 10) bh ah tr)))) s.heap.size = A at hD ⊢
  have hA : ∀ q : Nat, s.heap.size ≤ q → A q := fun q h => by rw [← hAe]; exact Or.inr h
  have hS : va_S A s.heap s.heap [] := va_S.rf
  have hl := lv_entry ([.ref (d 0 0), .int 8]) (n := 2) (Nat.le_of_ble_eq_true rfl)
  rw [lg_entry_eq]
  generalize (lg_sl ([.ref (d 0 0), .int 8]) ++ List.replicate (2 - (lg_sl ([.ref (d 0 0), .int 8])).length) Slot.unset).toArray = ls at hl ⊢
  have hl : lv_has ls 2 [(0, .ref (d 0 0)), (1, .int 8)] := hl
  obtain ⟨H, hHe⟩ : ∃ H, H = s.heap := ⟨_, rfl⟩
  have hP : va_P D vwCl (wXo d ns ++ (wSt k (d 1) S ++ (wWays k (d 8) (d 9) V al op wf ++ (wRw k (d 10) bh ah tr)))) H := by rw [hHe]; exact hP
  have hS : va_S A s.heap H [] := by rw [hHe]; exact hS
  rw [← hHe]
  refine absQ (fun Q hQ => ?_)
  refine lv_iload_n hx hb dX4_count_0 rfl (lv_at hl 1 rfl) ?_
  refine lv_tableIn (off := 170) (tgt := 171) hx hb dX4_count_1 (by decide) (by decide) rfl (by decide) ?_
  refine lv_aload_n hx hb dX4_count_171 rfl (lv_at hl 0 rfl) ?_
  refine va_get (D := D) (ci := 4) (v := .ref (d 10 0)) (C := RX4) (T := TX4) (N := 9) hx hb hts (fun _ h9 => (List.mem_cons_of_mem _ (List.mem_append_left _ (List.mem_append_left _ (List.mem_append_left _ (List.mem_append_left _ (List.mem_append_right _ h9))))))) hown hK hP 0 rfl rfl 8 (by decide) (hts _ (List.mem_of_getElem? (i := 10) rfl)) (fun _ h9 => h9) rfl dX4_count_172 ?_
  refine lv_aload_n hx hb dX4_count_175 rfl (lv_at hl 0 rfl) ?_
  refine va_get (D := D) (ci := 4) (v := .ref (d 1 0)) (C := RX4) (T := TX4) (N := 9) hx hb hts (fun _ h9 => (List.mem_cons_of_mem _ (List.mem_append_left _ (List.mem_append_left _ (List.mem_append_left _ (List.mem_append_left _ (List.mem_append_right _ h9))))))) hown hK hP 0 rfl rfl 0 (by decide) (hts _ (List.mem_of_getElem? (i := 3) rfl)) (fun _ h9 => h9) rfl dX4_count_176 ?_
  have hPc : va_P D vwCl (wRw k (d 10) bh ah tr ++ wSt k (d 1) S) H := hP.sub [21, 22, 23, 1, 2, 3, 4, 5, 6, 7, 8] rfl
  have hDc : va_D A (wRw k (d 10) bh ah tr ++ wSt k (d 1) S) := hD.sub [21, 22, 23, 1, 2, 3, 4, 5, 6, 7, 8] (by decide +kernel) rfl
  refine cl_v (va_runV (As := [.ref (d 1 0)]) (rest := []) ⟨hx, hb, hml, hown, hts⟩ (c_X0_findBehind l D k (d 10) (d 1) bh ah tr S H.size) (cwV 1 hts gX4_count_X0_findBehind rfl rfl rfl (by decide +kernel) ⟨Nat.le_of_ble_eq_true rfl, Nat.le_of_ble_eq_true rfl⟩) ⟨pr_blind, va_recv hK hP (ci := 0) (q0 := 21) rfl rfl, pr_at hN hPc hK hDc⟩ rfl rfl hl.1 rfl (lv_room (Nat.le_of_ble_eq_true rfl)) dX4_count_179 ⟨Nat.le_of_ble_eq_true rfl, Nat.le_of_ble_eq_true rfl⟩) hP hD hS hA [21, 22, 23, 1, 2, 3, 4, 5, 6, 7, 8] [0, 9, 10, 11, 12, 13, 14, 15, 16, 17, 18, 19, 20] ((wXo d ns) ++ (wWays k (d 8) (d 9) V al op wf)) [d 0 0, (d 1) 0, (d 1) 1, (d 1) 2, (d 1) 3, (d 1) 4, (d 1) 5, (d 1) 6, (d 1) 7, (d 8) 0, (d 8) 1, (d 8) 2, (d 8) 3, (d 9) 0, (d 9) 1, (d 9) 2, (d 9) 3, (d 9) 4, (d 9) 5, (d 9) 6, (d 9) 7, (d 10) 0, (d 10) 1, (d 10) 2] 24 rfl (wn := (wXo d ns ++ (wSt k (d 1) S ++ (wWays k (d 8) (d 9) V al op wf ++ (wRw k (d 10) (bhG (S 2)) ah tr))))) rfl rfl rfl rfl (by decide +kernel) rfl rfl (fun H locs hP hD hS => ?_)
  clear hPc hDc
  refine lv_aload_n hx hb dX4_count_182 rfl (lv_at hl 0 rfl) ?_
  refine va_get (D := D) (ci := 4) (v := .ref (d 10 0)) (C := RX4) (T := TX4) (N := 9) hx hb hts (fun _ h9 => (List.mem_cons_of_mem _ (List.mem_append_left _ (List.mem_append_left _ (List.mem_append_left _ (List.mem_append_left _ (List.mem_append_right _ h9))))))) hown hK hP 0 rfl rfl 8 (by decide) (hts _ (List.mem_of_getElem? (i := 10) rfl)) (fun _ h9 => h9) rfl dX4_count_183 ?_
  have hPc : va_P D vwCl (wRw k (d 10) (bhG (S 2)) ah tr) H := hP.sub [21, 22, 23] rfl
  have hDc : va_D A (wRw k (d 10) (bhG (S 2)) ah tr) := hD.sub [21, 22, 23] (by decide +kernel) rfl
  refine cl_i0 (va_runV (As := []) (rest := []) ⟨hx, hb, hml, hown, hts⟩ (c_X0_countBySets l D k (d 10) (bhG (S 2)) ah tr H.size) (cwV 0 hts gX4_count_X0_countBySets rfl rfl rfl (by decide +kernel) ⟨Nat.le_of_ble_eq_true rfl, Nat.le_of_ble_eq_true rfl⟩) ⟨pr_blind, va_recv hK hP (ci := 0) (q0 := 21) rfl rfl, pr_at hN hPc hK hDc⟩ rfl rfl hl.1 rfl (lv_room (Nat.le_of_ble_eq_true rfl)) dX4_count_186 ⟨Nat.le_of_ble_eq_true rfl, Nat.le_of_ble_eq_true rfl⟩) hP hD hS hA [21, 22, 23] rfl (fun H locs hP hD hS => ?_)
  clear hPc hDc
  subst hQ
  exact rt_i hx hb hr hlocks hS dX4_count_189 (hP) (rfl)

set_option maxHeartbeats 1000000 in
set_option maxRecDepth 100000 in
theorem c_X4_count_9 (l : Launch) (D : va_G) (k : Nat → ClassId) (d : Nat → Nat → Nat) (ns : Int32) (S : Nat → Nat → Int32) (V : Nat → Nat → Int32) (al op wf bh ah : Nat → Int32) (tr : Int32)   : MI l yX4_count wsX4_count ({ frames := 0, cells := 0, slots := 0, locals := 0 }) D k [.ref (d 0 0), .int 9] (wXo d ns ++ (wSt k (d 1) S ++ (wWays k (d 8) (d 9) V al op wf ++ (wRw k (d 10) bh ah tr)))) (S 7 1) (wXo d ns ++ (wSt k (d 1) S ++ (wWays k (d 8) (d 9) V al op wf ++ wRw k (d 10) bh ah tr))) := by
  intro sz
  refine Met.ofW (cc := cX4_count) (maxL := 2) (ret := (some .int)) (by decide) rfl ?_
  intro p e s m args below meth c s₁ B hml hv
  obtain ⟨rfl, hN, hsz, hP, hK, hD0⟩ := hv
  have hx := B.exec
  have hb := B.bytes
  have hr := B.returns
  have hts := atoms_spec (ws := wsX4_count) B.pre
  have hown : s.vm.findClass RX4 = some m.cls := findClass_of_methodNamed B.named
  have hlocks := B.notSynchronized
  subst hsz
  have hD := hD0.self (sz := s.heap.size)
  generalize hAe : va_A (wXo d ns ++ (wSt k (d 1) S ++ (wWays k (d 8) (d 9) V al op wf ++ (wRw k (d 10) bh ah tr)))) s.heap.size = A at hD ⊢
  have hA : ∀ q : Nat, s.heap.size ≤ q → A q := fun q h => by rw [← hAe]; exact Or.inr h
  have hS : va_S A s.heap s.heap [] := va_S.rf
  have hl := lv_entry ([.ref (d 0 0), .int 9]) (n := 2) (Nat.le_of_ble_eq_true rfl)
  rw [lg_entry_eq]
  generalize (lg_sl ([.ref (d 0 0), .int 9]) ++ List.replicate (2 - (lg_sl ([.ref (d 0 0), .int 9])).length) Slot.unset).toArray = ls at hl ⊢
  have hl : lv_has ls 2 [(0, .ref (d 0 0)), (1, .int 9)] := hl
  obtain ⟨H, hHe⟩ : ∃ H, H = s.heap := ⟨_, rfl⟩
  have hP : va_P D vwCl (wXo d ns ++ (wSt k (d 1) S ++ (wWays k (d 8) (d 9) V al op wf ++ (wRw k (d 10) bh ah tr)))) H := by rw [hHe]; exact hP
  have hS : va_S A s.heap H [] := by rw [hHe]; exact hS
  rw [← hHe]
  refine absQ (fun Q hQ => ?_)
  refine lv_iload_n hx hb dX4_count_0 rfl (lv_at hl 1 rfl) ?_
  refine lv_tableIn (off := 189) (tgt := 190) hx hb dX4_count_1 (by decide) (by decide) rfl (by decide) ?_
  refine lv_aload_n hx hb dX4_count_190 rfl (lv_at hl 0 rfl) ?_
  refine va_get (D := D) (ci := 4) (v := .ref (d 1 0)) (C := RX4) (T := TX4) (N := 9) hx hb hts (fun _ h9 => (List.mem_cons_of_mem _ (List.mem_append_left _ (List.mem_append_left _ (List.mem_append_left _ (List.mem_append_left _ (List.mem_append_right _ h9))))))) hown hK hP 0 rfl rfl 0 (by decide) (hts _ (List.mem_of_getElem? (i := 3) rfl)) (fun _ h9 => h9) rfl dX4_count_191 ?_
  refine va_get (D := D) (ci := 1) (v := .int (S 7 1)) (C := RX1) (T := TX1) (N := 10) hx hb hts (fun _ h9 => (List.mem_cons_of_mem _ (List.mem_append_left _ (List.mem_append_left _ (List.mem_append_left _ (List.mem_append_right _ h9)))))) hown hK hP 1 rfl rfl 8 (by decide) (hts _ (List.mem_of_getElem? (i := 11) rfl)) (fun _ h9 => h9) rfl dX4_count_194 ?_
  subst hQ
  exact rt_i hx hb hr hlocks hS dX4_count_197 (hP) (rfl)

set_option maxHeartbeats 1000000 in
set_option maxRecDepth 100000 in
theorem c_X4_count_10 (l : Launch) (D : va_G) (k : Nat → ClassId) (d : Nat → Nat → Nat) (ns : Int32) (S : Nat → Nat → Int32) (V : Nat → Nat → Int32) (al op wf bh ah : Nat → Int32) (tr : Int32)   : MI l yX4_count wsX4_count ({ frames := 0, cells := 0, slots := 0, locals := 0 }) D k [.ref (d 0 0), .int 10] (wXo d ns ++ (wSt k (d 1) S ++ (wWays k (d 8) (d 9) V al op wf ++ (wRw k (d 10) bh ah tr)))) (S 7 2) (wXo d ns ++ (wSt k (d 1) S ++ (wWays k (d 8) (d 9) V al op wf ++ wRw k (d 10) bh ah tr))) := by
  intro sz
  refine Met.ofW (cc := cX4_count) (maxL := 2) (ret := (some .int)) (by decide) rfl ?_
  intro p e s m args below meth c s₁ B hml hv
  obtain ⟨rfl, hN, hsz, hP, hK, hD0⟩ := hv
  have hx := B.exec
  have hb := B.bytes
  have hr := B.returns
  have hts := atoms_spec (ws := wsX4_count) B.pre
  have hown : s.vm.findClass RX4 = some m.cls := findClass_of_methodNamed B.named
  have hlocks := B.notSynchronized
  subst hsz
  have hD := hD0.self (sz := s.heap.size)
  generalize hAe : va_A (wXo d ns ++ (wSt k (d 1) S ++ (wWays k (d 8) (d 9) V al op wf ++ (wRw k (d 10) bh ah tr)))) s.heap.size = A at hD ⊢
  have hA : ∀ q : Nat, s.heap.size ≤ q → A q := fun q h => by rw [← hAe]; exact Or.inr h
  have hS : va_S A s.heap s.heap [] := va_S.rf
  have hl := lv_entry ([.ref (d 0 0), .int 10]) (n := 2) (Nat.le_of_ble_eq_true rfl)
  rw [lg_entry_eq]
  generalize (lg_sl ([.ref (d 0 0), .int 10]) ++ List.replicate (2 - (lg_sl ([.ref (d 0 0), .int 10])).length) Slot.unset).toArray = ls at hl ⊢
  have hl : lv_has ls 2 [(0, .ref (d 0 0)), (1, .int 10)] := hl
  obtain ⟨H, hHe⟩ : ∃ H, H = s.heap := ⟨_, rfl⟩
  have hP : va_P D vwCl (wXo d ns ++ (wSt k (d 1) S ++ (wWays k (d 8) (d 9) V al op wf ++ (wRw k (d 10) bh ah tr)))) H := by rw [hHe]; exact hP
  have hS : va_S A s.heap H [] := by rw [hHe]; exact hS
  rw [← hHe]
  refine absQ (fun Q hQ => ?_)
  refine lv_iload_n hx hb dX4_count_0 rfl (lv_at hl 1 rfl) ?_
  refine lv_tableIn (off := 197) (tgt := 198) hx hb dX4_count_1 (by decide) (by decide) rfl (by decide) ?_
  refine lv_aload_n hx hb dX4_count_198 rfl (lv_at hl 0 rfl) ?_
  refine va_get (D := D) (ci := 4) (v := .ref (d 1 0)) (C := RX4) (T := TX4) (N := 9) hx hb hts (fun _ h9 => (List.mem_cons_of_mem _ (List.mem_append_left _ (List.mem_append_left _ (List.mem_append_left _ (List.mem_append_left _ (List.mem_append_right _ h9))))))) hown hK hP 0 rfl rfl 0 (by decide) (hts _ (List.mem_of_getElem? (i := 3) rfl)) (fun _ h9 => h9) rfl dX4_count_199 ?_
  refine va_get (D := D) (ci := 1) (v := .int (S 7 2)) (C := RX1) (T := TX1) (N := 10) hx hb hts (fun _ h9 => (List.mem_cons_of_mem _ (List.mem_append_left _ (List.mem_append_left _ (List.mem_append_left _ (List.mem_append_right _ h9)))))) hown hK hP 1 rfl rfl 9 (by decide) (hts _ (List.mem_of_getElem? (i := 12) rfl)) (fun _ h9 => h9) rfl dX4_count_202 ?_
  subst hQ
  exact rt_i hx hb hr hlocks hS dX4_count_205 (hP) (rfl)

set_option maxHeartbeats 1000000 in
set_option maxRecDepth 100000 in
theorem c_X4_count_11 (l : Launch) (D : va_G) (k : Nat → ClassId) (d : Nat → Nat → Nat) (ns : Int32) (S : Nat → Nat → Int32) (V : Nat → Nat → Int32) (al op wf bh ah : Nat → Int32) (tr : Int32)   : MI l yX4_count wsX4_count ({ frames := 0, cells := 0, slots := 0, locals := 0 }) D k [.ref (d 0 0), .int 11] (wXo d ns ++ (wSt k (d 1) S ++ (wWays k (d 8) (d 9) V al op wf ++ (wRw k (d 10) bh ah tr)))) ns (wXo d ns ++ (wSt k (d 1) S ++ (wWays k (d 8) (d 9) V al op wf ++ wRw k (d 10) bh ah tr))) := by
  intro sz
  refine Met.ofW (cc := cX4_count) (maxL := 2) (ret := (some .int)) (by decide) rfl ?_
  intro p e s m args below meth c s₁ B hml hv
  obtain ⟨rfl, hN, hsz, hP, hK, hD0⟩ := hv
  have hx := B.exec
  have hb := B.bytes
  have hr := B.returns
  have hts := atoms_spec (ws := wsX4_count) B.pre
  have hown : s.vm.findClass RX4 = some m.cls := findClass_of_methodNamed B.named
  have hlocks := B.notSynchronized
  subst hsz
  have hD := hD0.self (sz := s.heap.size)
  generalize hAe : va_A (wXo d ns ++ (wSt k (d 1) S ++ (wWays k (d 8) (d 9) V al op wf ++ (wRw k (d 10) bh ah tr)))) s.heap.size = A at hD ⊢
  have hA : ∀ q : Nat, s.heap.size ≤ q → A q := fun q h => by rw [← hAe]; exact Or.inr h
  have hS : va_S A s.heap s.heap [] := va_S.rf
  have hl := lv_entry ([.ref (d 0 0), .int 11]) (n := 2) (Nat.le_of_ble_eq_true rfl)
  rw [lg_entry_eq]
  generalize (lg_sl ([.ref (d 0 0), .int 11]) ++ List.replicate (2 - (lg_sl ([.ref (d 0 0), .int 11])).length) Slot.unset).toArray = ls at hl ⊢
  have hl : lv_has ls 2 [(0, .ref (d 0 0)), (1, .int 11)] := hl
  obtain ⟨H, hHe⟩ : ∃ H, H = s.heap := ⟨_, rfl⟩
  have hP : va_P D vwCl (wXo d ns ++ (wSt k (d 1) S ++ (wWays k (d 8) (d 9) V al op wf ++ (wRw k (d 10) bh ah tr)))) H := by rw [hHe]; exact hP
  have hS : va_S A s.heap H [] := by rw [hHe]; exact hS
  rw [← hHe]
  refine absQ (fun Q hQ => ?_)
  refine lv_iload_n hx hb dX4_count_0 rfl (lv_at hl 1 rfl) ?_
  refine lv_tableIn (off := 205) (tgt := 206) hx hb dX4_count_1 (by decide) (by decide) rfl (by decide) ?_
  refine lv_aload_n hx hb dX4_count_206 rfl (lv_at hl 0 rfl) ?_
  refine va_get (D := D) (ci := 4) (v := .int ns) (C := RX4) (T := TX4) (N := 9) hx hb hts (fun _ h9 => (List.mem_cons_of_mem _ (List.mem_append_left _ (List.mem_append_left _ (List.mem_append_left _ (List.mem_append_left _ (List.mem_append_right _ h9))))))) hown hK hP 0 rfl rfl 3 (by decide) (hts _ (List.mem_of_getElem? (i := 13) rfl)) (fun _ h9 => h9) rfl dX4_count_207 ?_
  subst hQ
  exact rt_i hx hb hr hlocks hS dX4_count_210 (hP) (rfl)
