set_option maxHeartbeats 1000000 in
set_option maxRecDepth 100000 in
theorem c_X3_walk (l : Launch) (D : va_G) (k : Nat → ClassId) (a b : Nat → Nat) (S : Nat → Nat → Int32) (op wf : Nat → Int32) (no : Int32) : ∀ (n : Nat) (q dp na : Nat) (ahead : Int32) (al : Nat → Int32), 9 - q ≤ n → q < 9 → dp ≤ q → na + (walkL (S 2) (S 1) n q ahead).length ≤ 512 → MV l yX3_walk wsX3_walk ({ frames := n + 2, cells := 0, slots := 0, locals := 40 * (n + 1) }) D k [.ref (a 0), .int (nI q), .int ahead, .int (nI dp)] (wWy k a b S al op wf (nI na) no) (wWy k a b S (apL al na (walkL (S 2) (S 1) n q ahead)) op wf (nI (na + (walkL (S 2) (S 1) n q ahead).length)) no) := by
  intro n
  induction n with
  | zero => intro q dp na ahead al hf hq hdp hlen; omega
  | succ n ihr =>
    intro q dp na ahead al hf hq hdp hlen
    intro sz
    refine Met.ofW (cc := cX3_walk) (maxL := 6) (ret := none) (by decide) rfl ?_
    intro p e s m args below meth c s₁ B hml hv
    obtain ⟨rfl, hN, hsz, hP, hK, hD0⟩ := hv
    have hx := B.exec
    have hb := B.bytes
    have hr := B.returns
    have hts := atoms_spec (ws := wsX3_walk) B.pre
    have hown : s.vm.findClass RX3 = some m.cls := findClass_of_methodNamed B.named
    have hlocks := B.notSynchronized
    subst hsz
    have hD := hD0.self (sz := s.heap.size)
    generalize hAe : va_A (wWy k a b S al op wf (nI na) no) s.heap.size = A at hD ⊢
    have hA : ∀ q : Nat, s.heap.size ≤ q → A q := fun q h => by rw [← hAe]; exact Or.inr h
    have hS : va_S A s.heap s.heap [] := va_S.rf
    have hl := lv_entry ([.ref (a 0), .int (nI q), .int ahead, .int (nI dp)]) (n := 6) (Nat.le_of_ble_eq_true rfl)
    rw [lg_entry_eq]
    generalize (lg_sl ([.ref (a 0), .int (nI q), .int ahead, .int (nI dp)]) ++ List.replicate (6 - (lg_sl ([.ref (a 0), .int (nI q), .int ahead, .int (nI dp)])).length) Slot.unset).toArray = ls at hl ⊢
    have hl : lv_has ls 6 [(0, .ref (a 0)), (1, .int (nI q)), (2, .int ahead), (3, .int (nI dp))] := hl
    obtain ⟨H, hHe⟩ : ∃ H, H = s.heap := ⟨_, rfl⟩
    have hP : va_P D vwCl (wWy k a b S al op wf (nI na) no) H := by rw [hHe]; exact hP
    have hS : va_S A s.heap H [] := by rw [hHe]; exact hS
    rw [← hHe]
    refine absQ (fun Q hQ => ?_)
    refine lv_iload_n hx hb dX3_walk_0 rfl (lv_at hl 1 rfl) ?_
    have hPc : va_P D vwCl ([]) H := hP.sub [] rfl
    have hDc : va_D A ([]) := hD.sub [] (by decide +kernel) rfl
    refine cl_i0 (va_runSN (As := [.int (nI q)]) (rest := []) ⟨hx, hb, hml, hown, hts⟩ (c_X4_isPiece l D k (nI q) H.size) ⟨va_cnB 1 hts gX3_walk_X4_isPiece_n56 rfl rfl rfl hN.2.2.2.2.2.2.1 (hts (.initialized RX4) (List.mem_of_getElem? (i := 7) rfl)) (by decide +kernel) ⟨Nat.le_of_ble_eq_true rfl, Nat.le_of_ble_eq_true rfl⟩, hts (.static yX4_isPiece) (List.mem_of_getElem? (i := 6) rfl), trivial⟩ ⟨pr_blind, pr_at hN hPc hK hDc⟩ rfl rfl hl.1 rfl (lv_room (Nat.le_of_ble_eq_true rfl)) dX3_walk_1 ⟨Nat.le_of_ble_eq_true rfl, Nat.le_of_ble_eq_true rfl⟩) hP hD hS hA [] rfl (fun H locs hP hD hS => ?_)
    clear hPc hDc
    refine lv_if_eq (tgt := 13) hx hb dX3_walk_4 (by decide) (fun c_1 => ?_) (fun c_1 => ?_)
    · have c_1 := bI_eq.mp c_1
      exact absurd c_1 (by rw [pcB_t (by omega)]; decide)
    · have c_1 := bI_ne.mp c_1
      refine lv_iload_n hx hb dX3_walk_7 rfl (lv_at hl 3 rfl) ?_
      refine lv_bipush (v := 9) hx hb dX3_walk_8 (by decide) ?_
      refine lv_icmp_lt (tgt := 14) hx hb dX3_walk_10 (by decide) (fun c_2 => ?_) (fun c_2 => ?_)
      · have c_2 : dp < 9 := (nI_ltI (a := dp) (b := 9) (by omega) (by omega)).mp c_2
        refine lv_iload_n hx hb dX3_walk_14 rfl (lv_at hl 2 rfl) ?_
        refine lv_iconst (v := 1) hx hb dX3_walk_15 (by decide) ?_
        refine lv_iload_n hx hb dX3_walk_16 rfl (lv_at hl 1 rfl) ?_
        refine lv_ishl hx hb dX3_walk_17 ?_
        refine lv_ior hx hb dX3_walk_18 ?_
        refine lv_istore (lv' := [(4, .int (ahead ||| (1 <<< ((nI q) &&& 31)))), (0, .ref (a 0)), (1, .int (nI q)), (2, .int ahead), (3, .int (nI dp))]) hx hb dX3_walk_19 hl (by decide) rfl (fun ls hl => ?_)
        refine lv_aload_n hx hb dX3_walk_21 rfl (lv_at hl 1 rfl) ?_
        refine va_get (D := D) (ci := 3) (v := .ref (b 0)) (C := RX3) (T := TX3) (N := 6) hx hb hts (fun _ h9 => (List.mem_cons_of_mem _ (List.mem_append_left _ (List.mem_append_right _ h9)))) hown hK hP 0 rfl rfl 4 (by decide) (hts _ (List.mem_of_getElem? (i := 1) rfl)) (fun _ h9 => h9) rfl dX3_walk_22 ?_
        refine va_get (D := D) (ci := 1) (v := .ref (b 2)) (C := RX1) (T := TX1) (N := 10) hx hb hts (fun _ h9 => (List.mem_cons_of_mem _ (List.mem_append_right _ h9))) hown hK hP 4 rfl rfl 1 (by decide) (hts _ (List.mem_of_getElem? (i := 2) rfl)) (fun _ h9 => h9) rfl dX3_walk_25 ?_
        refine lv_iload_n hx hb dX3_walk_28 rfl (lv_at hl 2 rfl) ?_
        refine ar_ld hx hb hK hP 6 rfl q (nI_clamp (by omega)) (vp_in_nI (by omega) (by omega)) dX3_walk_29 ?_
        refine lv_iconst (v := 2) hx hb dX3_walk_30 (by decide) ?_
        refine lv_iand hx hb dX3_walk_31 ?_
        refine lv_if_eq (tgt := 73) hx hb dX3_walk_32 (by decide) (fun c_3 => ?_) (fun c_3 => ?_)
        · refine lv_iload_n hx hb dX3_walk_73 rfl (lv_at hl 2 rfl) ?_
          refine lv_iconst (v := 1) hx hb dX3_walk_74 (by decide) ?_
          refine lv_iadd hx hb dX3_walk_75 ?_
          refine tp_e (y := (nI (q + 1))) (nI_add q 1) ?_
          refine lv_istore (lv' := [(5, .int (nI (q + 1))), (4, .int (ahead ||| (1 <<< ((nI q) &&& 31)))), (0, .ref (a 0)), (1, .int (nI q)), (2, .int ahead), (3, .int (nI dp))]) hx hb dX3_walk_76 hl (by decide) rfl (fun ls hl => ?_)
          suffices LOOP_i : ∀ (fu_i i : Nat) (al1 : Nat → Int32) (na1 : Int32), 9 - i < fu_i → i ≤ 9 → al1 = apL al na (hdL (S 1) q ahead ++ loopL (stepL (S 2) q (fun x => walkL (S 2) (S 1) n x (ahead ||| (1 <<< (nI q &&& 31))))) (q + 1) (i - (q + 1))) → na1 = nI (na + (hdL (S 1) q ahead ++ loopL (stepL (S 2) q (fun x => walkL (S 2) (S 1) n x (ahead ||| (1 <<< (nI q &&& 31))))) (q + 1) (i - (q + 1))).length) → ((q + 1) ≤ i) → ∀ (H : Heap) (locs : List Loc) (ls : Array Slot), va_P D vwCl ([(a 0, .inr (3, [.ref (a 1), .ref (a 2), .int na1, .int no, .ref (b 0), .ref (a 3)])), (a 1, .inl (k 0, 512, .inl al1)), (a 2, .inl (k 0, 512, .inl op)), (a 3, .inl (k 0, 9, .inl wf)), (b 0, .inr (1, [.ref (b 1), .ref (b 2), .ref (b 3), .ref (b 4), .ref (b 5), .ref (b 6), .ref (b 7), .int (S 7 0), .int (S 7 1), .int (S 7 2)])), (b 1, .inl (k 0, 9, .inl (S 0))), (b 2, .inl (k 0, 9, .inl (S 1))), (b 3, .inl (k 0, 9, .inl (S 2))), (b 4, .inl (k 0, 9, .inl (S 3))), (b 5, .inl (k 0, 9, .inl (S 4))), (b 6, .inl (k 0, 12, .inl (S 5))), (b 7, .inl (k 0, 12, .inl (S 6)))]) H → va_D A ([(a 0, .inr (3, [.ref (a 1), .ref (a 2), .int na1, .int no, .ref (b 0), .ref (a 3)])), (a 1, .inl (k 0, 512, .inl al1)), (a 2, .inl (k 0, 512, .inl op)), (a 3, .inl (k 0, 9, .inl wf)), (b 0, .inr (1, [.ref (b 1), .ref (b 2), .ref (b 3), .ref (b 4), .ref (b 5), .ref (b 6), .ref (b 7), .int (S 7 0), .int (S 7 1), .int (S 7 2)])), (b 1, .inl (k 0, 9, .inl (S 0))), (b 2, .inl (k 0, 9, .inl (S 1))), (b 3, .inl (k 0, 9, .inl (S 2))), (b 4, .inl (k 0, 9, .inl (S 3))), (b 5, .inl (k 0, 9, .inl (S 4))), (b 6, .inl (k 0, 12, .inl (S 5))), (b 7, .inl (k 0, 12, .inl (S 6)))]) → va_S A s.heap H locs → lv_has ls 6 [(5, .int (nI i)), (4, .int (ahead ||| (1 <<< ((nI q) &&& 31)))), (0, .ref (a 0)), (1, .int (nI q)), (2, .int ahead), (3, .int (nI dp))] → W p l e ({ frames := n + 1 + 2, cells := 0, slots := 0, locals := 40 * (n + 1 + 1) } : Room) s m ([.ref (a 0), .int (nI q), .int ahead, .int (nI dp)] : List Value).toArray below meth c H locs 0 0 Q (F0 m 78 ls []) from LOOP_i (9 + 1) (q + 1) al (nI na) (by omega) (by omega) (by rw [hdL, if_pos c_3, show q + 1 - (q + 1) = 0 from by omega, loopL, List.append_nil]; exact (apL_nil al na).symm) (by rw [hdL, if_pos c_3, show q + 1 - (q + 1) = 0 from by omega, loopL, List.append_nil]; rfl) (by omega) _ _ _ hP hD hS (lv_sub hl [0, 1, 2, 3, 4, 5] rfl)
          clear hP hD hS hl hHe
          intro fu_i
          induction fu_i with
          | zero => intro i al1 na1 hn_i; omega
          | succ fu_i ih_i =>
            intro i al1 na1 hn_i hle_i e_al1 e_na1 hlo_i H locs ls hP hD hS hl
            subst e_al1
            subst e_na1
            refine lv_iload hx hb dX3_walk_78 (lv_at hl 0 rfl) ?_
            refine lv_bipush (v := 9) hx hb dX3_walk_80 (by decide) ?_
            refine lv_icmp_ge (tgt := 120) hx hb dX3_walk_82 (by decide) (fun c_4 => ?_) (fun c_4 => ?_)
            · have c_4 : 9 ≤ i := (nI_leI (a := 9) (b := i) (by omega) (by omega)).mp c_4
              have hz_i : 9 = i := by omega
              subst hz_i
              subst hQ
              exact rt_v hx hb hr hlocks hS dX3_walk_120 (by rw [walkL_s]; exact hP)
            · have c_4 : ¬ (9 ≤ i) := fun h9 => c_4 ((nI_leI (a := 9) (b := i) (by omega) (by omega)).mpr h9)
              refine lv_aload_n hx hb dX3_walk_85 rfl (lv_at hl 2 rfl) ?_
              refine va_get (D := D) (ci := 3) (v := .ref (b 0)) (C := RX3) (T := TX3) (N := 6) hx hb hts (fun _ h9 => (List.mem_cons_of_mem _ (List.mem_append_left _ (List.mem_append_right _ h9)))) hown hK hP 0 rfl rfl 4 (by decide) (hts _ (List.mem_of_getElem? (i := 1) rfl)) (fun _ h9 => h9) rfl dX3_walk_86 ?_
              refine va_get (D := D) (ci := 1) (v := .ref (b 3)) (C := RX1) (T := TX1) (N := 10) hx hb hts (fun _ h9 => (List.mem_cons_of_mem _ (List.mem_append_right _ h9))) hown hK hP 4 rfl rfl 2 (by decide) (hts _ (List.mem_of_getElem? (i := 5) rfl)) (fun _ h9 => h9) rfl dX3_walk_89 ?_
              refine lv_iload_n hx hb dX3_walk_92 rfl (lv_at hl 3 rfl) ?_
              refine ar_ld hx hb hK hP 7 rfl q (nI_clamp (by omega)) (vp_in_nI (by omega) (by omega)) dX3_walk_93 ?_
              refine lv_iload hx hb dX3_walk_94 (lv_at hl 0 rfl) ?_
              have hPc : va_P D vwCl ([]) H := hP.sub [] rfl
              have hDc : va_D A ([]) := hD.sub [] (by decide +kernel) rfl
              refine cl_i0 (va_runSN (As := [.int ((S 2) q), .int (nI i)]) (rest := []) ⟨hx, hb, hml, hown, hts⟩ (c_X4_bit l D k ((S 2) q) (nI i) H.size) ⟨va_cnB 2 hts gX3_walk_X4_bit_n60 rfl rfl rfl hN.2.2.2.2.2.2.2.1 (hts (.initialized RX4) (List.mem_of_getElem? (i := 7) rfl)) (by decide +kernel) ⟨Nat.le_of_ble_eq_true rfl, Nat.le_of_ble_eq_true rfl⟩, hts (.static yX4_bit) (List.mem_of_getElem? (i := 9) rfl), trivial⟩ ⟨pr_blind, pr_at hN hPc hK hDc⟩ rfl rfl hl.1 rfl (lv_room (Nat.le_of_ble_eq_true rfl)) dX3_walk_96 ⟨Nat.le_of_ble_eq_true rfl, Nat.le_of_ble_eq_true rfl⟩) hP hD hS hA [] rfl (fun H locs hP hD hS => ?_)
              clear hPc hDc
              refine lv_iconst (v := 1) hx hb dX3_walk_99 (by decide) ?_
              refine lv_icmp_ne (tgt := 114) hx hb dX3_walk_100 (by decide) (fun c_5 => ?_) (fun c_5 => ?_)
              · refine lv_iinc (v := (nI (i + 1))) (lv' := [(5, .int (nI (i + 1))), (4, .int (ahead ||| (1 <<< ((nI q) &&& 31)))), (0, .ref (a 0)), (1, .int (nI q)), (2, .int ahead), (3, .int (nI dp))]) hx hb dX3_walk_114 hl (k := 0) rfl (nI_1 i) (by decide) rfl (fun ls hl => ?_)
                refine lv_goto (tgt := 78) hx hb dX3_walk_117 (by decide) ?_
                exact ih_i (i + 1) (apL al na (hdL (S 1) q ahead ++ loopL (stepL (S 2) q (fun x => walkL (S 2) (S 1) n x (ahead ||| (1 <<< (nI q &&& 31))))) (q + 1) (i - (q + 1)))) (nI (na + (hdL (S 1) q ahead ++ loopL (stepL (S 2) q (fun x => walkL (S 2) (S 1) n x (ahead ||| (1 <<< (nI q &&& 31))))) (q + 1) (i - (q + 1))).length)) (by omega) (by omega) (by rw [loopL_s _ (show q + 1 ≤ i from by omega)]; simp only [stepL, if_neg c_5, List.append_nil]) (by rw [loopL_s _ (show q + 1 ≤ i from by omega)]; simp only [stepL, if_neg c_5, List.append_nil]) (by omega) _ _ _ hP hD hS (lv_sub hl [0, 1, 2, 3, 4, 5] rfl)
              · refine lv_aload_n hx hb dX3_walk_103 rfl (lv_at hl 2 rfl) ?_
                refine lv_iload hx hb dX3_walk_104 (lv_at hl 0 rfl) ?_
                refine lv_iload hx hb dX3_walk_106 (lv_at hl 1 rfl) ?_
                refine lv_iload_n hx hb dX3_walk_108 rfl (lv_at hl 5 rfl) ?_
                refine lv_iconst (v := 1) hx hb dX3_walk_109 (by decide) ?_
                refine lv_iadd hx hb dX3_walk_110 ?_
                refine tp_e (y := (nI (dp + 1))) (nI_add dp 1) ?_
                have hlc : na + (hdL (S 1) q ahead ++ loopL (stepL (S 2) q (fun x => walkL (S 2) (S 1) n x (ahead ||| (1 <<< (nI q &&& 31))))) (q + 1) (i - (q + 1))).length + (walkL (S 2) (S 1) n i (ahead ||| (1 <<< (nI q &&& 31)))).length ≤ 512 := by
                  have h9 := loopL_le (stepL (S 2) q (fun x => walkL (S 2) (S 1) n x (ahead ||| (1 <<< (nI q &&& 31))))) (q + 1) i (9 - (q + 1)) (by omega) (by omega)
                  rw [walkL_s, List.length_append] at hlen
                  have h8 : ((stepL (S 2) q (fun x => walkL (S 2) (S 1) n x (ahead ||| (1 <<< (nI q &&& 31))))) i).length = (walkL (S 2) (S 1) n i (ahead ||| (1 <<< (nI q &&& 31)))).length := by simp only [stepL, if_pos c_5]
                  rw [h8] at h9
                  rw [List.length_append]
                  omega
                have hPc : va_P D vwCl (wWy k a b S (apL al na (hdL (S 1) q ahead ++ loopL (stepL (S 2) q (fun x => walkL (S 2) (S 1) n x (ahead ||| (1 <<< (nI q &&& 31))))) (q + 1) (i - (q + 1)))) op wf (nI (na + (hdL (S 1) q ahead ++ loopL (stepL (S 2) q (fun x => walkL (S 2) (S 1) n x (ahead ||| (1 <<< (nI q &&& 31))))) (q + 1) (i - (q + 1))).length)) no) H := hP.sub [0, 1, 2, 3, 4, 5, 6, 7, 8, 9, 10, 11] rfl
                have hDc : va_D A (wWy k a b S (apL al na (hdL (S 1) q ahead ++ loopL (stepL (S 2) q (fun x => walkL (S 2) (S 1) n x (ahead ||| (1 <<< (nI q &&& 31))))) (q + 1) (i - (q + 1)))) op wf (nI (na + (hdL (S 1) q ahead ++ loopL (stepL (S 2) q (fun x => walkL (S 2) (S 1) n x (ahead ||| (1 <<< (nI q &&& 31))))) (q + 1) (i - (q + 1))).length)) no) := hD.sub [0, 1, 2, 3, 4, 5, 6, 7, 8, 9, 10, 11] (by decide +kernel) rfl
                refine cl_v (va_runS (As := [.ref (a 0), .int (nI i), .int (ahead ||| (1 <<< ((nI q) &&& 31))), .int (nI (dp + 1))]) (rest := []) ⟨hx, hb, hml, hown, hts⟩ (ihr i (dp + 1) (na + (hdL (S 1) q ahead ++ loopL (stepL (S 2) q (fun x => walkL (S 2) (S 1) n x (ahead ||| (1 <<< (nI q &&& 31))))) (q + 1) (i - (q + 1))).length) (ahead ||| (1 <<< (nI q &&& 31))) (apL al na (hdL (S 1) q ahead ++ loopL (stepL (S 2) q (fun x => walkL (S 2) (S 1) n x (ahead ||| (1 <<< (nI q &&& 31))))) (q + 1) (i - (q + 1)))) (by omega) (by omega) (by omega) hlc H.size) (va_cwS 4 hts gX3_walk_X3_walk rfl rfl rfl (by decide +kernel) ⟨by show n + 2 + 1 ≤ n + 1 + 2; omega, by show 8 + (6 + 11) + 40 * (n + 1) ≤ 40 * (n + 1 + 1); omega⟩) ⟨pr_blind, pr_at hN hPc hK hDc⟩ rfl rfl hl.1 rfl (lv_room (Nat.le_of_ble_eq_true rfl)) dX3_walk_111 ⟨Nat.le_of_ble_eq_true rfl, Nat.le_of_ble_eq_true rfl⟩) hP hD hS hA [0, 1, 2, 3, 4, 5, 6, 7, 8, 9, 10, 11] [] ([]) [a 0, a 1, a 2, a 3, b 0, b 1, b 2, b 3, b 4, b 5, b 6, b 7] 12 rfl (wn := [(a 0, .inr (3, [.ref (a 1), .ref (a 2), .int (nI (na + (hdL (S 1) q ahead ++ loopL (stepL (S 2) q (fun x => walkL (S 2) (S 1) n x (ahead ||| (1 <<< (nI q &&& 31))))) (q + 1) (i - (q + 1))).length + (walkL (S 2) (S 1) n i (ahead ||| (1 <<< (nI q &&& 31)))).length)), .int no, .ref (b 0), .ref (a 3)])), (a 1, .inl (k 0, 512, .inl (apL (apL al na (hdL (S 1) q ahead ++ loopL (stepL (S 2) q (fun x => walkL (S 2) (S 1) n x (ahead ||| (1 <<< (nI q &&& 31))))) (q + 1) (i - (q + 1)))) (na + (hdL (S 1) q ahead ++ loopL (stepL (S 2) q (fun x => walkL (S 2) (S 1) n x (ahead ||| (1 <<< (nI q &&& 31))))) (q + 1) (i - (q + 1))).length) (walkL (S 2) (S 1) n i (ahead ||| (1 <<< (nI q &&& 31))))))), (a 2, .inl (k 0, 512, .inl op)), (a 3, .inl (k 0, 9, .inl wf)), (b 0, .inr (1, [.ref (b 1), .ref (b 2), .ref (b 3), .ref (b 4), .ref (b 5), .ref (b 6), .ref (b 7), .int (S 7 0), .int (S 7 1), .int (S 7 2)])), (b 1, .inl (k 0, 9, .inl (S 0))), (b 2, .inl (k 0, 9, .inl (S 1))), (b 3, .inl (k 0, 9, .inl (S 2))), (b 4, .inl (k 0, 9, .inl (S 3))), (b 5, .inl (k 0, 9, .inl (S 4))), (b 6, .inl (k 0, 12, .inl (S 5))), (b 7, .inl (k 0, 12, .inl (S 6)))]) rfl rfl rfl rfl (by decide +kernel) rfl rfl (fun H locs hP hD hS => ?_)
                clear hPc hDc
                refine lv_iinc (v := (nI (i + 1))) (lv' := [(5, .int (nI (i + 1))), (4, .int (ahead ||| (1 <<< ((nI q) &&& 31)))), (0, .ref (a 0)), (1, .int (nI q)), (2, .int ahead), (3, .int (nI dp))]) hx hb dX3_walk_114 hl (k := 0) rfl (nI_1 i) (by decide) rfl (fun ls hl => ?_)
                refine lv_goto (tgt := 78) hx hb dX3_walk_117 (by decide) ?_
                exact ih_i (i + 1) (apL (apL al na (hdL (S 1) q ahead ++ loopL (stepL (S 2) q (fun x => walkL (S 2) (S 1) n x (ahead ||| (1 <<< (nI q &&& 31))))) (q + 1) (i - (q + 1)))) (na + (hdL (S 1) q ahead ++ loopL (stepL (S 2) q (fun x => walkL (S 2) (S 1) n x (ahead ||| (1 <<< (nI q &&& 31))))) (q + 1) (i - (q + 1))).length) (walkL (S 2) (S 1) n i (ahead ||| (1 <<< (nI q &&& 31))))) (nI (na + (hdL (S 1) q ahead ++ loopL (stepL (S 2) q (fun x => walkL (S 2) (S 1) n x (ahead ||| (1 <<< (nI q &&& 31))))) (q + 1) (i - (q + 1))).length + (walkL (S 2) (S 1) n i (ahead ||| (1 <<< (nI q &&& 31)))).length)) (by omega) (by omega) (by rw [apL_app, loopL_s _ (show q + 1 ≤ i from by omega), ← List.append_assoc]; simp only [stepL, if_pos c_5]) (by rw [loopL_s _ (show q + 1 ≤ i from by omega), ← List.append_assoc, List.length_append (as := hdL (S 1) q ahead ++ loopL (stepL (S 2) q (fun x => walkL (S 2) (S 1) n x (ahead ||| (1 <<< (nI q &&& 31))))) (q + 1) (i - (q + 1))), ← Nat.add_assoc]; simp only [stepL, if_pos c_5]) (by omega) _ _ _ hP hD hS (lv_sub hl [0, 1, 2, 3, 4, 5] rfl)
        · have hl1 : 1 ≤ (walkL (S 2) (S 1) (n + 1) q ahead).length := by rw [walkL_s, hdL, if_neg c_3]; simp
          refine lv_aload_n hx hb dX3_walk_35 rfl (lv_at hl 1 rfl) ?_
          refine va_get (D := D) (ci := 3) (v := .int (nI na)) (C := RX3) (T := TX3) (N := 6) hx hb hts (fun _ h9 => (List.mem_cons_of_mem _ (List.mem_append_left _ (List.mem_append_right _ h9)))) hown hK hP 0 rfl rfl 2 (by decide) (hts _ (List.mem_of_getElem? (i := 3) rfl)) (fun _ h9 => h9) rfl dX3_walk_36 ?_
          refine lv_if_lt (tgt := 73) hx hb dX3_walk_39 (by decide) (fun c_6 => ?_) (fun c_6 => ?_)
          · have c_6 : na < 0 := (nI_ltI (a := na) (b := 0) (by omega) (by omega)).mp c_6
            exact absurd c_6 (by omega)
          · have c_6 : ¬ (na < 0) := fun h9 => c_6 ((nI_ltI (a := na) (b := 0) (by omega) (by omega)).mpr h9)
            refine lv_aload_n hx hb dX3_walk_42 rfl (lv_at hl 1 rfl) ?_
            refine va_get (D := D) (ci := 3) (v := .int (nI na)) (C := RX3) (T := TX3) (N := 6) hx hb hts (fun _ h9 => (List.mem_cons_of_mem _ (List.mem_append_left _ (List.mem_append_right _ h9)))) hown hK hP 0 rfl rfl 2 (by decide) (hts _ (List.mem_of_getElem? (i := 3) rfl)) (fun _ h9 => h9) rfl dX3_walk_43 ?_
            refine lv_sipush (v := 512) hx hb dX3_walk_46 (by decide) ?_
            refine lv_icmp_ge (tgt := 73) hx hb dX3_walk_49 (by decide) (fun c_7 => ?_) (fun c_7 => ?_)
            · have c_7 : 512 ≤ na := (nI_leI (a := 512) (b := na) (by omega) (by omega)).mp c_7
              exact absurd c_7 (by omega)
            · have c_7 : ¬ (512 ≤ na) := fun h9 => c_7 ((nI_leI (a := 512) (b := na) (by omega) (by omega)).mpr h9)
              refine lv_aload_n hx hb dX3_walk_52 rfl (lv_at hl 1 rfl) ?_
              refine va_get (D := D) (ci := 3) (v := .ref (a 1)) (C := RX3) (T := TX3) (N := 6) hx hb hts (fun _ h9 => (List.mem_cons_of_mem _ (List.mem_append_left _ (List.mem_append_right _ h9)))) hown hK hP 0 rfl rfl 0 (by decide) (hts _ (List.mem_of_getElem? (i := 4) rfl)) (fun _ h9 => h9) rfl dX3_walk_53 ?_
              refine lv_aload_n hx hb dX3_walk_56 rfl (lv_at hl 1 rfl) ?_
              refine va_get (D := D) (ci := 3) (v := .int (nI na)) (C := RX3) (T := TX3) (N := 6) hx hb hts (fun _ h9 => (List.mem_cons_of_mem _ (List.mem_append_left _ (List.mem_append_right _ h9)))) hown hK hP 0 rfl rfl 2 (by decide) (hts _ (List.mem_of_getElem? (i := 3) rfl)) (fun _ h9 => h9) rfl dX3_walk_57 ?_
              refine lv_iload hx hb dX3_walk_60 (lv_at hl 0 rfl) ?_
              refine ar_st hx hb hK hP hD hS 1 rfl na (nI_clamp (by omega)) (vp_in_nI (by omega) (by omega)) dX3_walk_62 (wn := [(a 0, .inr (3, [.ref (a 1), .ref (a 2), .int (nI na), .int no, .ref (b 0), .ref (a 3)])), (a 1, .inl (k 0, 512, .inl (upd al na (ahead ||| (1 <<< ((nI q) &&& 31)))))), (a 2, .inl (k 0, 512, .inl op)), (a 3, .inl (k 0, 9, .inl wf)), (b 0, .inr (1, [.ref (b 1), .ref (b 2), .ref (b 3), .ref (b 4), .ref (b 5), .ref (b 6), .ref (b 7), .int (S 7 0), .int (S 7 1), .int (S 7 2)])), (b 1, .inl (k 0, 9, .inl (S 0))), (b 2, .inl (k 0, 9, .inl (S 1))), (b 3, .inl (k 0, 9, .inl (S 2))), (b 4, .inl (k 0, 9, .inl (S 3))), (b 5, .inl (k 0, 9, .inl (S 4))), (b 6, .inl (k 0, 12, .inl (S 5))), (b 7, .inl (k 0, 12, .inl (S 6)))]) rfl (fun H locs hP hD hS => ?_)
              refine lv_aload_n hx hb dX3_walk_63 rfl (lv_at hl 1 rfl) ?_
              refine lv_dup hx hb dX3_walk_64 rfl ?_
              refine va_get (D := D) (ci := 3) (v := .int (nI na)) (C := RX3) (T := TX3) (N := 6) hx hb hts (fun _ h9 => (List.mem_cons_of_mem _ (List.mem_append_left _ (List.mem_append_right _ h9)))) hown hK hP 0 rfl rfl 2 (by decide) (hts _ (List.mem_of_getElem? (i := 3) rfl)) (fun _ h9 => h9) rfl dX3_walk_65 ?_
              refine lv_iconst (v := 1) hx hb dX3_walk_68 (by decide) ?_
              refine lv_iadd hx hb dX3_walk_69 ?_
              refine tp_e (y := (nI (na + 1))) (nI_add na 1) ?_
              refine va_put (D := D) (ci := 3) (v := .int (nI (na + 1))) (ty := tyX3 2) (C := RX3) (T := TX3) (N := 6) hx hb hts (fun _ h9 => (List.mem_cons_of_mem _ (List.mem_append_left _ (List.mem_append_right _ h9)))) tyX3 tyX3_ok nmX3 hown hK hP hD hS 0 rfl rfl 2 (by decide) (hts _ (List.mem_of_getElem? (i := 3) rfl)) (fun _ h9 => h9) rfl (tyX3_ok 2 (by decide)) rfl rfl (Nat.le_of_ble_eq_true rfl) dX3_walk_70 (fun H locs hP hD hS => ?_)
              have hP : va_P D vwCl ([(a 0, .inr (3, [.ref (a 1), .ref (a 2), .int (nI (na + 1)), .int no, .ref (b 0), .ref (a 3)])), (a 1, .inl (k 0, 512, .inl (upd al na (ahead ||| (1 <<< ((nI q) &&& 31)))))), (a 2, .inl (k 0, 512, .inl op)), (a 3, .inl (k 0, 9, .inl wf)), (b 0, .inr (1, [.ref (b 1), .ref (b 2), .ref (b 3), .ref (b 4), .ref (b 5), .ref (b 6), .ref (b 7), .int (S 7 0), .int (S 7 1), .int (S 7 2)])), (b 1, .inl (k 0, 9, .inl (S 0))), (b 2, .inl (k 0, 9, .inl (S 1))), (b 3, .inl (k 0, 9, .inl (S 2))), (b 4, .inl (k 0, 9, .inl (S 3))), (b 5, .inl (k 0, 9, .inl (S 4))), (b 6, .inl (k 0, 12, .inl (S 5))), (b 7, .inl (k 0, 12, .inl (S 6)))]) H := hP
              have hD : va_D A ([(a 0, .inr (3, [.ref (a 1), .ref (a 2), .int (nI (na + 1)), .int no, .ref (b 0), .ref (a 3)])), (a 1, .inl (k 0, 512, .inl (upd al na (ahead ||| (1 <<< ((nI q) &&& 31)))))), (a 2, .inl (k 0, 512, .inl op)), (a 3, .inl (k 0, 9, .inl wf)), (b 0, .inr (1, [.ref (b 1), .ref (b 2), .ref (b 3), .ref (b 4), .ref (b 5), .ref (b 6), .ref (b 7), .int (S 7 0), .int (S 7 1), .int (S 7 2)])), (b 1, .inl (k 0, 9, .inl (S 0))), (b 2, .inl (k 0, 9, .inl (S 1))), (b 3, .inl (k 0, 9, .inl (S 2))), (b 4, .inl (k 0, 9, .inl (S 3))), (b 5, .inl (k 0, 9, .inl (S 4))), (b 6, .inl (k 0, 12, .inl (S 5))), (b 7, .inl (k 0, 12, .inl (S 6)))]) := hD
              refine lv_iload_n hx hb dX3_walk_73 rfl (lv_at hl 2 rfl) ?_
              refine lv_iconst (v := 1) hx hb dX3_walk_74 (by decide) ?_
              refine lv_iadd hx hb dX3_walk_75 ?_
              refine tp_e (y := (nI (q + 1))) (nI_add q 1) ?_
              refine lv_istore (lv' := [(5, .int (nI (q + 1))), (4, .int (ahead ||| (1 <<< ((nI q) &&& 31)))), (0, .ref (a 0)), (1, .int (nI q)), (2, .int ahead), (3, .int (nI dp))]) hx hb dX3_walk_76 hl (by decide) rfl (fun ls hl => ?_)
              suffices LOOP_i : ∀ (fu_i i : Nat) (al1 : Nat → Int32) (na1 : Int32), 9 - i < fu_i → i ≤ 9 → al1 = apL al na (hdL (S 1) q ahead ++ loopL (stepL (S 2) q (fun x => walkL (S 2) (S 1) n x (ahead ||| (1 <<< (nI q &&& 31))))) (q + 1) (i - (q + 1))) → na1 = nI (na + (hdL (S 1) q ahead ++ loopL (stepL (S 2) q (fun x => walkL (S 2) (S 1) n x (ahead ||| (1 <<< (nI q &&& 31))))) (q + 1) (i - (q + 1))).length) → ((q + 1) ≤ i) → ∀ (H : Heap) (locs : List Loc) (ls : Array Slot), va_P D vwCl ([(a 0, .inr (3, [.ref (a 1), .ref (a 2), .int na1, .int no, .ref (b 0), .ref (a 3)])), (a 1, .inl (k 0, 512, .inl al1)), (a 2, .inl (k 0, 512, .inl op)), (a 3, .inl (k 0, 9, .inl wf)), (b 0, .inr (1, [.ref (b 1), .ref (b 2), .ref (b 3), .ref (b 4), .ref (b 5), .ref (b 6), .ref (b 7), .int (S 7 0), .int (S 7 1), .int (S 7 2)])), (b 1, .inl (k 0, 9, .inl (S 0))), (b 2, .inl (k 0, 9, .inl (S 1))), (b 3, .inl (k 0, 9, .inl (S 2))), (b 4, .inl (k 0, 9, .inl (S 3))), (b 5, .inl (k 0, 9, .inl (S 4))), (b 6, .inl (k 0, 12, .inl (S 5))), (b 7, .inl (k 0, 12, .inl (S 6)))]) H → va_D A ([(a 0, .inr (3, [.ref (a 1), .ref (a 2), .int na1, .int no, .ref (b 0), .ref (a 3)])), (a 1, .inl (k 0, 512, .inl al1)), (a 2, .inl (k 0, 512, .inl op)), (a 3, .inl (k 0, 9, .inl wf)), (b 0, .inr (1, [.ref (b 1), .ref (b 2), .ref (b 3), .ref (b 4), .ref (b 5), .ref (b 6), .ref (b 7), .int (S 7 0), .int (S 7 1), .int (S 7 2)])), (b 1, .inl (k 0, 9, .inl (S 0))), (b 2, .inl (k 0, 9, .inl (S 1))), (b 3, .inl (k 0, 9, .inl (S 2))), (b 4, .inl (k 0, 9, .inl (S 3))), (b 5, .inl (k 0, 9, .inl (S 4))), (b 6, .inl (k 0, 12, .inl (S 5))), (b 7, .inl (k 0, 12, .inl (S 6)))]) → va_S A s.heap H locs → lv_has ls 6 [(5, .int (nI i)), (4, .int (ahead ||| (1 <<< ((nI q) &&& 31)))), (0, .ref (a 0)), (1, .int (nI q)), (2, .int ahead), (3, .int (nI dp))] → W p l e ({ frames := n + 1 + 2, cells := 0, slots := 0, locals := 40 * (n + 1 + 1) } : Room) s m ([.ref (a 0), .int (nI q), .int ahead, .int (nI dp)] : List Value).toArray below meth c H locs 0 0 Q (F0 m 78 ls []) from LOOP_i (9 + 1) (q + 1) (upd al na (ahead ||| (1 <<< ((nI q) &&& 31)))) (nI (na + 1)) (by omega) (by omega) (by rw [hdL, if_neg c_3, show q + 1 - (q + 1) = 0 from by omega, loopL, List.append_nil]; exact apL_one al na _) (by rw [hdL, if_neg c_3, show q + 1 - (q + 1) = 0 from by omega, loopL, List.append_nil]; rfl) (by omega) _ _ _ hP hD hS (lv_sub hl [0, 1, 2, 3, 4, 5] rfl)
              clear hP hD hS hl hHe
              intro fu_i
              induction fu_i with
              | zero => intro i al1 na1 hn_i; omega
              | succ fu_i ih_i =>
                intro i al1 na1 hn_i hle_i e_al1 e_na1 hlo_i H locs ls hP hD hS hl
                subst e_al1
                subst e_na1
                refine lv_iload hx hb dX3_walk_78 (lv_at hl 0 rfl) ?_
                refine lv_bipush (v := 9) hx hb dX3_walk_80 (by decide) ?_
                refine lv_icmp_ge (tgt := 120) hx hb dX3_walk_82 (by decide) (fun c_8 => ?_) (fun c_8 => ?_)
                · have c_8 : 9 ≤ i := (nI_leI (a := 9) (b := i) (by omega) (by omega)).mp c_8
                  have hz_i : 9 = i := by omega
                  subst hz_i
                  subst hQ
                  exact rt_v hx hb hr hlocks hS dX3_walk_120 (by rw [walkL_s]; exact hP)
                · have c_8 : ¬ (9 ≤ i) := fun h9 => c_8 ((nI_leI (a := 9) (b := i) (by omega) (by omega)).mpr h9)
                  refine lv_aload_n hx hb dX3_walk_85 rfl (lv_at hl 2 rfl) ?_
                  refine va_get (D := D) (ci := 3) (v := .ref (b 0)) (C := RX3) (T := TX3) (N := 6) hx hb hts (fun _ h9 => (List.mem_cons_of_mem _ (List.mem_append_left _ (List.mem_append_right _ h9)))) hown hK hP 0 rfl rfl 4 (by decide) (hts _ (List.mem_of_getElem? (i := 1) rfl)) (fun _ h9 => h9) rfl dX3_walk_86 ?_
                  refine va_get (D := D) (ci := 1) (v := .ref (b 3)) (C := RX1) (T := TX1) (N := 10) hx hb hts (fun _ h9 => (List.mem_cons_of_mem _ (List.mem_append_right _ h9))) hown hK hP 4 rfl rfl 2 (by decide) (hts _ (List.mem_of_getElem? (i := 5) rfl)) (fun _ h9 => h9) rfl dX3_walk_89 ?_
                  refine lv_iload_n hx hb dX3_walk_92 rfl (lv_at hl 3 rfl) ?_
                  refine ar_ld hx hb hK hP 7 rfl q (nI_clamp (by omega)) (vp_in_nI (by omega) (by omega)) dX3_walk_93 ?_
                  refine lv_iload hx hb dX3_walk_94 (lv_at hl 0 rfl) ?_
                  have hPc : va_P D vwCl ([]) H := hP.sub [] rfl
                  have hDc : va_D A ([]) := hD.sub [] (by decide +kernel) rfl
                  refine cl_i0 (va_runSN (As := [.int ((S 2) q), .int (nI i)]) (rest := []) ⟨hx, hb, hml, hown, hts⟩ (c_X4_bit l D k ((S 2) q) (nI i) H.size) ⟨va_cnB 2 hts gX3_walk_X4_bit_n60 rfl rfl rfl hN.2.2.2.2.2.2.2.1 (hts (.initialized RX4) (List.mem_of_getElem? (i := 7) rfl)) (by decide +kernel) ⟨Nat.le_of_ble_eq_true rfl, Nat.le_of_ble_eq_true rfl⟩, hts (.static yX4_bit) (List.mem_of_getElem? (i := 9) rfl), trivial⟩ ⟨pr_blind, pr_at hN hPc hK hDc⟩ rfl rfl hl.1 rfl (lv_room (Nat.le_of_ble_eq_true rfl)) dX3_walk_96 ⟨Nat.le_of_ble_eq_true rfl, Nat.le_of_ble_eq_true rfl⟩) hP hD hS hA [] rfl (fun H locs hP hD hS => ?_)
                  clear hPc hDc
                  refine lv_iconst (v := 1) hx hb dX3_walk_99 (by decide) ?_
                  refine lv_icmp_ne (tgt := 114) hx hb dX3_walk_100 (by decide) (fun c_9 => ?_) (fun c_9 => ?_)
                  · refine lv_iinc (v := (nI (i + 1))) (lv' := [(5, .int (nI (i + 1))), (4, .int (ahead ||| (1 <<< ((nI q) &&& 31)))), (0, .ref (a 0)), (1, .int (nI q)), (2, .int ahead), (3, .int (nI dp))]) hx hb dX3_walk_114 hl (k := 0) rfl (nI_1 i) (by decide) rfl (fun ls hl => ?_)
                    refine lv_goto (tgt := 78) hx hb dX3_walk_117 (by decide) ?_
                    exact ih_i (i + 1) (apL al na (hdL (S 1) q ahead ++ loopL (stepL (S 2) q (fun x => walkL (S 2) (S 1) n x (ahead ||| (1 <<< (nI q &&& 31))))) (q + 1) (i - (q + 1)))) (nI (na + (hdL (S 1) q ahead ++ loopL (stepL (S 2) q (fun x => walkL (S 2) (S 1) n x (ahead ||| (1 <<< (nI q &&& 31))))) (q + 1) (i - (q + 1))).length)) (by omega) (by omega) (by rw [loopL_s _ (show q + 1 ≤ i from by omega)]; simp only [stepL, if_neg c_9, List.append_nil]) (by rw [loopL_s _ (show q + 1 ≤ i from by omega)]; simp only [stepL, if_neg c_9, List.append_nil]) (by omega) _ _ _ hP hD hS (lv_sub hl [0, 1, 2, 3, 4, 5] rfl)
                  · refine lv_aload_n hx hb dX3_walk_103 rfl (lv_at hl 2 rfl) ?_
                    refine lv_iload hx hb dX3_walk_104 (lv_at hl 0 rfl) ?_
                    refine lv_iload hx hb dX3_walk_106 (lv_at hl 1 rfl) ?_
                    refine lv_iload_n hx hb dX3_walk_108 rfl (lv_at hl 5 rfl) ?_
                    refine lv_iconst (v := 1) hx hb dX3_walk_109 (by decide) ?_
                    refine lv_iadd hx hb dX3_walk_110 ?_
                    refine tp_e (y := (nI (dp + 1))) (nI_add dp 1) ?_
                    have hlc : na + (hdL (S 1) q ahead ++ loopL (stepL (S 2) q (fun x => walkL (S 2) (S 1) n x (ahead ||| (1 <<< (nI q &&& 31))))) (q + 1) (i - (q + 1))).length + (walkL (S 2) (S 1) n i (ahead ||| (1 <<< (nI q &&& 31)))).length ≤ 512 := by
                      have h9 := loopL_le (stepL (S 2) q (fun x => walkL (S 2) (S 1) n x (ahead ||| (1 <<< (nI q &&& 31))))) (q + 1) i (9 - (q + 1)) (by omega) (by omega)
                      rw [walkL_s, List.length_append] at hlen
                      have h8 : ((stepL (S 2) q (fun x => walkL (S 2) (S 1) n x (ahead ||| (1 <<< (nI q &&& 31))))) i).length = (walkL (S 2) (S 1) n i (ahead ||| (1 <<< (nI q &&& 31)))).length := by simp only [stepL, if_pos c_9]
                      rw [h8] at h9
                      rw [List.length_append]
                      omega
                    have hPc : va_P D vwCl (wWy k a b S (apL al na (hdL (S 1) q ahead ++ loopL (stepL (S 2) q (fun x => walkL (S 2) (S 1) n x (ahead ||| (1 <<< (nI q &&& 31))))) (q + 1) (i - (q + 1)))) op wf (nI (na + (hdL (S 1) q ahead ++ loopL (stepL (S 2) q (fun x => walkL (S 2) (S 1) n x (ahead ||| (1 <<< (nI q &&& 31))))) (q + 1) (i - (q + 1))).length)) no) H := hP.sub [0, 1, 2, 3, 4, 5, 6, 7, 8, 9, 10, 11] rfl
                    have hDc : va_D A (wWy k a b S (apL al na (hdL (S 1) q ahead ++ loopL (stepL (S 2) q (fun x => walkL (S 2) (S 1) n x (ahead ||| (1 <<< (nI q &&& 31))))) (q + 1) (i - (q + 1)))) op wf (nI (na + (hdL (S 1) q ahead ++ loopL (stepL (S 2) q (fun x => walkL (S 2) (S 1) n x (ahead ||| (1 <<< (nI q &&& 31))))) (q + 1) (i - (q + 1))).length)) no) := hD.sub [0, 1, 2, 3, 4, 5, 6, 7, 8, 9, 10, 11] (by decide +kernel) rfl
                    refine cl_v (va_runS (As := [.ref (a 0), .int (nI i), .int (ahead ||| (1 <<< ((nI q) &&& 31))), .int (nI (dp + 1))]) (rest := []) ⟨hx, hb, hml, hown, hts⟩ (ihr i (dp + 1) (na + (hdL (S 1) q ahead ++ loopL (stepL (S 2) q (fun x => walkL (S 2) (S 1) n x (ahead ||| (1 <<< (nI q &&& 31))))) (q + 1) (i - (q + 1))).length) (ahead ||| (1 <<< (nI q &&& 31))) (apL al na (hdL (S 1) q ahead ++ loopL (stepL (S 2) q (fun x => walkL (S 2) (S 1) n x (ahead ||| (1 <<< (nI q &&& 31))))) (q + 1) (i - (q + 1)))) (by omega) (by omega) (by omega) hlc H.size) (va_cwS 4 hts gX3_walk_X3_walk rfl rfl rfl (by decide +kernel) ⟨by show n + 2 + 1 ≤ n + 1 + 2; omega, by show 8 + (6 + 11) + 40 * (n + 1) ≤ 40 * (n + 1 + 1); omega⟩) ⟨pr_blind, pr_at hN hPc hK hDc⟩ rfl rfl hl.1 rfl (lv_room (Nat.le_of_ble_eq_true rfl)) dX3_walk_111 ⟨Nat.le_of_ble_eq_true rfl, Nat.le_of_ble_eq_true rfl⟩) hP hD hS hA [0, 1, 2, 3, 4, 5, 6, 7, 8, 9, 10, 11] [] ([]) [a 0, a 1, a 2, a 3, b 0, b 1, b 2, b 3, b 4, b 5, b 6, b 7] 12 rfl (wn := [(a 0, .inr (3, [.ref (a 1), .ref (a 2), .int (nI (na + (hdL (S 1) q ahead ++ loopL (stepL (S 2) q (fun x => walkL (S 2) (S 1) n x (ahead ||| (1 <<< (nI q &&& 31))))) (q + 1) (i - (q + 1))).length + (walkL (S 2) (S 1) n i (ahead ||| (1 <<< (nI q &&& 31)))).length)), .int no, .ref (b 0), .ref (a 3)])), (a 1, .inl (k 0, 512, .inl (apL (apL al na (hdL (S 1) q ahead ++ loopL (stepL (S 2) q (fun x => walkL (S 2) (S 1) n x (ahead ||| (1 <<< (nI q &&& 31))))) (q + 1) (i - (q + 1)))) (na + (hdL (S 1) q ahead ++ loopL (stepL (S 2) q (fun x => walkL (S 2) (S 1) n x (ahead ||| (1 <<< (nI q &&& 31))))) (q + 1) (i - (q + 1))).length) (walkL (S 2) (S 1) n i (ahead ||| (1 <<< (nI q &&& 31))))))), (a 2, .inl (k 0, 512, .inl op)), (a 3, .inl (k 0, 9, .inl wf)), (b 0, .inr (1, [.ref (b 1), .ref (b 2), .ref (b 3), .ref (b 4), .ref (b 5), .ref (b 6), .ref (b 7), .int (S 7 0), .int (S 7 1), .int (S 7 2)])), (b 1, .inl (k 0, 9, .inl (S 0))), (b 2, .inl (k 0, 9, .inl (S 1))), (b 3, .inl (k 0, 9, .inl (S 2))), (b 4, .inl (k 0, 9, .inl (S 3))), (b 5, .inl (k 0, 9, .inl (S 4))), (b 6, .inl (k 0, 12, .inl (S 5))), (b 7, .inl (k 0, 12, .inl (S 6)))]) rfl rfl rfl rfl (by decide +kernel) rfl rfl (fun H locs hP hD hS => ?_)
                    clear hPc hDc
                    refine lv_iinc (v := (nI (i + 1))) (lv' := [(5, .int (nI (i + 1))), (4, .int (ahead ||| (1 <<< ((nI q) &&& 31)))), (0, .ref (a 0)), (1, .int (nI q)), (2, .int ahead), (3, .int (nI dp))]) hx hb dX3_walk_114 hl (k := 0) rfl (nI_1 i) (by decide) rfl (fun ls hl => ?_)
                    refine lv_goto (tgt := 78) hx hb dX3_walk_117 (by decide) ?_
                    exact ih_i (i + 1) (apL (apL al na (hdL (S 1) q ahead ++ loopL (stepL (S 2) q (fun x => walkL (S 2) (S 1) n x (ahead ||| (1 <<< (nI q &&& 31))))) (q + 1) (i - (q + 1)))) (na + (hdL (S 1) q ahead ++ loopL (stepL (S 2) q (fun x => walkL (S 2) (S 1) n x (ahead ||| (1 <<< (nI q &&& 31))))) (q + 1) (i - (q + 1))).length) (walkL (S 2) (S 1) n i (ahead ||| (1 <<< (nI q &&& 31))))) (nI (na + (hdL (S 1) q ahead ++ loopL (stepL (S 2) q (fun x => walkL (S 2) (S 1) n x (ahead ||| (1 <<< (nI q &&& 31))))) (q + 1) (i - (q + 1))).length + (walkL (S 2) (S 1) n i (ahead ||| (1 <<< (nI q &&& 31)))).length)) (by omega) (by omega) (by rw [apL_app, loopL_s _ (show q + 1 ≤ i from by omega), ← List.append_assoc]; simp only [stepL, if_pos c_9]) (by rw [loopL_s _ (show q + 1 ≤ i from by omega), ← List.append_assoc, List.length_append (as := hdL (S 1) q ahead ++ loopL (stepL (S 2) q (fun x => walkL (S 2) (S 1) n x (ahead ||| (1 <<< (nI q &&& 31))))) (q + 1) (i - (q + 1))), ← Nat.add_assoc]; simp only [stepL, if_pos c_9]) (by omega) _ _ _ hP hD hS (lv_sub hl [0, 1, 2, 3, 4, 5] rfl)
      · have c_2 : ¬ (dp < 9) := fun h9 => c_2 ((nI_ltI (a := dp) (b := 9) (by omega) (by omega)).mpr h9)
        exact absurd c_2 (by omega)
