/-! P27 10: the law's own walk -/
theorem cell_blind {b j L : Nat} {xs : Nat → Int32} {sz : Nat} : FrameBlind (va_Pc [.ref b, .int (nI j)] (fun U => U.heap.size = sz ∧ b < sz ∧ va_X b L xs U U.heap)) := fun a U g mk q => by
  obtain ⟨q0, q1, q2, q3⟩ := q
  exact ⟨q0, q1, q2, va_X.moved (u := U) (U := U.calling g mk a) (Vm.Alike.refl U.vm) q3⟩
theorem c_L_cell (l : Launch) (b L j : Nat) (xs : Nat → Int32) (hL : L ≤ 260) (hj : j < L) : ∀ sz : Nat, Met l yL_cell wsL_cell ({ frames := 0, cells := 0, slots := 0, locals := 0 }) (va_Pc [.ref b, .int (nI j)] (fun U => U.heap.size = sz ∧ b < sz ∧ va_X b L xs U U.heap)) (va_Qi (fun r' (_ : Unit) => r' = xs j) (fun _ _ => True) (fun q => sz ≤ q)) 0 0 (fun q => sz ≤ q) := by
  intro sz
  refine Met.ofW (cc := cL_cell) (maxL := 2) (ret := (some .int)) (by decide) rfl ?_
  intro p e s m args below meth c s₁ B hml hv
  obtain ⟨rfl, hsz, hbl, hX⟩ := hv
  have hx := B.exec
  have hb := B.bytes
  have hr := B.returns
  have hlocks := B.notSynchronized
  subst hsz
  have hS : va_S (fun q => s.heap.size ≤ q) s.heap s.heap [] := va_S.rf
  have hbA : ¬ (fun q : Nat => s.heap.size ≤ q) b := Nat.not_le.mpr hbl
  have hl := lv_entry ([.ref b, .int (nI j)]) (n := 2) (Nat.le_of_ble_eq_true rfl)
  rw [lg_entry_eq]
  generalize (lg_sl ([.ref b, .int (nI j)]) ++ List.replicate (2 - (lg_sl ([.ref b, .int (nI j)])).length) Slot.unset).toArray = ls at hl ⊢
  have hl : lv_has ls 2 [(0, .ref b), (1, .int (nI j))] := hl
  refine lv_iload_n hx hb dL_cell_0 rfl (lv_at hl 1 rfl) ?_
  refine lv_aload_n hx hb dL_cell_1 rfl (lv_at hl 0 rfl) ?_
  refine va_slen hx hb hX hbl hbA hS dL_cell_2 ?_
  refine lv_icmp_ge (tgt := 12) hx hb dL_cell_3 (by decide) (fun c1 => ?_) (fun c1 => ?_)
  · have h9 : nI L ≤ nI j := c1
    exact absurd ((nI_leI (a := L) (b := j) (by omega) (by omega)).mp h9) (by omega)
  · refine lv_aload_n hx hb dL_cell_6 rfl (lv_at hl 0 rfl) ?_
    refine lv_iload_n hx hb dL_cell_7 rfl (lv_at hl 1 rfl) ?_
    refine va_sld hx hb hX hbl hbA hS (vp_in_nI hj (by omega)) dL_cell_8 ?_
    rw [nI_clamp (by omega)]
    refine lv_goto (tgt := 20) hx hb dL_cell_9 (by decide) ?_
    exact W.iret (v := xs j) hx hb hr (fun t ht hW => ⟨⟨xs j, (), rfl, rfl, trivial⟩, hS.F ht⟩) hS.2.2 dL_cell_20
/-- what holds all through the law -/
def LC (p : Program) (l : Launch) (s : State) (m : MethodId) (meth : Method) (c : Code) (b L : Nat) (xs : Nat → Int32) (D : va_G) (k : Nat → ClassId) : Prop :=
  p.tables.exec = Jvm.exec ∧ c.code = cL_law ∧ meth.sig.returnType = ret ∧ c.maxLocals = 8 ∧ s.vm.findClass RL = some m.cls ∧ (∀ w ∈ wsL_law, w.before #[Value.ref b] s = true) ∧ va_X b L xs s s.heap ∧ b < s.heap.size ∧ meth.locks = false ∧ va_K D vwCl (TY k) s ∧ NL s ∧ L ≤ 260
theorem lo_C {p : Program} {l : Launch} {e : Env} {s : State} {m : MethodId} {below : List Frame} {meth : Method} {c : Code} {b L : Nat} {xs : Nat → Int32} {D : va_G} {k : Nat → ClassId} {H : Heap} {locs : List Loc} {cells slots : Nat} {Q : State → Prop} {pc : Nat} {ls : Array Slot} {X : va_W} (C1 : LC p l s m meth c b L xs D k) {j : Nat} {rest st0 : List Value} (hj : j < L) (hdg : decode cL_law pc = .ok (.invokestatic 87, 3)) (hst : st0 = [.int (nI j), .ref b] ++ rest) (hcat : (rest.map fun v => v.category).sum ≤ 8) (hls : ls.size = 8) (hc1 : cells ≤ 600172) (hc2 : slots ≤ 7300668) (hP : va_P D vwCl ([] ++ X) H) (hS : va_S (fun q => s.heap.size ≤ q) s.heap H locs)
    (kk : ∀ (H1 : Heap) (locs1 : List Loc), va_P D vwCl ([] ++ X) H1 → va_S (fun q => s.heap.size ≤ q) s.heap H1 locs1 → W p l e room_1 s m #[Value.ref b] below meth c H1 locs1 cells slots Q (F0 m (pc + 3) ls (.int (xs j) :: rest))) :
    W p l e room_1 s m #[Value.ref b] below meth c H locs cells slots Q (F0 m pc ls st0) := by
  obtain ⟨hx, hb, hr, hml, hown, hts, hX, hbl, hlocks, hK, hN, hL⟩ := C1
  have hbA : ¬ (fun q : Nat => s.heap.size ≤ q) b := Nat.not_le.mpr hbl
  refine va_calli (va_runS (As := [.ref b, .int (nI j)]) (rest := rest) ⟨hx, hb, hml, hown, hts⟩ (c_L_cell l b L j xs hL hj H.size) (va_cwS 2 hts gL_law_L_cell rfl rfl rfl (by decide +kernel) ⟨Nat.le_of_ble_eq_true rfl, Nat.le_of_ble_eq_true rfl⟩) ⟨cell_blind, fun U hU hW => ⟨rfl, by rw [hU], Nat.lt_of_lt_of_le hbl hS.1, by rw [hU]; exact va_X.moved hW.alike (va_X.kept hX (hS.2.1 b hbl hbA))⟩⟩ rfl rfl hls hst (lv_room hcat) hdg ⟨hc1, hc2⟩) hS (fun q h1 h2 => absurd h1 (Nat.not_lt.mpr h2)) (fun q h => Nat.le_trans hS.1 h) (fun r' u t H1 locs1 ht hvm hw hB hz hk hS1 => ?_)
  subst hw
  exact kk H1 locs1 (fun i q hq => (hP i q hq).kept (hk q.1 (hP i q hq).lt (Nat.not_le.mpr (hP i q hq).lt))) hS1

set_option maxHeartbeats 4000000 in
set_option maxRecDepth 100000 in
theorem law_loop {p : Program} {l : Launch} {e : Env} {s : State} {m : MethodId} {below : List Frame} {meth : Method} {c : Code} {b L : Nat} {xs : Nat → Int32} {D : va_G} {k : Nat → ClassId} {x0 T : Nat} (hT : T ≤ 36) (hTL : 2 * T ≤ L) (C1 : LC p l s m meth c b L xs D k) :
    ∀ (n j : Nat), T - j < n → j ≤ T → ∀ (ns : Nat) (S : Nat → Nat → Int32) (Z : Nat → Nat → Nat → Int32) (Y0 : Nat → Nat → Int32) (k0 : Int32) (X : va_W) (H : Heap) (locs : List Loc) (ls : Array Slot), ns ≤ 6 → LI S → OX k x0 ns S Z Y0 k0 X → va_P D vwCl ([] ++ X) H → va_D (fun q => s.heap.size ≤ q) ([] ++ X) → va_S (fun q => s.heap.size ≤ q) s.heap H locs → lv_has ls 8 [(4, .int (nI j)), (3, .int (nI T)), (2, .int 1), (1, .ref x0), (0, .ref b)] →
      W p l e room_1 s m #[Value.ref b] below meth c H locs (116 + 7 * j) (2157 + 63 * j) (lw_Z below #[Value.ref b] s) (F0 m 52 ls []) := by
  obtain ⟨hx, hb, hr, hml, hown, hts, hX, hbl, hlocks, hK, hN, hL0⟩ := id C1
  have hbA : ¬ (fun q : Nat => s.heap.size ≤ q) b := Nat.not_le.mpr hbl
  have hA : ∀ q : Nat, s.heap.size ≤ q → (fun q : Nat => s.heap.size ≤ q) q := fun _ h => h
  have hd0 := Drawn.sameBut.refl s.drawn lw_cs
  intro n
  induction n with
  | zero => intro j h1 h2; omega
  | succ n ih =>
    intro j h1 h2 ns S Z Y0 k0 X H locs ls hns hL hO hP hD hS hl
    obtain ⟨f, hSR, hBR, hEX⟩ := id hL
    refine lv_iload hx hb dL_law_52 (lv_at hl 0 rfl) ?_
    refine lv_iload_n hx hb dL_law_54 rfl (lv_at hl 1 rfl) ?_
    refine lv_icmp_ge (tgt := 209) hx hb dL_law_55 (by decide) (fun c_1 => ?_) (fun c_1 => ?_)
    · have c_1 : T ≤ j := (nI_leI (a := T) (b := j) (by omega) (by omega)).mp c_1
      refine lv_iload_n hx hb dL_law_209 rfl (lv_at hl 2 rfl) ?_
      refine va_forget (fun q hq => hS.2.2 q hq) ?_
      refine W.widen (k := 600172) (n := 7300668) (by omega) (by omega) ?_
      refine W.base ?_
      exact lw_ret hd0 hx hb hr hlocks dL_law_210
    · have c_1 : ¬ (T ≤ j) := fun h9 => c_1 ((nI_leI (a := T) (b := j) (by omega) (by omega)).mpr h9)
      refine lv_iload_n hx hb dL_law_58 rfl (lv_at hl 2 rfl) ?_
      refine lv_if_eq (tgt := 209) hx hb dL_law_59 (by decide) (fun c_2 => ?_) (fun c_2 => ?_)
      · exact absurd c_2 (by decide)
      · refine lv_aload_n hx hb dL_law_62 rfl (lv_at hl 3 rfl) ?_
        refine lv_iconst (v := 2) hx hb dL_law_63 (by decide) ?_
        obtain ⟨X_3, hO_4, hM9⟩ := o_count_2 (l := l) (D := D) hSR hO
        refine lo_I (n := 1) (As := [.int 2]) (rest := []) hx hb hml hown hts hK hN hM9 (OX.at0 hO) gL_law_X4_count rfl (by decide +kernel) (by decide) dL_law_64 rfl rfl (Nat.le_of_ble_eq_true rfl) hl.1 (Nat.le_of_ble_eq_true rfl) (Nat.le_of_ble_eq_true rfl) (by show 116 + 7 * j ≤ 600172; omega) (by show 2157 + 63 * j ≤ 7300668; omega) hP hD hS hA (fun H locs hP hD hS => ?_)
        clear hM9
        refine lv_istore (lv' := [(5, .int (smF (S 4) 9)), (4, .int (nI j)), (3, .int (nI T)), (2, .int 1), (1, .ref x0), (0, .ref b)]) hx hb dL_law_67 hl (by decide) rfl (fun ls hl => ?_)
        refine lv_aload_n hx hb dL_law_69 rfl (lv_at hl 4 rfl) ?_
        refine lv_iconst (v := 4) hx hb dL_law_70 (by decide) ?_
        obtain ⟨X_5, hO_6, hM9⟩ := o_count_4 (l := l) (D := D) hSR hO_4
        refine lo_I (n := 1) (As := [.int 4]) (rest := []) hx hb hml hown hts hK hN hM9 (OX.at0 hO_4) gL_law_X4_count rfl (by decide +kernel) (by decide) dL_law_71 rfl rfl (Nat.le_of_ble_eq_true rfl) hl.1 (Nat.le_of_ble_eq_true rfl) (Nat.le_of_ble_eq_true rfl) (by show 116 + 7 * j ≤ 600172; omega) (by show 2157 + 63 * j ≤ 7300668; omega) hP hD hS hA (fun H locs hP hD hS => ?_)
        clear hM9
        refine lv_istore (lv' := [(6, .int (wyF f 0 false 511)), (5, .int (smF (S 4) 9)), (4, .int (nI j)), (3, .int (nI T)), (2, .int 1), (1, .ref x0), (0, .ref b)]) hx hb dL_law_74 hl (by decide) rfl (fun ls hl => ?_)
        refine lv_aload_n hx hb dL_law_76 rfl (lv_at hl 5 rfl) ?_
        refine lv_iconst (v := 0) hx hb dL_law_77 (by decide) ?_
        obtain ⟨X_7, hO_8, hM9⟩ := o_keep (l := l) (D := D) hO_6
        refine lo_I (n := 1) (As := [.int 0]) (rest := []) hx hb hml hown hts hK hN hM9 (OX.at0 hO_6) gL_law_X4_keep rfl (by decide +kernel) (by decide) dL_law_78 rfl rfl (Nat.le_of_ble_eq_true rfl) hl.1 (Nat.le_of_ble_eq_true rfl) (Nat.le_of_ble_eq_true rfl) (by show 116 + 7 * j ≤ 600172; omega) (by show 2157 + 63 * j ≤ 7300668; omega) hP hD hS hA (fun H locs hP hD hS => ?_)
        clear hM9
        refine lv_aload_n hx hb dL_law_81 rfl (lv_at hl 5 rfl) ?_
        refine lv_iconst (v := 0) hx hb dL_law_82 (by decide) ?_
        obtain ⟨X_9, hO_10, hM9⟩ := o_count_0 (l := l) (D := D) hSR hO_8
        refine lo_I (n := 1) (As := [.int 0]) (rest := [.int (cjF (S 2) 9)]) hx hb hml hown hts hK hN hM9 (OX.at0 hO_8) gL_law_X4_count rfl (by decide +kernel) (by decide) dL_law_83 rfl rfl (Nat.le_of_ble_eq_true rfl) hl.1 (Nat.le_of_ble_eq_true rfl) (Nat.le_of_ble_eq_true rfl) (by show 116 + 7 * j ≤ 600172; omega) (by show 2157 + 63 * j ≤ 7300668; omega) hP hD hS hA (fun H locs hP hD hS => ?_)
        clear hM9
        refine lv_icmp_ne (tgt := 125) hx hb dL_law_86 (by decide) (fun c_11 => ?_) (fun c_11 => ?_)
        · exact absurd (rfl) c_11
        · refine lv_aload_n hx hb dL_law_89 rfl (lv_at hl 5 rfl) ?_
          refine lv_aload_n hx hb dL_law_90 rfl (lv_at hl 6 rfl) ?_
          refine lv_iconst (v := 2) hx hb dL_law_91 (by decide) ?_
          refine lv_iload hx hb dL_law_92 (lv_at hl 2 rfl) ?_
          refine lv_imul hx hb dL_law_94 ?_
          refine tp_e (y := (nI (2 * j))) (pk_mul 2 j) ?_
          refine lo_C (j := (2 * j)) (rest := [.ref x0]) C1 (by omega) dL_law_95 rfl (Nat.le_of_ble_eq_true rfl) hl.1 (by show 116 + 7 * j ≤ 600172; omega) (by show 2157 + 63 * j ≤ 7300668; omega) hP hS (fun H locs hP hS => ?_)
          refine lv_aload_n hx hb dL_law_98 rfl (lv_at hl 6 rfl) ?_
          refine lv_iconst (v := 2) hx hb dL_law_99 (by decide) ?_
          refine lv_iload hx hb dL_law_100 (lv_at hl 2 rfl) ?_
          refine lv_imul hx hb dL_law_102 ?_
          refine tp_e (y := (nI (2 * j))) (pk_mul 2 j) ?_
          refine lv_iconst (v := 1) hx hb dL_law_103 (by decide) ?_
          refine lv_iadd hx hb dL_law_104 ?_
          refine tp_e (y := (nI (2 * j + 1))) (nI_add (2 * j) 1) ?_
          refine lo_C (j := (2 * j + 1)) (rest := [.int (xs (2 * j)), .ref x0]) C1 (by omega) dL_law_105 rfl (Nat.le_of_ble_eq_true rfl) hl.1 (by show 116 + 7 * j ≤ 600172; omega) (by show 2157 + 63 * j ≤ 7300668; omega) hP hS (fun H locs hP hS => ?_)
          refine lo_O (n := 3) (As := [.ref x0, .int (xs (2 * j)), .int (xs (2 * j + 1))]) (mc := 0) (ms := 0) hx hb hml hown hts hK hN (c_L_change l D k x0 ns S Z S 1 X_9 (xs (2 * j)) (xs (2 * j + 1)) hns hL hO_10) rfl rfl gL_law_L_change rfl (by decide +kernel) ⟨Nat.le_of_ble_eq_true rfl, Nat.le_of_ble_eq_true rfl⟩ dL_law_108 rfl rfl hl.1 (by show 116 + 7 * j + 0 ≤ 600172; omega) (by show 2157 + 63 * j + 0 ≤ 7300668; omega) hP hD hS hA (fun r9 X_12 H locs hpost hP hD hS => ?_)
          obtain ⟨rfl, ns2, S2, Z2, hns2, hL2, hO_13⟩ := hpost
          obtain ⟨f2, hSR2, hBR2, hEX2⟩ := id hL2
          refine W.widen (k := 116 + 7 * j) (n := 2157 + 63 * j) (Nat.le_refl _) (Nat.le_refl _) ?_
          have hP : va_P D vwCl ([] ++ (X_12)) H := hP
          have hD : va_D (fun q : Nat => s.heap.size ≤ q) ([] ++ (X_12)) := hD
          refine lv_if_eq (tgt := 125) hx hb dL_law_111 (by decide) (fun c_14 => ?_) (fun c_14 => ?_)
          · exact absurd c_14 (by decide)
          · refine lv_aload_n hx hb dL_law_114 rfl (lv_at hl 5 rfl) ?_
            refine lo_O (n := 1) (As := [.ref x0]) (mc := 7) (ms := 63) hx hb hml hown hts hK hN (c_L_holds l D k x0 ns2 S2 Z2 S 1 X_12 f2 hSR2 hBR2 hEX2 hO_13) rfl rfl gL_law_L_holds rfl (by decide +kernel) ⟨Nat.le_of_ble_eq_true rfl, Nat.le_of_ble_eq_true rfl⟩ dL_law_115 rfl rfl hl.1 (by show 116 + 7 * j + 7 ≤ 600172; omega) (by show 2157 + 63 * j + 63 ≤ 7300668; omega) hP hD hS hA (fun r9 X_15 H locs hpost hP hD hS => ?_)
            obtain ⟨rfl, hO_16⟩ := hpost
            have hP : va_P D vwCl ([] ++ (X_15)) H := hP
            have hD : va_D (fun q : Nat => s.heap.size ≤ q) ([] ++ (X_15)) := hD
            refine lv_if_eq (tgt := 125) hx hb dL_law_118 (by decide) (fun c_17 => ?_) (fun c_17 => ?_)
            · exact absurd c_17 (by decide)
            · refine lv_iconst (v := 1) hx hb dL_law_121 (by decide) ?_
              refine lv_goto (tgt := 126) hx hb dL_law_122 (by decide) ?_
              refine lv_istore_n (lv' := [(2, .int 1), (6, .int (wyF f 0 false 511)), (5, .int (smF (S 4) 9)), (4, .int (nI j)), (3, .int (nI T)), (1, .ref x0), (0, .ref b)]) hx hb dL_law_126 rfl hl (by decide) rfl (fun ls hl => ?_)
              refine lv_iload_n hx hb dL_law_127 rfl (lv_at hl 0 rfl) ?_
              refine lv_if_eq (tgt := 203) hx hb dL_law_128 (by decide) (fun c_18 => ?_) (fun c_18 => ?_)
              · exact absurd c_18 (by decide)
              · refine lv_iload hx hb dL_law_131 (lv_at hl 3 rfl) ?_
                refine lv_bipush (v := 6) hx hb dL_law_133 (by decide) ?_
                refine lv_irem hx hb dL_law_135 (by decide) ?_
                refine lv_iconst (v := 5) hx hb dL_law_136 (by decide) ?_
                refine lv_icmp_ne (tgt := 203) hx hb dL_law_137 (by decide) (fun c_19 => ?_) (fun c_19 => ?_)
                · refine lv_iinc (v := (nI (j + 1))) (lv' := [(4, .int (nI (j + 1))), (2, .int 1), (6, .int (wyF f 0 false 511)), (5, .int (smF (S 4) 9)), (3, .int (nI T)), (1, .ref x0), (0, .ref b)]) hx hb dL_law_203 hl (k := 3) rfl (nI_1 j) (by decide) rfl (fun ls hl => ?_)
                  refine lv_goto (tgt := 52) hx hb dL_law_206 (by decide) ?_
                  refine W.widen (k := 116 + 7 * (j + 1)) (n := 2157 + 63 * (j + 1)) (by omega) (by omega) ?_
                  exact ih (j + 1) (by omega) (by omega) ns2 S2 _ _ _ _ H locs ls hns2 hL2 hO_16 hP hD hS (lv_sub hl [0, 4, 1, 5, 6] rfl)
                · refine lv_aload_n hx hb dL_law_140 rfl (lv_at hl 5 rfl) ?_
                  refine lv_iconst (v := 2) hx hb dL_law_141 (by decide) ?_
                  obtain ⟨X_20, hO_21, hM9⟩ := o_count_2 (l := l) (D := D) hSR2 hO_16
                  refine lo_I (n := 1) (As := [.int 2]) (rest := []) hx hb hml hown hts hK hN hM9 (OX.at0 hO_16) gL_law_X4_count rfl (by decide +kernel) (by decide) dL_law_142 rfl rfl (Nat.le_of_ble_eq_true rfl) hl.1 (Nat.le_of_ble_eq_true rfl) (Nat.le_of_ble_eq_true rfl) (by show 116 + 7 * j + 7 ≤ 600172; omega) (by show 2157 + 63 * j + 63 ≤ 7300668; omega) hP hD hS hA (fun H locs hP hD hS => ?_)
                  clear hM9
                  refine lv_istore (lv' := [(7, .int (smF (S2 4) 9)), (2, .int 1), (6, .int (wyF f 0 false 511)), (5, .int (smF (S 4) 9)), (4, .int (nI j)), (3, .int (nI T)), (1, .ref x0), (0, .ref b)]) hx hb dL_law_145 hl (by decide) rfl (fun ls hl => ?_)
                  refine lv_aload_n hx hb dL_law_147 rfl (lv_at hl 6 rfl) ?_
                  refine lv_iconst (v := 0) hx hb dL_law_148 (by decide) ?_
                  obtain ⟨X_22, hO_23, hM9⟩ := o_goBack (l := l) (D := D) hO_21 hns2 rfl
                  refine lo_I (n := 1) (As := [.int 0]) (rest := []) hx hb hml hown hts hK hN hM9 (OX.at0 hO_21) gL_law_X4_goBack rfl (by decide +kernel) (by decide) dL_law_149 rfl rfl (Nat.le_of_ble_eq_true rfl) hl.1 (Nat.le_of_ble_eq_true rfl) (Nat.le_of_ble_eq_true rfl) (by show 116 + 7 * j + 7 ≤ 600172; omega) (by show 2157 + 63 * j + 63 ≤ 7300668; omega) hP hD hS hA (fun H locs hP hD hS => ?_)
                  clear hM9
                  have hsv := svN_le hns2
                  refine lv_aload_n hx hb dL_law_152 rfl (lv_at hl 6 rfl) ?_
                  refine lv_iconst (v := 0) hx hb dL_law_153 (by decide) ?_
                  obtain ⟨X_24, hO_25, hM9⟩ := o_count_0 (l := l) (D := D) hSR hO_23
                  refine lo_I (n := 1) (As := [.int 0]) (rest := [.int (cjF (S 2) 9)]) hx hb hml hown hts hK hN hM9 (OX.at0 hO_23) gL_law_X4_count rfl (by decide +kernel) (by decide) dL_law_154 rfl rfl (Nat.le_of_ble_eq_true rfl) hl.1 (Nat.le_of_ble_eq_true rfl) (Nat.le_of_ble_eq_true rfl) (by show 116 + 7 * j + 7 ≤ 600172; omega) (by show 2157 + 63 * j + 63 ≤ 7300668; omega) hP hD hS hA (fun H locs hP hD hS => ?_)
                  clear hM9
                  refine lv_icmp_ne (tgt := 201) hx hb dL_law_157 (by decide) (fun c_26 => ?_) (fun c_26 => ?_)
                  · exact absurd c_11 c_26
                  · refine lv_aload_n hx hb dL_law_160 rfl (lv_at hl 6 rfl) ?_
                    refine lv_iconst (v := 2) hx hb dL_law_161 (by decide) ?_
                    obtain ⟨X_27, hO_28, hM9⟩ := o_count_2 (l := l) (D := D) hSR hO_25
                    refine lo_I (n := 1) (As := [.int 2]) (rest := []) hx hb hml hown hts hK hN hM9 (OX.at0 hO_25) gL_law_X4_count rfl (by decide +kernel) (by decide) dL_law_162 rfl rfl (Nat.le_of_ble_eq_true rfl) hl.1 (Nat.le_of_ble_eq_true rfl) (Nat.le_of_ble_eq_true rfl) (by show 116 + 7 * j + 7 ≤ 600172; omega) (by show 2157 + 63 * j + 63 ≤ 7300668; omega) hP hD hS hA (fun H locs hP hD hS => ?_)
                    clear hM9
                    refine lv_iload hx hb dL_law_165 (lv_at hl 3 rfl) ?_
                    refine lv_icmp_ne (tgt := 201) hx hb dL_law_167 (by decide) (fun c_29 => ?_) (fun c_29 => ?_)
                    · exact absurd (rfl) c_29
                    · refine lv_aload_n hx hb dL_law_170 rfl (lv_at hl 6 rfl) ?_
                      refine lv_iconst (v := 4) hx hb dL_law_171 (by decide) ?_
                      obtain ⟨X_30, hO_31, hM9⟩ := o_count_4 (l := l) (D := D) hSR hO_28
                      refine lo_I (n := 1) (As := [.int 4]) (rest := []) hx hb hml hown hts hK hN hM9 (OX.at0 hO_28) gL_law_X4_count rfl (by decide +kernel) (by decide) dL_law_172 rfl rfl (Nat.le_of_ble_eq_true rfl) hl.1 (Nat.le_of_ble_eq_true rfl) (Nat.le_of_ble_eq_true rfl) (by show 116 + 7 * j + 7 ≤ 600172; omega) (by show 2157 + 63 * j + 63 ≤ 7300668; omega) hP hD hS hA (fun H locs hP hD hS => ?_)
                      clear hM9
                      refine lv_iload hx hb dL_law_175 (lv_at hl 2 rfl) ?_
                      refine lv_icmp_ne (tgt := 201) hx hb dL_law_177 (by decide) (fun c_32 => ?_) (fun c_32 => ?_)
                      · exact absurd (rfl) c_32
                      · refine lv_aload_n hx hb dL_law_180 rfl (lv_at hl 6 rfl) ?_
                        obtain ⟨X_33, hO_34, hM9⟩ := o_undo (l := l) (D := D) hO_31 (n := svN ns2 - 1) (show svN ns2 = svN ns2 - 1 + 1 from by omega) (show svN ns2 - 1 < 6 from by omega)
                        refine lo_I (n := 0) (As := []) (rest := []) hx hb hml hown hts hK hN hM9 (OX.at0 hO_31) gL_law_X4_undo rfl (by decide +kernel) (by decide) dL_law_181 rfl rfl (Nat.le_of_ble_eq_true rfl) hl.1 (Nat.le_of_ble_eq_true rfl) (Nat.le_of_ble_eq_true rfl) (by show 116 + 7 * j + 7 ≤ 600172; omega) (by show 2157 + 63 * j + 63 ≤ 7300668; omega) hP hD hS hA (fun H locs hP hD hS => ?_)
                        clear hM9
                        rw [svZ_top hns2] at hO_34
                        refine lv_if_lt (tgt := 201) hx hb dL_law_184 (by decide) (fun c_35 => ?_) (fun c_35 => ?_)
                        · have c_35 : svN ns2 - 1 < 0 := (nI_ltI (a := svN ns2 - 1) (b := 0) (by omega) (by omega)).mp c_35
                          exact absurd c_35 (Nat.not_lt_zero _)
                        · have c_35 : ¬ (svN ns2 - 1 < 0) := fun h9 => c_35 ((nI_ltI (a := svN ns2 - 1) (b := 0) (by omega) (by omega)).mpr h9)
                          refine lv_aload_n hx hb dL_law_187 rfl (lv_at hl 6 rfl) ?_
                          refine lv_iconst (v := 2) hx hb dL_law_188 (by decide) ?_
                          obtain ⟨X_36, hO_37, hM9⟩ := o_count_2 (l := l) (D := D) hSR2 hO_34
                          refine lo_I (n := 1) (As := [.int 2]) (rest := []) hx hb hml hown hts hK hN hM9 (OX.at0 hO_34) gL_law_X4_count rfl (by decide +kernel) (by decide) dL_law_189 rfl rfl (Nat.le_of_ble_eq_true rfl) hl.1 (Nat.le_of_ble_eq_true rfl) (Nat.le_of_ble_eq_true rfl) (by show 116 + 7 * j + 7 ≤ 600172; omega) (by show 2157 + 63 * j + 63 ≤ 7300668; omega) hP hD hS hA (fun H locs hP hD hS => ?_)
                          clear hM9
                          refine lv_iload hx hb dL_law_192 (lv_at hl 0 rfl) ?_
                          refine lv_icmp_ne (tgt := 201) hx hb dL_law_194 (by decide) (fun c_38 => ?_) (fun c_38 => ?_)
                          · exact absurd (rfl) c_38
                          · refine lv_iconst (v := 1) hx hb dL_law_197 (by decide) ?_
                            refine lv_goto (tgt := 202) hx hb dL_law_198 (by decide) ?_
                            refine lv_istore_n (lv' := [(2, .int 1), (7, .int (smF (S2 4) 9)), (6, .int (wyF f 0 false 511)), (5, .int (smF (S 4) 9)), (4, .int (nI j)), (3, .int (nI T)), (1, .ref x0), (0, .ref b)]) hx hb dL_law_202 rfl hl (by decide) rfl (fun ls hl => ?_)
                            refine lv_iinc (v := (nI (j + 1))) (lv' := [(4, .int (nI (j + 1))), (2, .int 1), (7, .int (smF (S2 4) 9)), (6, .int (wyF f 0 false 511)), (5, .int (smF (S 4) 9)), (3, .int (nI T)), (1, .ref x0), (0, .ref b)]) hx hb dL_law_203 hl (k := 4) rfl (nI_1 j) (by decide) rfl (fun ls hl => ?_)
                            refine lv_goto (tgt := 52) hx hb dL_law_206 (by decide) ?_
                            refine W.widen (k := 116 + 7 * (j + 1)) (n := 2157 + 63 * (j + 1)) (by omega) (by omega) ?_
                            exact ih (j + 1) (by omega) (by omega) (svN ns2 - 1) S2 _ _ _ _ H locs ls (show svN ns2 - 1 ≤ 6 from by omega) hL2 hO_37 hP hD hS (lv_sub hl [0, 5, 1, 6, 7] rfl)

set_option maxHeartbeats 4000000 in
set_option maxRecDepth 100000 in
theorem law_body {p : Program} {l : Launch} {e : Env} {s : State} {m : MethodId} {below : List Frame} {meth : Method} {c : Code} {b L : Nat} {xs : Nat → Int32} {D : va_G} {k : Nat → ClassId} {x0 : Nat} (C1 : LC p l s m meth c b L xs D k) (S : Nat → Nat → Int32) (Z : Nat → Nat → Nat → Int32) (Y0 : Nat → Nat → Int32) (k0 : Int32) (X : va_W) (H : Heap) (locs : List Loc) (ls : Array Slot) (hL : LI S) (hO : OX k x0 0 S Z Y0 k0 X) (hP : va_P D vwCl ([] ++ X) H) (hD : va_D (fun q => s.heap.size ≤ q) ([] ++ X)) (hS : va_S (fun q => s.heap.size ≤ q) s.heap H locs) (hl : lv_has ls 8 [(1, .ref x0), (0, .ref b)]) :
      W p l e room_1 s m #[Value.ref b] below meth c H locs 109 2094 (lw_Z below #[Value.ref b] s) (F0 m 8 ls []) := by
  obtain ⟨hx, hb, hr, hml, hown, hts, hX, hbl, hlocks, hK, hN, hL0⟩ := id C1
  have hbA : ¬ (fun q : Nat => s.heap.size ≤ q) b := Nat.not_le.mpr hbl
  have hA : ∀ q : Nat, s.heap.size ≤ q → (fun q : Nat => s.heap.size ≤ q) q := fun _ h => h
  have hd0 := Drawn.sameBut.refl s.drawn lw_cs
  obtain ⟨f, hSR, hBR, hEX⟩ := id hL
  refine lv_aload_n hx hb dL_law_8 rfl (lv_at hl 0 rfl) ?_
  refine lo_O (n := 1) (As := [.ref x0]) (mc := 7) (ms := 63) hx hb hml hown hts hK hN (c_L_holds l D k x0 0 S Z Y0 k0 X f hSR hBR hEX hO) rfl rfl gL_law_L_holds rfl (by decide +kernel) ⟨Nat.le_of_ble_eq_true rfl, Nat.le_of_ble_eq_true rfl⟩ dL_law_9 rfl rfl hl.1 (by show 109 + 7 ≤ 600172; omega) (by show 2094 + 63 ≤ 7300668; omega) hP hD hS hA (fun r9 X_1 H locs hpost hP hD hS => ?_)
  obtain ⟨rfl, hO_2⟩ := hpost
  have hP : va_P D vwCl ([] ++ (X_1)) H := hP
  have hD : va_D (fun q : Nat => s.heap.size ≤ q) ([] ++ (X_1)) := hD
  refine lv_if_eq (tgt := 28) hx hb dL_law_12 (by decide) (fun c_3 => ?_) (fun c_3 => ?_)
  · exact absurd c_3 (by decide)
  · refine lv_aload_n hx hb dL_law_15 rfl (lv_at hl 0 rfl) ?_
    refine lv_bipush (v := 11) hx hb dL_law_16 (by decide) ?_
    obtain ⟨X_4, hO_5, hM9⟩ := o_count_11 (l := l) (D := D) hSR hO_2
    refine lo_I (n := 1) (As := [.int 11]) (rest := []) hx hb hml hown hts hK hN hM9 (OX.at0 hO_2) gL_law_X4_count rfl (by decide +kernel) (by decide) dL_law_18 rfl rfl (Nat.le_of_ble_eq_true rfl) hl.1 (Nat.le_of_ble_eq_true rfl) (Nat.le_of_ble_eq_true rfl) (by show 109 + 7 ≤ 600172; omega) (by show 2094 + 63 ≤ 7300668; omega) hP hD hS hA (fun H locs hP hD hS => ?_)
    clear hM9
    refine tp_e (y := 0) (nI_0) ?_
    refine lv_if_ne (tgt := 28) hx hb dL_law_21 (by decide) (fun c_6 => ?_) (fun c_6 => ?_)
    · exact absurd c_6 (by decide)
    · refine lv_iconst (v := 1) hx hb dL_law_24 (by decide) ?_
      refine lv_goto (tgt := 29) hx hb dL_law_25 (by decide) ?_
      refine lv_istore_n (lv' := [(2, .int 1), (1, .ref x0), (0, .ref b)]) hx hb dL_law_29 rfl hl (by decide) rfl (fun ls hl => ?_)
      refine lv_aload_n hx hb dL_law_30 rfl (lv_at hl 2 rfl) ?_
      refine va_slen hx hb hX hbl hbA hS dL_law_31 ?_
      refine tp_e (y := (nI L)) rfl ?_
      refine lv_iconst (v := 2) hx hb dL_law_32 (by decide) ?_
      refine lv_idiv hx hb dL_law_33 (by decide) ?_
      refine tp_e (y := (nI (L / 2))) (nI_div (a := L) (n := 2) (by omega) (by omega)) ?_
      refine lv_bipush (v := 36) hx hb dL_law_34 (by decide) ?_
      refine lv_icmp_le (tgt := 44) hx hb dL_law_36 (by decide) (fun c_7 => ?_) (fun c_7 => ?_)
      · have c_7 : L / 2 ≤ 36 := (nI_leI (a := L / 2) (b := 36) (by omega) (by omega)).mp c_7
        refine lv_aload_n hx hb dL_law_44 rfl (lv_at hl 2 rfl) ?_
        refine va_slen hx hb hX hbl hbA hS dL_law_45 ?_
        refine tp_e (y := (nI L)) rfl ?_
        refine lv_iconst (v := 2) hx hb dL_law_46 (by decide) ?_
        refine lv_idiv hx hb dL_law_47 (by decide) ?_
        refine tp_e (y := (nI (L / 2))) (nI_div (a := L) (n := 2) (by omega) (by omega)) ?_
        refine lv_istore_n (lv' := [(3, .int (nI (L / 2))), (2, .int 1), (1, .ref x0), (0, .ref b)]) hx hb dL_law_48 rfl hl (by decide) rfl (fun ls hl => ?_)
        refine lv_iconst (v := 0) hx hb dL_law_49 (by decide) ?_
        refine lv_istore (lv' := [(4, .int 0), (3, .int (nI (L / 2))), (2, .int 1), (1, .ref x0), (0, .ref b)]) hx hb dL_law_50 hl (by decide) rfl (fun ls hl => ?_)
        refine W.widen (k := 116 + 7 * 0) (n := 2157 + 63 * 0) (Nat.le_of_ble_eq_true rfl) (Nat.le_of_ble_eq_true rfl) ?_
        exact law_loop (T := (L / 2)) (by omega) (by omega) C1 ((L / 2) + 1) 0 (by omega) (by omega) 0 S Z Y0 k0 _ H locs ls (by omega) hL hO_5 hP hD hS (lv_sub hl [0, 1, 2, 3, 4] rfl)
      · have c_7 : ¬ (L / 2 ≤ 36) := fun h9 => c_7 ((nI_leI (a := L / 2) (b := 36) (by omega) (by omega)).mpr h9)
        refine lv_bipush (v := 36) hx hb dL_law_39 (by decide) ?_
        refine lv_goto (tgt := 48) hx hb dL_law_41 (by decide) ?_
        refine lv_istore_n (lv' := [(3, .int 36), (2, .int 1), (1, .ref x0), (0, .ref b)]) hx hb dL_law_48 rfl hl (by decide) rfl (fun ls hl => ?_)
        refine lv_iconst (v := 0) hx hb dL_law_49 (by decide) ?_
        refine lv_istore (lv' := [(4, .int 0), (3, .int 36), (2, .int 1), (1, .ref x0), (0, .ref b)]) hx hb dL_law_50 hl (by decide) rfl (fun ls hl => ?_)
        refine W.widen (k := 116 + 7 * 0) (n := 2157 + 63 * 0) (Nat.le_of_ble_eq_true rfl) (Nat.le_of_ble_eq_true rfl) ?_
        exact law_loop (T := 36) (by omega) (by omega) C1 (36 + 1) 0 (by omega) (by omega) 0 S Z Y0 k0 _ H locs ls (by omega) hL hO_5 hP hD hS (lv_sub hl [0, 1, 2, 3, 4] rfl)
