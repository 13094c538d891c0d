def rwS (f : Nat → Int32) (x : Int32) : Nat → Bool
  | 0 => true
  | i + 1 => rwS f x i && decide (bitv x (nI i) = 0 ∨ bmF f i (9 - (i + 1)) &&& x = 0)
theorem rwS_stop (f : Nat → Int32) (x : Int32) {i : Nat} (h : rwS f x i = false) : ∀ n, rwS f x (i + n) = false
  | 0 => h
  | n + 1 => by
    show (rwS f x (i + n) && _) = false
    rw [rwS_stop f x h n]; rfl
def rwT (f : Nat → Int32) : Nat → Int32
  | 0 => 0
  | t + 1 => if rwS f (nI (t + 1)) 9 = true then (if mnF (nI (t + 1)) 9 ≤ rwT f t then rwT f t else mnF (nI (t + 1)) 9) else rwT f t
theorem rwT_s (f : Nat → Int32) {i : Nat} (h : 1 ≤ i) : rwT f (i + 1 - 1) = if rwS f (nI i) 9 = true then (if mnF (nI i) 9 ≤ rwT f (i - 1) then rwT f (i - 1) else mnF (nI i) 9) else rwT f (i - 1) := by
  obtain ⟨t, rfl⟩ : ∃ t, i = t + 1 := ⟨i - 1, by omega⟩
  rfl

set_option maxHeartbeats 1000000 in
set_option maxRecDepth 100000 in
theorem c_X5_rows (l : Launch) (D : va_G) (k : Nat → ClassId) (h : Nat → Nat) (th : Int32) (f asd sl kp sv : Nat → Int32) (sm : Int32) (tx : Nat → Int32) (ln : Int32) (dg : Int64)  : MI l yX5_rows wsX5_rows ({ frames := 1, cells := 0, slots := 0, locals := 23 }) D k [.ref (h 0)] (wMo k h th f asd sl kp sv sm tx ln dg) (rwT f 511) (wMo k h th f asd sl kp sv sm tx ln dg) := by
  intro sz
  refine Met.ofW (cc := cX5_rows) (maxL := 5) (ret := (some .int)) (by decide) rfl ?_
  intro p e s m args below meth c s₁ B hml hv
  obtain ⟨rfl, hN, hsz, hP, hK, hD0⟩ := hv
  have hx := B.exec
  have hb := B.bytes
  have hr := B.returns
  have hts := atoms_spec (ws := wsX5_rows) B.pre
  have hown : s.vm.findClass RX5 = some m.cls := findClass_of_methodNamed B.named
  have hlocks := B.notSynchronized
  subst hsz
  have hD := hD0.self (sz := s.heap.size)
  generalize hAe : va_A (wMo k h th f asd sl kp sv sm tx ln dg) s.heap.size = A at hD ⊢
  have hA : ∀ q : Nat, s.heap.size ≤ q → A q := fun q h => by rw [← hAe]; exact Or.inr h
  have hS : va_S A s.heap s.heap [] := va_S.rf
  have hl := lv_entry ([.ref (h 0)]) (n := 5) (Nat.le_of_ble_eq_true rfl)
  rw [lg_entry_eq]
  generalize (lg_sl ([.ref (h 0)]) ++ List.replicate (5 - (lg_sl ([.ref (h 0)])).length) Slot.unset).toArray = ls at hl ⊢
  have hl : lv_has ls 5 [(0, .ref (h 0))] := hl
  obtain ⟨H, hHe⟩ : ∃ H, H = s.heap := ⟨_, rfl⟩
  have hP : va_P D vwCl (wMo k h th f asd sl kp sv sm tx ln dg) H := by rw [hHe]; exact hP
  have hS : va_S A s.heap H [] := by rw [hHe]; exact hS
  rw [← hHe]
  refine absQ (fun Q hQ => ?_)
  refine lv_iconst (v := 0) hx hb dX5_rows_0 (by decide) ?_
  refine lv_istore_n (lv' := [(1, .int 0), (0, .ref (h 0))]) hx hb dX5_rows_1 rfl hl (by decide) rfl (fun ls hl => ?_)
  refine lv_iconst (v := 1) hx hb dX5_rows_2 (by decide) ?_
  refine lv_istore_n (lv' := [(2, .int 1), (1, .int 0), (0, .ref (h 0))]) hx hb dX5_rows_3 rfl hl (by decide) rfl (fun ls hl => ?_)
  suffices LOOP_i : ∀ (fu_i i : Nat) (w : Int32), 512 - i < fu_i → i ≤ 512 → w = rwT f (i - 1) → (1 ≤ i) → ∀ (H : Heap) (locs : List Loc) (ls : Array Slot), va_P D vwCl (wMo k h th f asd sl kp sv sm tx ln dg) H → va_D A (wMo k h th f asd sl kp sv sm tx ln dg) → va_S A s.heap H locs → lv_has ls 5 [(2, .int (nI i)), (1, .int w), (0, .ref (h 0))] → W p l e ({ frames := 1, cells := 0, slots := 0, locals := 23 } : Room) s m ([.ref (h 0)] : List Value).toArray below meth c H locs 0 0 Q (F0 m 4 ls []) from LOOP_i (512 + 1) 1 0 (by omega) (by omega) (rfl) (by omega) _ _ _ hP hD hS (lv_sub hl [0, 1, 2] rfl)
  clear hP hD hS hl hHe
  intro fu_i
  induction fu_i with
  | zero => intro i w hn_i; omega
  | succ fu_i ih_i =>
    intro i w hn_i hle_i e_w hlo_i H locs ls hP hD hS hl
    refine lv_iload_n hx hb dX5_rows_4 rfl (lv_at hl 0 rfl) ?_
    refine lv_sipush (v := 511) hx hb dX5_rows_5 (by decide) ?_
    refine lv_icmp_gt (tgt := 86) hx hb dX5_rows_8 (by decide) (fun c_1 => ?_) (fun c_1 => ?_)
    · have c_1 : 511 < i := (nI_ltI (a := 511) (b := i) (by omega) (by omega)).mp c_1
      have hz_i : 512 = i := by omega
      subst hz_i
      refine lv_iload_n hx hb dX5_rows_86 rfl (lv_at hl 1 rfl) ?_
      subst hQ
      exact rt_i hx hb hr hlocks hS dX5_rows_87 (hP) (e_w)
    · have c_1 : ¬ (511 < i) := fun h9 => c_1 ((nI_ltI (a := 511) (b := i) (by omega) (by omega)).mpr h9)
      refine lv_iconst (v := 1) hx hb dX5_rows_11 (by decide) ?_
      refine lv_istore_n (lv' := [(3, .int 1), (2, .int (nI i)), (1, .int w), (0, .ref (h 0))]) hx hb dX5_rows_12 rfl hl (by decide) rfl (fun ls hl => ?_)
      refine lv_iconst (v := 0) hx hb dX5_rows_13 (by decide) ?_
      refine lv_istore (lv' := [(4, .int 0), (3, .int 1), (2, .int (nI i)), (1, .int w), (0, .ref (h 0))]) hx hb dX5_rows_14 hl (by decide) rfl (fun ls hl => ?_)
      suffices LOOP_j : ∀ (fu_j j : Nat) (z : Int32), 9 - j < fu_j → j ≤ 9 → z = bI (rwS f (nI i) j) → ∀ (H : Heap) (locs : List Loc) (ls : Array Slot), va_P D vwCl (wMo k h th f asd sl kp sv sm tx ln dg) H → va_D A (wMo k h th f asd sl kp sv sm tx ln dg) → va_S A s.heap H locs → lv_has ls 5 [(4, .int (nI j)), (3, .int z), (2, .int (nI i)), (1, .int w), (0, .ref (h 0))] → W p l e ({ frames := 1, cells := 0, slots := 0, locals := 23 } : Room) s m ([.ref (h 0)] : List Value).toArray below meth c H locs 0 0 Q (F0 m 16 ls []) from LOOP_j (9 + 1) 0 1 (by omega) (by omega) (rfl)  _ _ _ hP hD hS (lv_sub hl [0, 1, 2, 3, 4] rfl)
      clear hP hD hS hl
      intro fu_j
      induction fu_j with
      | zero => intro j z hn_j; omega
      | succ fu_j ih_j =>
        intro j z hn_j hle_j e_z  H locs ls hP hD hS hl
        refine lv_iload hx hb dX5_rows_16 (lv_at hl 0 rfl) ?_
        refine lv_bipush (v := 9) hx hb dX5_rows_18 (by decide) ?_
        refine lv_icmp_ge (tgt := 59) hx hb dX5_rows_20 (by decide) (fun c_2 => ?_) (fun c_2 => ?_)
        · have c_2 : 9 ≤ j := (nI_leI (a := 9) (b := j) (by omega) (by omega)).mp c_2
          have hz_j : 9 = j := by omega
          subst hz_j
          refine lv_iload_n hx hb dX5_rows_59 rfl (lv_at hl 1 rfl) ?_
          refine lv_if_eq (tgt := 78) hx hb dX5_rows_60 (by decide) (fun c_3 => ?_) (fun c_3 => ?_)
          · refine lv_iload_n hx hb dX5_rows_78 rfl (lv_at hl 3 rfl) ?_
            refine lv_istore_n (lv' := [(1, .int w), (4, .int (nI 9)), (3, .int z), (2, .int (nI i)), (0, .ref (h 0))]) hx hb dX5_rows_79 rfl hl (by decide) rfl (fun ls hl => ?_)
            refine lv_iinc (v := (nI (i + 1))) (lv' := [(2, .int (nI (i + 1))), (1, .int w), (4, .int (nI 9)), (3, .int z), (0, .ref (h 0))]) hx hb dX5_rows_80 hl (k := 3) rfl (nI_1 i) (by decide) rfl (fun ls hl => ?_)
            refine lv_goto (tgt := 4) hx hb dX5_rows_83 (by decide) ?_
            exact ih_i (i + 1) w (by omega) (by omega) (by rw [rwT_s _ (show 1 ≤ i from by omega), ← e_w, if_neg (by rw [bI_0 e_z c_3]; decide)]) (by omega) _ _ _ hP hD hS (lv_sub hl [0, 1, 4] rfl)
          · refine lv_iload_n hx hb dX5_rows_63 rfl (lv_at hl 2 rfl) ?_
            have hPc : va_P D vwCl ([]) H := hP.sub [] rfl
            have hDc : va_D A ([]) := hD.sub [] (by decide +kernel) rfl
            refine cl_i0 (va_runS (As := [.int (nI i)]) (rest := []) ⟨hx, hb, hml, hown, hts⟩ (c_X5_many l D k (nI i) H.size) (va_cwS 1 hts gX5_rows_X5_many rfl rfl rfl (by decide +kernel) ⟨Nat.le_of_ble_eq_true rfl, Nat.le_of_ble_eq_true rfl⟩) ⟨pr_blind, pr_at hN hPc hK hDc⟩ rfl rfl hl.1 rfl (lv_room (Nat.le_of_ble_eq_true rfl)) dX5_rows_64 ⟨Nat.le_of_ble_eq_true rfl, Nat.le_of_ble_eq_true rfl⟩) hP hD hS hA [] rfl (fun H locs hP hD hS => ?_)
            clear hPc hDc
            refine lv_iload_n hx hb dX5_rows_67 rfl (lv_at hl 3 rfl) ?_
            refine lv_icmp_le (tgt := 78) hx hb dX5_rows_68 (by decide) (fun c_4 => ?_) (fun c_4 => ?_)
            · refine lv_iload_n hx hb dX5_rows_78 rfl (lv_at hl 3 rfl) ?_
              refine lv_istore_n (lv' := [(1, .int w), (4, .int (nI 9)), (3, .int z), (2, .int (nI i)), (0, .ref (h 0))]) hx hb dX5_rows_79 rfl hl (by decide) rfl (fun ls hl => ?_)
              refine lv_iinc (v := (nI (i + 1))) (lv' := [(2, .int (nI (i + 1))), (1, .int w), (4, .int (nI 9)), (3, .int z), (0, .ref (h 0))]) hx hb dX5_rows_80 hl (k := 3) rfl (nI_1 i) (by decide) rfl (fun ls hl => ?_)
              refine lv_goto (tgt := 4) hx hb dX5_rows_83 (by decide) ?_
              exact ih_i (i + 1) w (by omega) (by omega) (by rw [rwT_s _ (show 1 ≤ i from by omega), ← e_w, if_pos (bI_1 e_z c_3), if_pos c_4]) (by omega) _ _ _ hP hD hS (lv_sub hl [0, 1, 4] rfl)
            · refine lv_iload_n hx hb dX5_rows_71 rfl (lv_at hl 2 rfl) ?_
              have hPc : va_P D vwCl ([]) H := hP.sub [] rfl
              have hDc : va_D A ([]) := hD.sub [] (by decide +kernel) rfl
              refine cl_i0 (va_runS (As := [.int (nI i)]) (rest := []) ⟨hx, hb, hml, hown, hts⟩ (c_X5_many l D k (nI i) H.size) (va_cwS 1 hts gX5_rows_X5_many rfl rfl rfl (by decide +kernel) ⟨Nat.le_of_ble_eq_true rfl, Nat.le_of_ble_eq_true rfl⟩) ⟨pr_blind, pr_at hN hPc hK hDc⟩ rfl rfl hl.1 rfl (lv_room (Nat.le_of_ble_eq_true rfl)) dX5_rows_72 ⟨Nat.le_of_ble_eq_true rfl, Nat.le_of_ble_eq_true rfl⟩) hP hD hS hA [] rfl (fun H locs hP hD hS => ?_)
              clear hPc hDc
              refine lv_goto (tgt := 79) hx hb dX5_rows_75 (by decide) ?_
              refine lv_istore_n (lv' := [(1, .int (mnF (nI i) 9)), (4, .int (nI 9)), (3, .int z), (2, .int (nI i)), (0, .ref (h 0))]) hx hb dX5_rows_79 rfl hl (by decide) rfl (fun ls hl => ?_)
              refine lv_iinc (v := (nI (i + 1))) (lv' := [(2, .int (nI (i + 1))), (1, .int (mnF (nI i) 9)), (4, .int (nI 9)), (3, .int z), (0, .ref (h 0))]) hx hb dX5_rows_80 hl (k := 3) rfl (nI_1 i) (by decide) rfl (fun ls hl => ?_)
              refine lv_goto (tgt := 4) hx hb dX5_rows_83 (by decide) ?_
              exact ih_i (i + 1) (mnF (nI i) 9) (by omega) (by omega) (by rw [rwT_s _ (show 1 ≤ i from by omega), ← e_w, if_pos (bI_1 e_z c_3), if_neg c_4]) (by omega) _ _ _ hP hD hS (lv_sub hl [0, 1, 4] rfl)
        · have c_2 : ¬ (9 ≤ j) := fun h9 => c_2 ((nI_leI (a := 9) (b := j) (by omega) (by omega)).mpr h9)
          refine lv_iload_n hx hb dX5_rows_23 rfl (lv_at hl 1 rfl) ?_
          refine lv_if_eq (tgt := 59) hx hb dX5_rows_24 (by decide) (fun c_5 => ?_) (fun c_5 => ?_)
          · have hz := bI_0 e_z c_5
            refine lv_iload_n hx hb dX5_rows_59 rfl (lv_at hl 1 rfl) ?_
            refine lv_if_eq (tgt := 78) hx hb dX5_rows_60 (by decide) (fun c_6 => ?_) (fun c_6 => ?_)
            · refine lv_iload_n hx hb dX5_rows_78 rfl (lv_at hl 3 rfl) ?_
              refine lv_istore_n (lv' := [(1, .int w), (4, .int (nI j)), (3, .int z), (2, .int (nI i)), (0, .ref (h 0))]) hx hb dX5_rows_79 rfl hl (by decide) rfl (fun ls hl => ?_)
              refine lv_iinc (v := (nI (i + 1))) (lv' := [(2, .int (nI (i + 1))), (1, .int w), (4, .int (nI j)), (3, .int z), (0, .ref (h 0))]) hx hb dX5_rows_80 hl (k := 3) rfl (nI_1 i) (by decide) rfl (fun ls hl => ?_)
              refine lv_goto (tgt := 4) hx hb dX5_rows_83 (by decide) ?_
              exact ih_i (i + 1) w (by omega) (by omega) (by rw [rwT_s _ (show 1 ≤ i from by omega), ← e_w, if_neg (by rw [show rwS f (nI i) 9 = false from by have h9 := rwS_stop f (nI i) hz (9 - j); rwa [show j + (9 - j) = 9 from by omega] at h9]; decide)]) (by omega) _ _ _ hP hD hS (lv_sub hl [0, 1, 4] rfl)
            · exact absurd c_5 c_6
          · have hz := bI_1 e_z c_5
            refine lv_iload_n hx hb dX5_rows_27 rfl (lv_at hl 2 rfl) ?_
            refine lv_iload hx hb dX5_rows_28 (lv_at hl 0 rfl) ?_
            refine lv_ishr hx hb dX5_rows_30 ?_
            refine lv_iconst (v := 1) hx hb dX5_rows_31 (by decide) ?_
            refine lv_iand hx hb dX5_rows_32 ?_
            refine lv_if_eq (tgt := 47) hx hb dX5_rows_33 (by decide) (fun c_7 => ?_) (fun c_7 => ?_)
            · refine lv_iconst (v := 1) hx hb dX5_rows_47 (by decide) ?_
              refine lv_goto (tgt := 52) hx hb dX5_rows_48 (by decide) ?_
              refine lv_istore_n (lv' := [(3, .int 1), (4, .int (nI j)), (2, .int (nI i)), (1, .int w), (0, .ref (h 0))]) hx hb dX5_rows_52 rfl hl (by decide) rfl (fun ls hl => ?_)
              refine lv_iinc (v := (nI (j + 1))) (lv' := [(4, .int (nI (j + 1))), (3, .int 1), (2, .int (nI i)), (1, .int w), (0, .ref (h 0))]) hx hb dX5_rows_53 hl (k := 1) rfl (nI_1 j) (by decide) rfl (fun ls hl => ?_)
              refine lv_goto (tgt := 16) hx hb dX5_rows_56 (by decide) ?_
              exact ih_j (j + 1) 1 (by omega) (by omega) (by rw [rwS, hz]; simp [bI, show bitv (nI i) (nI j) = 0 from c_7])  _ _ _ hP hD hS (lv_sub hl [0, 1, 2, 3, 4] rfl)
            · refine lv_aload_n hx hb dX5_rows_36 rfl (lv_at hl 4 rfl) ?_
              refine lv_iload hx hb dX5_rows_37 (lv_at hl 0 rfl) ?_
              have hPc : va_P D vwCl (wMo k h th f asd sl kp sv sm tx ln dg) H := hP.sub [0, 1, 2, 3, 4, 5, 6] rfl
              have hDc : va_D A (wMo k h th f asd sl kp sv sm tx ln dg) := hD.sub [0, 1, 2, 3, 4, 5, 6] (by decide +kernel) rfl
              refine cl_i0 (va_runV (As := [.int (nI j)]) (rest := []) ⟨hx, hb, hml, hown, hts⟩ (c_X5_behind l D k h th f asd sl kp sv sm tx ln dg j (by omega) H.size) (cwV 1 hts gX5_rows_X5_behind rfl rfl rfl (by decide +kernel) ⟨Nat.le_of_ble_eq_true rfl, Nat.le_of_ble_eq_true rfl⟩) ⟨pr_blind, va_recv hK hP (ci := 5) (q0 := 0) rfl rfl, pr_at hN hPc hK hDc⟩ rfl rfl hl.1 rfl (lv_room (Nat.le_of_ble_eq_true rfl)) dX5_rows_39 ⟨Nat.le_of_ble_eq_true rfl, Nat.le_of_ble_eq_true rfl⟩) hP hD hS hA [0, 1, 2, 3, 4, 5, 6] rfl (fun H locs hP hD hS => ?_)
              clear hPc hDc
              refine lv_iload_n hx hb dX5_rows_42 rfl (lv_at hl 2 rfl) ?_
              refine lv_iand hx hb dX5_rows_43 ?_
              refine lv_if_ne (tgt := 51) hx hb dX5_rows_44 (by decide) (fun c_8 => ?_) (fun c_8 => ?_)
              · refine lv_iconst (v := 0) hx hb dX5_rows_51 (by decide) ?_
                refine lv_istore_n (lv' := [(3, .int 0), (4, .int (nI j)), (2, .int (nI i)), (1, .int w), (0, .ref (h 0))]) hx hb dX5_rows_52 rfl hl (by decide) rfl (fun ls hl => ?_)
                refine lv_iinc (v := (nI (j + 1))) (lv' := [(4, .int (nI (j + 1))), (3, .int 0), (2, .int (nI i)), (1, .int w), (0, .ref (h 0))]) hx hb dX5_rows_53 hl (k := 1) rfl (nI_1 j) (by decide) rfl (fun ls hl => ?_)
                refine lv_goto (tgt := 16) hx hb dX5_rows_56 (by decide) ?_
                exact ih_j (j + 1) 0 (by omega) (by omega) (by rw [rwS, hz, decide_eq_false (fun h9 => h9.elim (show ¬ bitv (nI i) (nI j) = 0 from c_7) c_8)]; rfl)  _ _ _ hP hD hS (lv_sub hl [0, 1, 2, 3, 4] rfl)
              · refine lv_iconst (v := 1) hx hb dX5_rows_47 (by decide) ?_
                refine lv_goto (tgt := 52) hx hb dX5_rows_48 (by decide) ?_
                refine lv_istore_n (lv' := [(3, .int 1), (4, .int (nI j)), (2, .int (nI i)), (1, .int w), (0, .ref (h 0))]) hx hb dX5_rows_52 rfl hl (by decide) rfl (fun ls hl => ?_)
                refine lv_iinc (v := (nI (j + 1))) (lv' := [(4, .int (nI (j + 1))), (3, .int 1), (2, .int (nI i)), (1, .int w), (0, .ref (h 0))]) hx hb dX5_rows_53 hl (k := 1) rfl (nI_1 j) (by decide) rfl (fun ls hl => ?_)
                refine lv_goto (tgt := 16) hx hb dX5_rows_56 (by decide) ?_
                exact ih_j (j + 1) 1 (by omega) (by omega) (by rw [rwS, hz, decide_eq_true (Or.inr c_8)]; rfl)  _ _ _ hP hD hS (lv_sub hl [0, 1, 2, 3, 4] rfl)
