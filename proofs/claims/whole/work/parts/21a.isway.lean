/-- is a set a way: so far, and the piece before -/
def iwS (f : Nat → Int32) (x : Int32) : Nat → Bool × Int32
  | 0 => (true, -1)
  | i + 1 => if (iwS f x i).1 = true then (if bitv x (nI i) = 1 then (if (iwS f x i).2 = -1 then decide (f (18 + i) &&& 1 = 1) else decide (bitv (f (27 + (iwS f x i).2).toNatClampNeg) (nI i) = 1), nI i) else iwS f x i) else iwS f x i
theorem iwS_stop (f : Nat → Int32) (x : Int32) {i : Nat} (h : (iwS f x i).1 = false) : ∀ n, (iwS f x (i + n)).1 = false
  | 0 => h
  | n + 1 => by
    have h2 := iwS_stop f x h n
    show (iwS f x (i + n + 1)).1 = false
    rw [iwS, if_neg (by rw [h2]; decide)]
    exact h2
def iwB (f : Nat → Int32) (x : Int32) : Bool := (iwS f x 9).1 && decide (¬ f (18 + (iwS f x 9).2).toNatClampNeg ≤ 1)
/-- is a set an open way, by the first pieces -/
def ioS (f : Nat → Int32) (x : Int32) : Nat → Bool
  | 0 => iwB f x
  | i + 1 => ioS f x i && decide (bitv x (nI i) = 0 ∨ f (36 + i) &&& x = 0)
theorem ioS_stop (f : Nat → Int32) (x : Int32) {i : Nat} (h : ioS f x i = false) : ∀ n, ioS f x (i + n) = false
  | 0 => h
  | n + 1 => by
    show (ioS f x (i + n) && _) = false
    rw [ioS_stop f x h n]; rfl
def ioB (f : Nat → Int32) (x : Int32) : Bool := ioS f x 9
def BfOK (y : Int32) : Prop := y = -1 ∨ ∃ j, j < 9 ∧ y = nI j
theorem ix_in {y : Int32} (hb : BfOK y) (b : Nat) (h1 : 1 ≤ b) (h2 : b ≤ 60) : vp_in (nI b + y) 72 := by
  rcases hb with rfl | ⟨j, hj, rfl⟩
  · obtain ⟨c, rfl⟩ : ∃ c, b = c + 1 := ⟨b - 1, by omega⟩
    rw [pk_m1]
    exact vp_in_nI (by omega) (by omega)
  · rw [nI_add]
    exact vp_in_nI (by omega) (by omega)
theorem bI_0 {z : Int32} {b : Bool} (e : z = bI b) (h : z = 0) : b = false := bI_eq.mp (e ▸ h)
theorem bI_1 {z : Int32} {b : Bool} (e : z = bI b) (h : ¬ z = 0) : b = true := bI_ne.mp (e ▸ h)

set_option maxHeartbeats 1000000 in
set_option maxRecDepth 100000 in
theorem c_X5_isWay (l : Launch) (D : va_G) (k : Nat → ClassId) (h : Nat → Nat) (th : Int32) (f asd sl kp sv : Nat → Int32) (sm : Int32) (tx : Nat → Int32) (ln : Int32) (dg : Int64) (x : Int32)  : MI l yX5_isWay wsX5_isWay ({ frames := 0, cells := 0, slots := 0, locals := 0 }) D k [.ref (h 0), .int x] (wMo k h th f asd sl kp sv sm tx ln dg) (bI (iwB f x)) (wMo k h th f asd sl kp sv sm tx ln dg) := by
  intro sz
  refine Met.ofW (cc := cX5_isWay) (maxL := 5) (ret := (some .boolean)) (by decide) rfl ?_
  intro p e s m args below meth c s₁ B hml hv
  obtain ⟨rfl, hN, hsz, hP, hK, hD0⟩ := hv
  have hx := B.exec
  have hb := B.bytes
  have hr := B.returns
  have hts := atoms_spec (ws := wsX5_isWay) B.pre
  have hown : s.vm.findClass RX5 = some m.cls := findClass_of_methodNamed B.named
  have hlocks := B.notSynchronized
  subst hsz
  have hD := hD0.self (sz := s.heap.size)
  generalize hAe : va_A (wMo k h th f asd sl kp sv sm tx ln dg) s.heap.size = A at hD ⊢
  have hA : ∀ q : Nat, s.heap.size ≤ q → A q := fun q h => by rw [← hAe]; exact Or.inr h
  have hS : va_S A s.heap s.heap [] := va_S.rf
  have hl := lv_entry ([.ref (h 0), .int x]) (n := 5) (Nat.le_of_ble_eq_true rfl)
  rw [lg_entry_eq]
  generalize (lg_sl ([.ref (h 0), .int x]) ++ List.replicate (5 - (lg_sl ([.ref (h 0), .int x])).length) Slot.unset).toArray = ls at hl ⊢
  have hl : lv_has ls 5 [(0, .ref (h 0)), (1, .int x)] := hl
  obtain ⟨H, hHe⟩ : ∃ H, H = s.heap := ⟨_, rfl⟩
  have hP : va_P D vwCl (wMo k h th f asd sl kp sv sm tx ln dg) H := by rw [hHe]; exact hP
  have hS : va_S A s.heap H [] := by rw [hHe]; exact hS
  rw [← hHe]
  refine absQ (fun Q hQ => ?_)
  refine lv_iconst (v := (-1)) hx hb dX5_isWay_0 (by decide) ?_
  refine lv_istore_n (lv' := [(2, .int (-1)), (0, .ref (h 0)), (1, .int x)]) hx hb dX5_isWay_1 rfl hl (by decide) rfl (fun ls hl => ?_)
  refine lv_iconst (v := 1) hx hb dX5_isWay_2 (by decide) ?_
  refine lv_istore_n (lv' := [(3, .int 1), (2, .int (-1)), (0, .ref (h 0)), (1, .int x)]) hx hb dX5_isWay_3 rfl hl (by decide) rfl (fun ls hl => ?_)
  refine lv_iconst (v := 0) hx hb dX5_isWay_4 (by decide) ?_
  refine lv_istore (lv' := [(4, .int 0), (3, .int 1), (2, .int (-1)), (0, .ref (h 0)), (1, .int x)]) hx hb dX5_isWay_5 hl (by decide) rfl (fun ls hl => ?_)
  suffices LOOP_i : ∀ (fu_i i : Nat) (y : Int32) (z : Int32), 9 - i < fu_i → i ≤ 9 → y = (iwS f x i).2 → z = bI (iwS f x i).1 → (BfOK y) → ∀ (H : Heap) (locs : List Loc) (ls : Array Slot), va_P D vwCl (wMo k h th f asd sl kp sv sm tx ln dg) H → va_D A (wMo k h th f asd sl kp sv sm tx ln dg) → va_S A s.heap H locs → lv_has ls 5 [(4, .int (nI i)), (3, .int z), (2, .int y), (0, .ref (h 0)), (1, .int x)] → W p l e ({ frames := 0, cells := 0, slots := 0, locals := 0 } : Room) s m ([.ref (h 0), .int x] : List Value).toArray below meth c H locs 0 0 Q (F0 m 7 ls []) from LOOP_i (9 + 1) 0 (-1) 1 (by omega) (by omega) (rfl) (rfl) (Or.inl rfl) _ _ _ hP hD hS (lv_sub hl [0, 1, 2, 3, 4] rfl)
  clear hP hD hS hl hHe
  intro fu_i
  induction fu_i with
  | zero => intro i y z hn_i; omega
  | succ fu_i ih_i =>
    intro i y z hn_i hle_i e_y e_z hbf H locs ls hP hD hS hl
    refine lv_iload hx hb dX5_isWay_7 (lv_at hl 0 rfl) ?_
    refine lv_bipush (v := 9) hx hb dX5_isWay_9 (by decide) ?_
    refine lv_icmp_ge (tgt := 90) hx hb dX5_isWay_11 (by decide) (fun c_1 => ?_) (fun c_1 => ?_)
    · have c_1 : 9 ≤ i := (nI_leI (a := 9) (b := i) (by omega) (by omega)).mp c_1
      have hz_i : 9 = i := by omega
      subst hz_i
      refine lv_iload_n hx hb dX5_isWay_90 rfl (lv_at hl 1 rfl) ?_
      refine lv_if_eq (tgt := 111) hx hb dX5_isWay_91 (by decide) (fun c_2 => ?_) (fun c_2 => ?_)
      · refine lv_iconst (v := 0) hx hb dX5_isWay_111 (by decide) ?_
        subst hQ
        exact rt_z hx hb hr hlocks hS dX5_isWay_112 (hP) (rfl) (by rw [iwB, bI_0 e_z c_2]; rfl)
      · refine lv_aload_n hx hb dX5_isWay_94 rfl (lv_at hl 3 rfl) ?_
        refine va_get (D := D) (ci := 5) (v := .ref (h 1)) (C := RX5) (T := TX5) (N := 10) hx hb hts (fun _ h9 => (List.mem_cons_of_mem _ (List.mem_append_right _ h9))) hown hK hP 0 rfl rfl 1 (by decide) (hts _ (List.mem_of_getElem? (i := 1) rfl)) (fun _ h9 => h9) rfl dX5_isWay_95 ?_
        refine lv_bipush (v := 18) hx hb dX5_isWay_98 (by decide) ?_
        refine lv_iload_n hx hb dX5_isWay_100 rfl (lv_at hl 2 rfl) ?_
        refine lv_iadd hx hb dX5_isWay_101 ?_
        refine ar_ld hx hb hK hP 1 rfl (18 + y).toNatClampNeg rfl (ix_in hbf 18 (by decide) (by decide)) dX5_isWay_102 ?_
        refine lv_iconst (v := 1) hx hb dX5_isWay_103 (by decide) ?_
        refine lv_icmp_le (tgt := 111) hx hb dX5_isWay_104 (by decide) (fun c_3 => ?_) (fun c_3 => ?_)
        · refine lv_iconst (v := 0) hx hb dX5_isWay_111 (by decide) ?_
          subst hQ
          exact rt_z hx hb hr hlocks hS dX5_isWay_112 (hP) (rfl) (by rw [iwB, bI_1 e_z c_2, ← e_y]; simp [bI, -Int32.not_le, c_3])
        · refine lv_iconst (v := 1) hx hb dX5_isWay_107 (by decide) ?_
          refine lv_goto (tgt := 112) hx hb dX5_isWay_108 (by decide) ?_
          subst hQ
          exact rt_z hx hb hr hlocks hS dX5_isWay_112 (hP) (rfl) (by rw [iwB, bI_1 e_z c_2, ← e_y]; simp [bI, -Int32.not_le, c_3])
    · have c_1 : ¬ (9 ≤ i) := fun h9 => c_1 ((nI_leI (a := 9) (b := i) (by omega) (by omega)).mpr h9)
      refine lv_iload_n hx hb dX5_isWay_14 rfl (lv_at hl 1 rfl) ?_
      refine lv_if_eq (tgt := 90) hx hb dX5_isWay_15 (by decide) (fun c_4 => ?_) (fun c_4 => ?_)
      · have hz := bI_0 e_z c_4
        refine lv_iload_n hx hb dX5_isWay_90 rfl (lv_at hl 1 rfl) ?_
        refine lv_if_eq (tgt := 111) hx hb dX5_isWay_91 (by decide) (fun c_5 => ?_) (fun c_5 => ?_)
        · refine lv_iconst (v := 0) hx hb dX5_isWay_111 (by decide) ?_
          subst hQ
          exact rt_z hx hb hr hlocks hS dX5_isWay_112 (hP) (rfl) (by rw [iwB, show (iwS f x 9).1 = false from by have h9 := iwS_stop f x hz (9 - i); rwa [show i + (9 - i) = 9 from by omega] at h9]; rfl)
        · exact absurd c_4 c_5
      · have hz := bI_1 e_z c_4
        refine lv_iload_n hx hb dX5_isWay_18 rfl (lv_at hl 4 rfl) ?_
        refine lv_iload hx hb dX5_isWay_19 (lv_at hl 0 rfl) ?_
        refine lv_ishr hx hb dX5_isWay_21 ?_
        refine lv_iconst (v := 1) hx hb dX5_isWay_22 (by decide) ?_
        refine lv_iand hx hb dX5_isWay_23 ?_
        refine lv_iconst (v := 1) hx hb dX5_isWay_24 (by decide) ?_
        refine lv_icmp_ne (tgt := 84) hx hb dX5_isWay_25 (by decide) (fun c_6 => ?_) (fun c_6 => ?_)
        · refine lv_iinc (v := (nI (i + 1))) (lv' := [(4, .int (nI (i + 1))), (3, .int z), (2, .int y), (0, .ref (h 0)), (1, .int x)]) hx hb dX5_isWay_84 hl (k := 0) rfl (nI_1 i) (by decide) rfl (fun ls hl => ?_)
          refine lv_goto (tgt := 7) hx hb dX5_isWay_87 (by decide) ?_
          exact ih_i (i + 1) y z (by omega) (by omega) (by rw [iwS, if_pos hz, if_neg (show ¬ bitv x (nI i) = 1 from c_6)]; exact e_y) (by rw [iwS, if_pos hz, if_neg (show ¬ bitv x (nI i) = 1 from c_6)]; exact e_z) (hbf) _ _ _ hP hD hS (lv_sub hl [0, 1, 2, 3, 4] rfl)
        · refine lv_iload_n hx hb dX5_isWay_28 rfl (lv_at hl 2 rfl) ?_
          refine lv_iconst (v := (-1)) hx hb dX5_isWay_29 (by decide) ?_
          refine lv_icmp_ne (tgt := 57) hx hb dX5_isWay_30 (by decide) (fun c_7 => ?_) (fun c_7 => ?_)
          · refine lv_aload_n hx hb dX5_isWay_57 rfl (lv_at hl 3 rfl) ?_
            refine va_get (D := D) (ci := 5) (v := .ref (h 1)) (C := RX5) (T := TX5) (N := 10) hx hb hts (fun _ h9 => (List.mem_cons_of_mem _ (List.mem_append_right _ h9))) hown hK hP 0 rfl rfl 1 (by decide) (hts _ (List.mem_of_getElem? (i := 1) rfl)) (fun _ h9 => h9) rfl dX5_isWay_58 ?_
            refine lv_bipush (v := 27) hx hb dX5_isWay_61 (by decide) ?_
            refine lv_iload_n hx hb dX5_isWay_63 rfl (lv_at hl 2 rfl) ?_
            refine lv_iadd hx hb dX5_isWay_64 ?_
            refine ar_ld hx hb hK hP 1 rfl (27 + y).toNatClampNeg rfl (ix_in hbf 27 (by decide) (by decide)) dX5_isWay_65 ?_
            refine lv_iload hx hb dX5_isWay_66 (lv_at hl 0 rfl) ?_
            refine lv_ishr hx hb dX5_isWay_68 ?_
            refine lv_iconst (v := 1) hx hb dX5_isWay_69 (by decide) ?_
            refine lv_iand hx hb dX5_isWay_70 ?_
            refine lv_iconst (v := 1) hx hb dX5_isWay_71 (by decide) ?_
            refine lv_icmp_ne (tgt := 79) hx hb dX5_isWay_72 (by decide) (fun c_8 => ?_) (fun c_8 => ?_)
            · refine lv_iconst (v := 0) hx hb dX5_isWay_79 (by decide) ?_
              refine lv_istore_n (lv' := [(3, .int 0), (4, .int (nI i)), (2, .int y), (0, .ref (h 0)), (1, .int x)]) hx hb dX5_isWay_80 rfl hl (by decide) rfl (fun ls hl => ?_)
              refine lv_iload hx hb dX5_isWay_81 (lv_at hl 1 rfl) ?_
              refine lv_istore_n (lv' := [(2, .int (nI i)), (3, .int 0), (4, .int (nI i)), (0, .ref (h 0)), (1, .int x)]) hx hb dX5_isWay_83 rfl hl (by decide) rfl (fun ls hl => ?_)
              refine lv_iinc (v := (nI (i + 1))) (lv' := [(4, .int (nI (i + 1))), (2, .int (nI i)), (3, .int 0), (0, .ref (h 0)), (1, .int x)]) hx hb dX5_isWay_84 hl (k := 2) rfl (nI_1 i) (by decide) rfl (fun ls hl => ?_)
              refine lv_goto (tgt := 7) hx hb dX5_isWay_87 (by decide) ?_
              exact ih_i (i + 1) (nI i) 0 (by omega) (by omega) (by rw [iwS, if_pos hz, if_pos (show bitv x (nI i) = 1 from c_6), ← e_y, if_neg c_7]) (by rw [iwS, if_pos hz, if_pos (show bitv x (nI i) = 1 from c_6), ← e_y, if_neg c_7]; simp [bI, show ¬ bitv (f (27 + y).toNatClampNeg) (nI i) = 1 from c_8]) (Or.inr ⟨i, by omega, rfl⟩) _ _ _ hP hD hS (lv_sub hl [0, 2, 1, 3, 4] rfl)
            · refine lv_iconst (v := 1) hx hb dX5_isWay_75 (by decide) ?_
              refine lv_goto (tgt := 80) hx hb dX5_isWay_76 (by decide) ?_
              refine lv_istore_n (lv' := [(3, .int 1), (4, .int (nI i)), (2, .int y), (0, .ref (h 0)), (1, .int x)]) hx hb dX5_isWay_80 rfl hl (by decide) rfl (fun ls hl => ?_)
              refine lv_iload hx hb dX5_isWay_81 (lv_at hl 1 rfl) ?_
              refine lv_istore_n (lv' := [(2, .int (nI i)), (3, .int 1), (4, .int (nI i)), (0, .ref (h 0)), (1, .int x)]) hx hb dX5_isWay_83 rfl hl (by decide) rfl (fun ls hl => ?_)
              refine lv_iinc (v := (nI (i + 1))) (lv' := [(4, .int (nI (i + 1))), (2, .int (nI i)), (3, .int 1), (0, .ref (h 0)), (1, .int x)]) hx hb dX5_isWay_84 hl (k := 2) rfl (nI_1 i) (by decide) rfl (fun ls hl => ?_)
              refine lv_goto (tgt := 7) hx hb dX5_isWay_87 (by decide) ?_
              exact ih_i (i + 1) (nI i) 1 (by omega) (by omega) (by rw [iwS, if_pos hz, if_pos (show bitv x (nI i) = 1 from c_6), ← e_y, if_neg c_7]) (by rw [iwS, if_pos hz, if_pos (show bitv x (nI i) = 1 from c_6), ← e_y, if_neg c_7]; simp [bI, show bitv (f (27 + y).toNatClampNeg) (nI i) = 1 from c_8]) (Or.inr ⟨i, by omega, rfl⟩) _ _ _ hP hD hS (lv_sub hl [0, 2, 1, 3, 4] rfl)
          · refine lv_aload_n hx hb dX5_isWay_33 rfl (lv_at hl 3 rfl) ?_
            refine va_get (D := D) (ci := 5) (v := .ref (h 1)) (C := RX5) (T := TX5) (N := 10) hx hb hts (fun _ h9 => (List.mem_cons_of_mem _ (List.mem_append_right _ h9))) hown hK hP 0 rfl rfl 1 (by decide) (hts _ (List.mem_of_getElem? (i := 1) rfl)) (fun _ h9 => h9) rfl dX5_isWay_34 ?_
            refine lv_bipush (v := 18) hx hb dX5_isWay_37 (by decide) ?_
            refine lv_iload hx hb dX5_isWay_39 (lv_at hl 0 rfl) ?_
            refine lv_iadd hx hb dX5_isWay_41 ?_
            refine tp_e (y := (nI (18 + i))) (nI_add 18 i) ?_
            refine ar_ld hx hb hK hP 1 rfl (18 + i) (nI_clamp (by omega)) (vp_in_nI (by omega) (by omega)) dX5_isWay_42 ?_
            refine lv_iconst (v := 1) hx hb dX5_isWay_43 (by decide) ?_
            refine lv_iand hx hb dX5_isWay_44 ?_
            refine lv_iconst (v := 1) hx hb dX5_isWay_45 (by decide) ?_
            refine lv_icmp_ne (tgt := 53) hx hb dX5_isWay_46 (by decide) (fun c_9 => ?_) (fun c_9 => ?_)
            · refine lv_iconst (v := 0) hx hb dX5_isWay_53 (by decide) ?_
              refine lv_goto (tgt := 80) hx hb dX5_isWay_54 (by decide) ?_
              refine lv_istore_n (lv' := [(3, .int 0), (4, .int (nI i)), (2, .int y), (0, .ref (h 0)), (1, .int x)]) hx hb dX5_isWay_80 rfl hl (by decide) rfl (fun ls hl => ?_)
              refine lv_iload hx hb dX5_isWay_81 (lv_at hl 1 rfl) ?_
              refine lv_istore_n (lv' := [(2, .int (nI i)), (3, .int 0), (4, .int (nI i)), (0, .ref (h 0)), (1, .int x)]) hx hb dX5_isWay_83 rfl hl (by decide) rfl (fun ls hl => ?_)
              refine lv_iinc (v := (nI (i + 1))) (lv' := [(4, .int (nI (i + 1))), (2, .int (nI i)), (3, .int 0), (0, .ref (h 0)), (1, .int x)]) hx hb dX5_isWay_84 hl (k := 2) rfl (nI_1 i) (by decide) rfl (fun ls hl => ?_)
              refine lv_goto (tgt := 7) hx hb dX5_isWay_87 (by decide) ?_
              exact ih_i (i + 1) (nI i) 0 (by omega) (by omega) (by rw [iwS, if_pos hz, if_pos (show bitv x (nI i) = 1 from c_6), ← e_y, if_pos c_7]) (by rw [iwS, if_pos hz, if_pos (show bitv x (nI i) = 1 from c_6), ← e_y, if_pos c_7]; simp [bI, c_9]) (Or.inr ⟨i, by omega, rfl⟩) _ _ _ hP hD hS (lv_sub hl [0, 2, 1, 3, 4] rfl)
            · refine lv_iconst (v := 1) hx hb dX5_isWay_49 (by decide) ?_
              refine lv_goto (tgt := 80) hx hb dX5_isWay_50 (by decide) ?_
              refine lv_istore_n (lv' := [(3, .int 1), (4, .int (nI i)), (2, .int y), (0, .ref (h 0)), (1, .int x)]) hx hb dX5_isWay_80 rfl hl (by decide) rfl (fun ls hl => ?_)
              refine lv_iload hx hb dX5_isWay_81 (lv_at hl 1 rfl) ?_
              refine lv_istore_n (lv' := [(2, .int (nI i)), (3, .int 1), (4, .int (nI i)), (0, .ref (h 0)), (1, .int x)]) hx hb dX5_isWay_83 rfl hl (by decide) rfl (fun ls hl => ?_)
              refine lv_iinc (v := (nI (i + 1))) (lv' := [(4, .int (nI (i + 1))), (2, .int (nI i)), (3, .int 1), (0, .ref (h 0)), (1, .int x)]) hx hb dX5_isWay_84 hl (k := 2) rfl (nI_1 i) (by decide) rfl (fun ls hl => ?_)
              refine lv_goto (tgt := 7) hx hb dX5_isWay_87 (by decide) ?_
              exact ih_i (i + 1) (nI i) 1 (by omega) (by omega) (by rw [iwS, if_pos hz, if_pos (show bitv x (nI i) = 1 from c_6), ← e_y, if_pos c_7]) (by rw [iwS, if_pos hz, if_pos (show bitv x (nI i) = 1 from c_6), ← e_y, if_pos c_7]; simp [bI, c_9]) (Or.inr ⟨i, by omega, rfl⟩) _ _ _ hP hD hS (lv_sub hl [0, 2, 1, 3, 4] rfl)
