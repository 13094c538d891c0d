set_option maxHeartbeats 1000000 in
set_option maxRecDepth 100000 in
theorem c_X4_bitsOf (l : Launch) (D : va_G) (k : Nat → ClassId) (x : UInt64) (n : Nat) (hok : ¬ Op.cmpValue (FP.dcmp x FP.dconst0) .g ≤ 0 → bitsOK x n) : ML l yX4_bitsOf wsX4_bitsOf ({ frames := 0, cells := 0, slots := 0, locals := 0 }) D k [.double x] ([]) (btX x n) ([]) := by
  intro sz
  refine Met.ofW (cc := cX4_bitsOf) (maxL := 8) (ret := (some .long)) (by decide) rfl ?_
  intro p e s m args below meth c s₁ B hml hv
  obtain ⟨rfl, hN, hsz, hP, hK, hD0⟩ := hv
  have hx := B.exec
  have hb := B.bytes
  have hr := B.returns
  have hts := atoms_spec (ws := wsX4_bitsOf) B.pre
  have hown : s.vm.findClass RX4 = some m.cls := findClass_of_methodNamed B.named
  have hlocks := B.notSynchronized
  subst hsz
  have hD := hD0.self (sz := s.heap.size)
  generalize hAe : va_A ([]) s.heap.size = A at hD ⊢
  have hA : ∀ q : Nat, s.heap.size ≤ q → A q := fun q h => by rw [← hAe]; exact Or.inr h
  have hS : va_S A s.heap s.heap [] := va_S.rf
  have hl := lv_entry ([.double x]) (n := 8) (Nat.le_of_ble_eq_true rfl)
  rw [lg_entry_eq]
  generalize (lg_sl ([.double x]) ++ List.replicate (8 - (lg_sl ([.double x])).length) Slot.unset).toArray = ls at hl ⊢
  have hl : lv_has ls 8 [(0, .double x)] := hl
  obtain ⟨H, hHe⟩ : ∃ H, H = s.heap := ⟨_, rfl⟩
  have hP : va_P D vwCl ([]) H := by rw [hHe]; exact hP
  have hS : va_S A s.heap H [] := by rw [hHe]; exact hS
  rw [← hHe]
  refine absQ (fun Q hQ => ?_)
  refine lv_dload_n hx hb dX4_bitsOf_0 rfl (lv_at hl 0 rfl) ?_
  refine lv_dconst0 hx hb dX4_bitsOf_1 ?_
  refine lv_dcmp hx hb dX4_bitsOf_2 ?_
  refine lv_if_gt (tgt := 8) hx hb dX4_bitsOf_3 (by decide) (fun c_1 => ?_) (fun c_1 => ?_)
  · refine lv_dload_n hx hb dX4_bitsOf_8 rfl (lv_at hl 0 rfl) ?_
    refine lv_dstore_n (lv' := [(2, .double x), (0, .double x)]) hx hb dX4_bitsOf_9 rfl hl (by decide) rfl (fun ls hl => ?_)
    refine lv_ldc2 hx hb hown (hts (.constantLong RX4 282 1023) (List.mem_of_getElem? (i := 1) rfl)) dX4_bitsOf_10 ?_
    refine lv_lstore (lv' := [(4, .long 1023), (2, .double x), (0, .double x)]) hx hb dX4_bitsOf_13 hl (by decide) rfl (fun ls hl => ?_)
    refine lv_iconst (v := 0) hx hb dX4_bitsOf_15 (by decide) ?_
    refine lv_istore (lv' := [(6, .int 0), (4, .long 1023), (2, .double x), (0, .double x)]) hx hb dX4_bitsOf_16 hl (by decide) rfl (fun ls hl => ?_)
    suffices LOOP_i : ∀ (fu_i i : Nat) (s1 : UInt64) (y1 : Int64), 1022 - i < fu_i → i ≤ 1022 → s1 = dbF x i → y1 = ebF i → (i ≤ n) → ∀ (H : Heap) (locs : List Loc) (ls : Array Slot), va_P D vwCl ([]) H → va_D A ([]) → va_S A s.heap H locs → lv_has ls 8 [(6, .int (nI i)), (4, .long y1), (2, .double s1), (0, .double x)] → W p l e ({ frames := 0, cells := 0, slots := 0, locals := 0 } : Room) s m ([.double x] : List Value).toArray below meth c H locs 0 0 Q (F0 m 18 ls []) from LOOP_i (1022 + 1) 0 x 1023 (by omega) (by omega) (rfl) (rfl) (Nat.zero_le _) _ _ _ hP hD hS (lv_sub hl [0, 1, 2, 3] rfl)
    clear hP hD hS hl hHe
    intro fu_i
    induction fu_i with
    | zero => intro i s1 y1 hn_i; omega
    | succ fu_i ih_i =>
      intro i s1 y1 hn_i hle_i e_s1 e_y1 hle H locs ls hP hD hS hl
      refine lv_iload hx hb dX4_bitsOf_18 (lv_at hl 0 rfl) ?_
      refine lv_sipush (v := 1022) hx hb dX4_bitsOf_20 (by decide) ?_
      refine lv_icmp_ge (tgt := 50) hx hb dX4_bitsOf_23 (by decide) (fun c_2 => ?_) (fun c_2 => ?_)
      · have c_2 : 1022 ≤ i := (nI_leI (a := 1022) (b := i) (by omega) (by omega)).mp c_2
        have hz_i : 1022 = i := by omega
        subst hz_i
        exact absurd c_2 (by have := (hok (by first | exact c_1 | exact Int32.not_le.mpr c_1)).2.2.2.2; omega)
      · have c_2 : ¬ (1022 ≤ i) := fun h9 => c_2 ((nI_leI (a := 1022) (b := i) (by omega) (by omega)).mpr h9)
        refine lv_dload_n hx hb dX4_bitsOf_26 rfl (lv_at hl 2 rfl) ?_
        refine lv_dconst1 hx hb dX4_bitsOf_27 ?_
        refine lv_dcmp hx hb dX4_bitsOf_28 ?_
        refine lv_if_ge (tgt := 50) hx hb dX4_bitsOf_29 (by decide) (fun c_3 => ?_) (fun c_3 => ?_)
        · have hin : i = n := by have h9 : ¬ i < n := fun h8 => absurd ((hok (by first | exact c_1 | exact Int32.not_le.mpr c_1)).1 i h8).1 (by rw [← e_s1]; first | exact c_3 | exact Int32.not_lt.mpr c_3); omega
          subst hin
          refine lv_dload_n hx hb dX4_bitsOf_50 rfl (lv_at hl 2 rfl) ?_
          refine lv_dconst1 hx hb dX4_bitsOf_51 ?_
          refine lv_dsub hx hb dX4_bitsOf_52 (by rw [e_s1]; exact (hok (by first | exact c_1 | exact Int32.not_le.mpr c_1)).2.2.1) ?_
          refine lv_ldc2d hx hb hown (hts (.constantDouble RX4 286 4841369599423283200) (List.mem_of_getElem? (i := 3) rfl)) dX4_bitsOf_53 ?_
          refine lv_dmul hx hb dX4_bitsOf_56 (by rw [e_s1]; exact (hok (by first | exact c_1 | exact Int32.not_le.mpr c_1)).2.2.2.1) ?_
          refine lv_d2l hx hb dX4_bitsOf_57 ?_
          refine lv_lstore (lv' := [(6, .long (FP.d2l (FP.dmul (FP.dsub s1 FP.dconst1) 4841369599423283200))), (4, .long y1), (2, .double s1), (0, .double x)]) hx hb dX4_bitsOf_58 hl (by decide) rfl (fun ls hl => ?_)
          refine lv_lload hx hb dX4_bitsOf_60 (lv_at hl 1 rfl) ?_
          refine lv_bipush (v := 52) hx hb dX4_bitsOf_62 (by decide) ?_
          refine lv_lshl hx hb dX4_bitsOf_64 rfl ?_
          refine lv_lload hx hb dX4_bitsOf_65 (lv_at hl 0 rfl) ?_
          refine lv_lor hx hb dX4_bitsOf_67 ?_
          subst hQ
          exact rt_l hx hb hr hlocks hS dX4_bitsOf_68 (hP) (by rw [btX, if_neg (by first | exact c_1 | exact Int32.not_le.mpr c_1), e_y1, e_s1]; rfl)
        · have hin : i < n := Decidable.byContradiction fun h9 => absurd (show Op.cmpValue (FP.dcmp s1 FP.dconst1) .g < 0 from by first | exact c_3 | exact Int32.not_le.mp c_3) (by rw [e_s1, show i = n from by omega]; exact (hok (by first | exact c_1 | exact Int32.not_le.mpr c_1)).2.1)
          refine lv_dload_n hx hb dX4_bitsOf_32 rfl (lv_at hl 2 rfl) ?_
          refine lv_ldc2d hx hb hown (hts (.constantDouble RX4 284 4611686018427387904) (List.mem_of_getElem? (i := 2) rfl)) dX4_bitsOf_33 ?_
          refine lv_dmul hx hb dX4_bitsOf_36 (by rw [e_s1]; exact ((hok (by first | exact c_1 | exact Int32.not_le.mpr c_1)).1 i hin).2) ?_
          refine lv_dstore_n (lv' := [(2, .double (FP.dmul s1 4611686018427387904)), (6, .int (nI i)), (4, .long y1), (0, .double x)]) hx hb dX4_bitsOf_37 rfl hl (by decide) rfl (fun ls hl => ?_)
          refine lv_lload hx hb dX4_bitsOf_38 (lv_at hl 2 rfl) ?_
          refine lv_lconst (v := 1) hx hb dX4_bitsOf_40 (by decide) ?_
          refine lv_lsub hx hb dX4_bitsOf_41 ?_
          refine lv_lstore (lv' := [(4, .long (y1 - 1)), (2, .double (FP.dmul s1 4611686018427387904)), (6, .int (nI i)), (0, .double x)]) hx hb dX4_bitsOf_42 hl (by decide) rfl (fun ls hl => ?_)
          refine lv_iinc (v := (nI (i + 1))) (lv' := [(6, .int (nI (i + 1))), (4, .long (y1 - 1)), (2, .double (FP.dmul s1 4611686018427387904)), (0, .double x)]) hx hb dX4_bitsOf_44 hl (k := 2) rfl (nI_1 i) (by decide) rfl (fun ls hl => ?_)
          refine lv_goto (tgt := 18) hx hb dX4_bitsOf_47 (by decide) ?_
          exact ih_i (i + 1) (FP.dmul s1 4611686018427387904) (y1 - 1) (by omega) (by omega) (by rw [e_s1]; rfl) (by rw [e_y1]; rfl) (hin) _ _ _ hP hD hS (lv_sub hl [0, 1, 2, 3] rfl)
  · refine lv_lconst (v := 0) hx hb dX4_bitsOf_6 (by decide) ?_
    subst hQ
    exact rt_l hx hb hr hlocks hS dX4_bitsOf_7 (hP) (by rw [btX, if_pos (by first | exact c_1 | exact Int32.not_lt.mp c_1)])
