/-- a double, doubled and doubled again; its exponent -/
def dbF (x : UInt64) : Nat → UInt64
  | 0 => x
  | n + 1 => FP.dmul (dbF x n) 4611686018427387904
def ebF : Nat → Int64
  | 0 => 1023
  | n + 1 => ebF n - 1
def frF (x : UInt64) (n : Nat) : Int64 := FP.d2l (FP.dmul (FP.dsub (dbF x n) FP.dconst1) 4841369599423283200)
/-- n doublings bring it to one or more, with no surprise on the way -/
def bitsOK (x : UInt64) (n : Nat) : Prop := (∀ i, i < n → Op.cmpValue (FP.dcmp (dbF x i) FP.dconst1) .g < 0 ∧ vf_n64 (dbF x (i + 1))) ∧ ¬ Op.cmpValue (FP.dcmp (dbF x n) FP.dconst1) .g < 0 ∧ vf_n64 (FP.dsub (dbF x n) FP.dconst1) ∧ vf_n64 (FP.dmul (FP.dsub (dbF x n) FP.dconst1) 4841369599423283200) ∧ n ≤ 1000
def btM (x : UInt64) (n : Nat) : Int64 := if Op.cmpValue (FP.dcmp x FP.dconst0) .l = 0 then 0 else ebF n * 4503599627370496 + frF x n
def btX (x : UInt64) (n : Nat) : Int64 := if Op.cmpValue (FP.dcmp x FP.dconst0) .g ≤ 0 then 0 else (ebF n <<< ((52 : Int32).toInt64 &&& 63)) ||| frF x n

set_option maxHeartbeats 1000000 in
set_option maxRecDepth 100000 in
theorem c_X5_bitsOf (l : Launch) (D : va_G) (k : Nat → ClassId) (x : UInt64) (n : Nat) (hok : ¬ Op.cmpValue (FP.dcmp x FP.dconst0) .l = 0 → bitsOK x n) : ML l yX5_bitsOf wsX5_bitsOf ({ frames := 0, cells := 0, slots := 0, locals := 0 }) D k [.double x] ([]) (btM x n) ([]) := by
  intro sz
  refine Met.ofW (cc := cX5_bitsOf) (maxL := 6) (ret := (some .long)) (by decide) rfl ?_
  intro p e s m args below meth c s₁ B hml hv
  obtain ⟨rfl, hN, hsz, hP, hK, hD0⟩ := hv
  have hx := B.exec
  have hb := B.bytes
  have hr := B.returns
  have hts := atoms_spec (ws := wsX5_bitsOf) B.pre
  have hown : s.vm.findClass RX5 = some m.cls := findClass_of_methodNamed B.named
  have hlocks := B.notSynchronized
  subst hsz
  have hD := hD0.self (sz := s.heap.size)
  generalize hAe : va_A ([]) s.heap.size = A at hD ⊢
  have hA : ∀ q : Nat, s.heap.size ≤ q → A q := fun q h => by rw [← hAe]; exact Or.inr h
  have hS : va_S A s.heap s.heap [] := va_S.rf
  have hl := lv_entry ([.double x]) (n := 6) (Nat.le_of_ble_eq_true rfl)
  rw [lg_entry_eq]
  generalize (lg_sl ([.double x]) ++ List.replicate (6 - (lg_sl ([.double x])).length) Slot.unset).toArray = ls at hl ⊢
  have hl : lv_has ls 6 [(0, .double x)] := hl
  obtain ⟨H, hHe⟩ : ∃ H, H = s.heap := ⟨_, rfl⟩
  have hP : va_P D vwCl ([]) H := by rw [hHe]; exact hP
  have hS : va_S A s.heap H [] := by rw [hHe]; exact hS
  rw [← hHe]
  refine absQ (fun Q hQ => ?_)
  refine lv_dload_n hx hb dX5_bitsOf_0 rfl (lv_at hl 0 rfl) ?_
  refine lv_dconst0 hx hb dX5_bitsOf_1 ?_
  refine lv_dcmp hx hb dX5_bitsOf_2 ?_
  refine lv_if_ne (tgt := 8) hx hb dX5_bitsOf_3 (by decide) (fun c_1 => ?_) (fun c_1 => ?_)
  · refine lv_ldc2 hx hb hown (hts (.constantLong RX5 158 1023) (List.mem_of_getElem? (i := 1) rfl)) dX5_bitsOf_8 ?_
    refine lv_lstore_n (lv' := [(2, .long 1023), (0, .double x)]) hx hb dX5_bitsOf_11 rfl hl (by decide) rfl (fun ls hl => ?_)
    refine lv_dload_n hx hb dX5_bitsOf_12 rfl (lv_at hl 1 rfl) ?_
    refine lv_dstore (lv' := [(4, .double x), (2, .long 1023), (0, .double x)]) hx hb dX5_bitsOf_13 hl (by decide) rfl (fun ls hl => ?_)
    suffices LOOP_i : ∀ (fu_i i : Nat) (s1 : UInt64) (y1 : Int64), n - i < fu_i → i ≤ n → s1 = dbF x i → y1 = ebF i → ∀ (H : Heap) (locs : List Loc) (ls : Array Slot), va_P D vwCl ([]) H → va_D A ([]) → va_S A s.heap H locs → lv_has ls 6 [(4, .double s1), (2, .long y1), (0, .double x)] → W p l e ({ frames := 0, cells := 0, slots := 0, locals := 0 } : Room) s m ([.double x] : List Value).toArray below meth c H locs 0 0 Q (F0 m 15 ls []) from LOOP_i (n + 1) 0 x 1023 (by omega) (by omega) (rfl) (rfl)  _ _ _ hP hD hS (lv_sub hl [0, 1, 2] rfl)
    clear hP hD hS hl hHe
    intro fu_i
    induction fu_i with
    | zero => intro i s1 y1 hn_i; omega
    | succ fu_i ih_i =>
      intro i s1 y1 hn_i hle_i e_s1 e_y1  H locs ls hP hD hS hl
      refine lv_dload hx hb dX5_bitsOf_15 (lv_at hl 0 rfl) ?_
      refine lv_dconst1 hx hb dX5_bitsOf_17 ?_
      refine lv_dcmp hx hb dX5_bitsOf_18 ?_
      refine lv_if_ge (tgt := 37) hx hb dX5_bitsOf_19 (by decide) (fun c_2 => ?_) (fun c_2 => ?_)
      · have hin : i = n := by have h9 : ¬ i < n := fun h8 => absurd ((hok (by exact c_1)).1 i h8).1 (by rw [← e_s1]; first | exact c_2 | exact Int32.not_lt.mpr c_2); omega
        subst hin
        refine lv_lload_n hx hb dX5_bitsOf_37 rfl (lv_at hl 1 rfl) ?_
        refine lv_ldc2 hx hb hown (hts (.constantLong RX5 162 4503599627370496) (List.mem_of_getElem? (i := 3) rfl)) dX5_bitsOf_38 ?_
        refine lv_lmul hx hb dX5_bitsOf_41 ?_
        refine lv_dload hx hb dX5_bitsOf_42 (lv_at hl 0 rfl) ?_
        refine lv_dconst1 hx hb dX5_bitsOf_44 ?_
        refine lv_dsub hx hb dX5_bitsOf_45 (by rw [e_s1]; exact (hok c_1).2.2.1) ?_
        refine lv_ldc2d hx hb hown (hts (.constantDouble RX5 164 4841369599423283200) (List.mem_of_getElem? (i := 4) rfl)) dX5_bitsOf_46 ?_
        refine lv_dmul hx hb dX5_bitsOf_49 (by rw [e_s1]; exact (hok c_1).2.2.2.1) ?_
        refine lv_d2l hx hb dX5_bitsOf_50 ?_
        refine lv_ladd hx hb dX5_bitsOf_51 ?_
        subst hQ
        exact rt_l hx hb hr hlocks hS dX5_bitsOf_52 (hP) (by rw [btM, if_neg c_1, e_y1, e_s1]; rfl)
      · have hin : i < n := Decidable.byContradiction fun h9 => absurd (show Op.cmpValue (FP.dcmp s1 FP.dconst1) .g < 0 from by first | exact c_2 | exact Int32.not_le.mp c_2) (by rw [e_s1, show i = n from by omega]; exact (hok (by exact c_1)).2.1)
        refine lv_dload hx hb dX5_bitsOf_22 (lv_at hl 0 rfl) ?_
        refine lv_ldc2d hx hb hown (hts (.constantDouble RX5 160 4611686018427387904) (List.mem_of_getElem? (i := 2) rfl)) dX5_bitsOf_24 ?_
        refine lv_dmul hx hb dX5_bitsOf_27 (by rw [e_s1]; exact ((hok c_1).1 i hin).2) ?_
        refine lv_dstore (lv' := [(4, .double (FP.dmul s1 4611686018427387904)), (2, .long y1), (0, .double x)]) hx hb dX5_bitsOf_28 hl (by decide) rfl (fun ls hl => ?_)
        refine lv_lload_n hx hb dX5_bitsOf_30 rfl (lv_at hl 1 rfl) ?_
        refine lv_lconst (v := 1) hx hb dX5_bitsOf_31 (by decide) ?_
        refine lv_lsub hx hb dX5_bitsOf_32 ?_
        refine lv_lstore_n (lv' := [(2, .long (y1 - 1)), (4, .double (FP.dmul s1 4611686018427387904)), (0, .double x)]) hx hb dX5_bitsOf_33 rfl hl (by decide) rfl (fun ls hl => ?_)
        refine lv_goto (tgt := 15) hx hb dX5_bitsOf_34 (by decide) ?_
        exact ih_i (i + 1) (FP.dmul s1 4611686018427387904) (y1 - 1) (by omega) (by omega) (by rw [e_s1]; rfl) (by rw [e_y1]; rfl)  _ _ _ hP hD hS (lv_sub hl [1, 0, 2] rfl)
  · refine lv_lconst (v := 0) hx hb dX5_bitsOf_6 (by decide) ?_
    subst hQ
    exact rt_l hx hb hr hlocks hS dX5_bitsOf_7 (hP) (by rw [btM, if_pos c_1])
