theorem thF_nw (T : Nat → Nat → Int32) (m : Int32) {nw : Nat} (h : T 7 0 = nI nw) (hp : 0 < (thF T m nw).1) : (thF T m nw).2 7 0 = nI (nw + 1) ∧ nw < 12 := by
  unfold thF at hp ⊢
  by_cases h1 : hwW T m ≤ 0
  · rw [if_pos h1] at hp; exact absurd hp (show ¬ (0 : Int32) < 0 by decide)
  · rw [if_neg h1] at hp ⊢
    by_cases h2 : nw < 12
    · rw [if_pos h2]
      refine ⟨?_, h2⟩
      show T 7 0 + 1 = nI (nw + 1)
      rw [h]; exact nI_1 nw
    · rw [if_neg h2] at hp; exact absurd hp (show ¬ (0 : Int32) < 0 by decide)
/-- steps until one is refused: how many are made from here on, and the State behind them -/
def taF (op : Nat → Int32) (n : Nat) : Nat → Nat → (Nat → Nat → Int32) → Nat × (Nat → Nat → Int32)
  | 0, md, T => (md, T)
  | t + 1, md, T => if 0 < (thF T (hvA (T 4) op n).2 (T 7 0).toNatClampNeg).1 then taF op n t (md + 1) (thF T (hvA (T 4) op n).2 (T 7 0).toNatClampNeg).2 else (md, (thF T (hvA (T 4) op n).2 (T 7 0).toNatClampNeg).2)
theorem taF_s (op : Nat → Int32) (n : Nat) {md : Nat} (h : ¬ 12 < md) (T : Nat → Nat → Int32) : taF op n (13 - md) md T = if 0 < (thF T (hvA (T 4) op n).2 (T 7 0).toNatClampNeg).1 then taF op n (13 - (md + 1)) (md + 1) (thF T (hvA (T 4) op n).2 (T 7 0).toNatClampNeg).2 else (md, (thF T (hvA (T 4) op n).2 (T 7 0).toNatClampNeg).2) := by
  rw [show 13 - md = (13 - (md + 1)) + 1 from by omega, taF]

set_option maxHeartbeats 1000000 in
set_option maxRecDepth 100000 in
theorem c_X4_takeAll (l : Launch) (D : va_G) (k : Nat → ClassId) (d : Nat → Nat → Nat) (g : Nat → Nat) (ns : Int32) (V T : Nat → Nat → Int32) (al op wf : Nat → Int32) (na : Int32) (n : Nat) (nw : Nat) (hn : n ≤ 511) (hnw : T 7 0 = nI nw) (hnw2 : nw ≤ 12) : MI l yX4_takeAll wsX4_takeAll ({ frames := 4, cells := 0, slots := 0, locals := 92 }) D k [.ref (d 0 0), .ref (g 0)] (wXo d ns ++ (wWy k (d 8) (d 9) V al op wf na (nI n) ++ (wSt k g T))) (nI (taF op n 13 0 T).1) (wXo d ns ++ (wWy k (d 8) (d 9) V al op wf na (nI n) ++ wSt k g (taF op n 13 0 T).2)) := by
  intro sz
  refine Met.ofW (cc := cX4_takeAll) (maxL := 3) (ret := (some .int)) (by decide) rfl ?_
  intro p e s m args below meth c s₁ B hml hv
  obtain ⟨rfl, hN, hsz, hP, hK, hD0⟩ := hv
  have hx := B.exec
  have hb := B.bytes
  have hr := B.returns
  have hts := atoms_spec (ws := wsX4_takeAll) B.pre
  have hown : s.vm.findClass RX4 = some m.cls := findClass_of_methodNamed B.named
  have hlocks := B.notSynchronized
  subst hsz
  have hD := hD0.self (sz := s.heap.size)
  generalize hAe : va_A (wXo d ns ++ (wWy k (d 8) (d 9) V al op wf na (nI n) ++ (wSt k g T))) s.heap.size = A at hD ⊢
  have hA : ∀ q : Nat, s.heap.size ≤ q → A q := fun q h => by rw [← hAe]; exact Or.inr h
  have hS : va_S A s.heap s.heap [] := va_S.rf
  have hl := lv_entry ([.ref (d 0 0), .ref (g 0)]) (n := 3) (Nat.le_of_ble_eq_true rfl)
  rw [lg_entry_eq]
  generalize (lg_sl ([.ref (d 0 0), .ref (g 0)]) ++ List.replicate (3 - (lg_sl ([.ref (d 0 0), .ref (g 0)])).length) Slot.unset).toArray = ls at hl ⊢
  have hl : lv_has ls 3 [(0, .ref (d 0 0)), (1, .ref (g 0))] := hl
  obtain ⟨H, hHe⟩ : ∃ H, H = s.heap := ⟨_, rfl⟩
  have hP : va_P D vwCl (wXo d ns ++ (wWy k (d 8) (d 9) V al op wf na (nI n) ++ (wSt k g T))) H := by rw [hHe]; exact hP
  have hS : va_S A s.heap H [] := by rw [hHe]; exact hS
  rw [← hHe]
  refine absQ (fun Q hQ => ?_)
  refine lv_iconst (v := 0) hx hb dX4_takeAll_0 (by decide) ?_
  refine lv_istore_n (lv' := [(2, .int 0), (0, .ref (d 0 0)), (1, .ref (g 0))]) hx hb dX4_takeAll_1 rfl hl (by decide) rfl (fun ls hl => ?_)
  suffices LOOP_i : ∀ (fu_i i : Nat) (T1 : Nat → Nat → Int32), 13 - i < fu_i → i ≤ 13 → (taF op n (13 - i) i T1 = (taF op n 13 0 T)) → (∃ nw : Nat, T1 7 0 = nI nw ∧ nw ≤ 12) → ∀ (H : Heap) (locs : List Loc) (ls : Array Slot), va_P D vwCl (wXo d ns ++ (wWy k (d 8) (d 9) V al op wf na (nI n) ++ (wSt k g T1))) H → va_D A (wXo d ns ++ (wWy k (d 8) (d 9) V al op wf na (nI n) ++ (wSt k g T1))) → va_S A s.heap H locs → lv_has ls 3 [(2, .int (nI i)), (0, .ref (d 0 0)), (1, .ref (g 0))] → W p l e ({ frames := 4, cells := 0, slots := 0, locals := 92 } : Room) s m ([.ref (d 0 0), .ref (g 0)] : List Value).toArray below meth c H locs 0 0 Q (F0 m 2 ls []) from LOOP_i (13 + 1) 0 T (by omega) (by omega)  (rfl) (⟨nw, hnw, hnw2⟩) _ _ _ hP hD hS (lv_sub hl [0, 1, 2] rfl)
  clear hP hD hS hl hHe
  intro fu_i
  induction fu_i with
  | zero => intro i T1 hn_i; omega
  | succ fu_i ih_i =>
    intro i T1 hn_i hle_i  hv hok H locs ls hP hD hS hl
    refine lv_iload_n hx hb dX4_takeAll_2 rfl (lv_at hl 0 rfl) ?_
    refine lv_bipush (v := 12) hx hb dX4_takeAll_3 (by decide) ?_
    refine lv_icmp_gt (tgt := 22) hx hb dX4_takeAll_5 (by decide) (fun c_1 => ?_) (fun c_1 => ?_)
    · have c_1 : 12 < i := (nI_ltI (a := 12) (b := i) (by omega) (by omega)).mp c_1
      refine lv_iload_n hx hb dX4_takeAll_22 rfl (lv_at hl 0 rfl) ?_
      subst hQ
      exact rt_i hx hb hr hlocks hS dX4_takeAll_23 (by have h9 := hv; rw [show 13 - i = 0 from by omega, taF] at h9; rw [← h9]; exact hP) (by have h9 := hv; rw [show 13 - i = 0 from by omega, taF] at h9; rw [← h9])
    · have c_1 : ¬ (12 < i) := fun h9 => c_1 ((nI_ltI (a := 12) (b := i) (by omega) (by omega)).mpr h9)
      refine lv_aload_n hx hb dX4_takeAll_8 rfl (lv_at hl 1 rfl) ?_
      refine lv_aload_n hx hb dX4_takeAll_9 rfl (lv_at hl 2 rfl) ?_
      obtain ⟨nw1, hnw1, hnw3⟩ := hok
      have hcl : (T1 7 0).toNatClampNeg = nw1 := by rw [hnw1]; exact nI_clamp (by omega)
      have hPc : va_P D vwCl (wXo d ns ++ (wWy k (d 8) (d 9) V al op wf na (nI n) ++ wSt k g T1)) H := hP.sub [0, 1, 2, 3, 4, 5, 6, 7, 8, 9, 10, 11, 12, 13, 14, 15, 16, 17, 18, 19, 20] rfl
      have hDc : va_D A (wXo d ns ++ (wWy k (d 8) (d 9) V al op wf na (nI n) ++ wSt k g T1)) := hD.sub [0, 1, 2, 3, 4, 5, 6, 7, 8, 9, 10, 11, 12, 13, 14, 15, 16, 17, 18, 19, 20] (by decide +kernel) rfl
      refine cl_i (va_runV (As := [.ref (g 0)]) (rest := []) ⟨hx, hb, hml, hown, hts⟩ (c_X4_takeHeaviest l D k d g ns V T1 al op wf na n nw1 hn hnw1 hnw3 H.size) (cwV 1 hts gX4_takeAll_X4_takeHeaviest rfl rfl rfl (by decide +kernel) ⟨Nat.le_of_ble_eq_true rfl, Nat.le_of_ble_eq_true rfl⟩) ⟨pr_blind, va_recv hK hP (ci := 4) (q0 := 0) rfl rfl, pr_at hN hPc hK hDc⟩ rfl rfl hl.1 rfl (lv_room (Nat.le_of_ble_eq_true rfl)) dX4_takeAll_10 ⟨Nat.le_of_ble_eq_true rfl, Nat.le_of_ble_eq_true rfl⟩) hP hD hS hA [0, 1, 2, 3, 4, 5, 6, 7, 8, 9, 10, 11, 12, 13, 14, 15, 16, 17, 18, 19, 20] [] ([]) [d 0 0, (d 8) 0, (d 8) 1, (d 8) 2, (d 8) 3, (d 9) 0, (d 9) 1, (d 9) 2, (d 9) 3, (d 9) 4, (d 9) 5, (d 9) 6, (d 9) 7, g 0, g 1, g 2, g 3, g 4, g 5, g 6, g 7] 21 rfl (wn := (wXo d ns ++ (wWy k (d 8) (d 9) V al op wf na (nI n) ++ (wSt k g ((thF T1 (hvA (T1 4) op n).2 nw1).2))))) rfl rfl rfl rfl (by decide +kernel) rfl rfl (fun H locs hP hD hS => ?_)
      clear hPc hDc
      refine lv_if_le (tgt := 22) hx hb dX4_takeAll_13 (by decide) (fun c_2 => ?_) (fun c_2 => ?_)
      · refine lv_iload_n hx hb dX4_takeAll_22 rfl (lv_at hl 0 rfl) ?_
        subst hQ
        exact rt_i hx hb hr hlocks hS dX4_takeAll_23 (by have h9 := hv; rw [taF_s _ _ c_1, hcl, if_neg (Int32.not_lt.mpr c_2)] at h9; rw [← h9]; exact hP) (by have h9 := hv; rw [taF_s _ _ c_1, hcl, if_neg (Int32.not_lt.mpr c_2)] at h9; rw [← h9])
      · refine lv_iinc (v := (nI (i + 1))) (lv' := [(2, .int (nI (i + 1))), (0, .ref (d 0 0)), (1, .ref (g 0))]) hx hb dX4_takeAll_16 hl (k := 0) rfl (nI_1 i) (by decide) rfl (fun ls hl => ?_)
        refine lv_goto (tgt := 2) hx hb dX4_takeAll_19 (by decide) ?_
        exact ih_i (i + 1) ((thF T1 (hvA (T1 4) op n).2 nw1).2) (by omega) (by omega)  (by have h9 := hv; rw [taF_s _ _ c_1, hcl, if_pos (Int32.not_le.mp c_2)] at h9; exact h9) (by obtain ⟨h8, h9⟩ := thF_nw T1 (hvA (T1 4) op n).2 hnw1 (Int32.not_le.mp c_2); exact ⟨nw1 + 1, h8, by omega⟩) _ _ _ hP hD hS (lv_sub hl [0, 1, 2] rfl)
