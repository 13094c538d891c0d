def spM : Nat → Nat → (Nat → Int32) → Nat × (Nat → Int32)
  | 0, md, f => (md, f)
  | t + 1, md, f => if 0 < (stM f (f 45).toNatClampNeg).1 then spM t (md + 1) (stM f (f 45).toNatClampNeg).2 else (md, (stM f (f 45).toNatClampNeg).2)
theorem spM_s {md : Nat} (h : md ≤ 12) (f : Nat → Int32) : spM (13 - md) md f = if 0 < (stM f (f 45).toNatClampNeg).1 then spM (13 - (md + 1)) (md + 1) (stM f (f 45).toNatClampNeg).2 else (md, (stM f (f 45).toNatClampNeg).2) := by
  rw [show 13 - md = (13 - (md + 1)) + 1 from by omega, spM]
def swX (f : Nat → Int32) (x : Int32) (nw : Nat) : Int32 := if x = 0 then 0 else if nw = 12 then 0 else wmF f x 9
theorem stX_nw (f : Nat → Int32) {nw : Nat} (h2 : nw ≤ 12) (x : Int32) (hp : 0 < (if swX f x nw = 0 then ((0 : Int32), upd f 71 (f 71 + 1)) else (swX f x nw, stN f x (swX f x nw) nw)).1) : (if swX f x nw = 0 then ((0 : Int32), upd f 71 (f 71 + 1)) else (swX f x nw, stN f x (swX f x nw) nw)).2 45 = nI (nw + 1) ∧ nw < 12 := by
  by_cases h1 : swX f x nw = 0
  · rw [if_pos h1] at hp; exact absurd hp (show ¬ (0 : Int32) < 0 by decide)
  · rw [if_neg h1]
    refine ⟨?_, ?_⟩
    · show stN f x (swX f x nw) nw 45 = _
      unfold stN
      rw [up_ne _ _ (show 45 ≠ 70 from by omega), up_eq]
    · rcases Nat.lt_or_ge nw 12 with q | q
      · exact q
      · refine absurd ?_ h1
        unfold swX
        by_cases h3 : x = 0
        · rw [if_pos h3]
        · rw [if_neg h3, if_pos (show nw = 12 from by omega)]
theorem swM_eq (f : Nat → Int32) (nw : Nat) : swM f nw = swX f (hwM f 511) nw := by unfold swM swX; rfl
theorem stM_eq (f : Nat → Int32) (nw : Nat) : stM f nw = (if swX f (hwM f 511) nw = 0 then ((0 : Int32), upd f 71 (f 71 + 1)) else (swX f (hwM f 511) nw, stN f (hwM f 511) (swX f (hwM f 511) nw) nw)) := by
  unfold stM
  rw [swM_eq]
theorem stM_nw (f : Nat → Int32) {nw : Nat} (h2 : nw ≤ 12) (hp : 0 < (stM f nw).1) : (stM f nw).2 45 = nI (nw + 1) ∧ nw < 12 := by
  rw [stM_eq] at hp ⊢
  revert hp
  generalize hwM f 511 = x
  intro hp
  exact stX_nw f h2 x hp

set_option maxHeartbeats 1000000 in
set_option maxRecDepth 100000 in
theorem c_X5_splits (l : Launch) (D : va_G) (k : Nat → ClassId) (h : Nat → Nat) (th : Int32) (f asd sl kp sv : Nat → Int32) (sm : Int32) (tx : Nat → Int32) (ln : Int32) (dg : Int64) (nw : Nat) (hnw : f 45 = nI nw) (hnw2 : nw ≤ 12) : MI l yX5_splits wsX5_splits ({ frames := 4, cells := 0, slots := 0, locals := 92 }) D k [.ref (h 0)] (wMo k h th f asd sl kp sv sm tx ln dg) (nI (spM 13 0 f).1) (wMo k h th ((spM 13 0 f).2) asd sl kp sv sm tx ln dg) := by
  intro sz
  refine Met.ofW (cc := cX5_splits) (maxL := 2) (ret := (some .int)) (by decide) rfl ?_
  intro p e s m args below meth c s₁ B hml hv
  obtain ⟨rfl, hN, hsz, hP, hK, hD0⟩ := hv
  have hx := B.exec
  have hb := B.bytes
  have hr := B.returns
  have hts := atoms_spec (ws := wsX5_splits) B.pre
  have hown : s.vm.findClass RX5 = some m.cls := findClass_of_methodNamed B.named
  have hlocks := B.notSynchronized
  subst hsz
  have hD := hD0.self (sz := s.heap.size)
  generalize hAe : va_A (wMo k h th f asd sl kp sv sm tx ln dg) s.heap.size = A at hD ⊢
  have hA : ∀ q : Nat, s.heap.size ≤ q → A q := fun q h => by rw [← hAe]; exact Or.inr h
  have hS : va_S A s.heap s.heap [] := va_S.rf
  have hl := lv_entry ([.ref (h 0)]) (n := 2) (Nat.le_of_ble_eq_true rfl)
  rw [lg_entry_eq]
  generalize (lg_sl ([.ref (h 0)]) ++ List.replicate (2 - (lg_sl ([.ref (h 0)])).length) Slot.unset).toArray = ls at hl ⊢
  have hl : lv_has ls 2 [(0, .ref (h 0))] := hl
  obtain ⟨H, hHe⟩ : ∃ H, H = s.heap := ⟨_, rfl⟩
  have hP : va_P D vwCl (wMo k h th f asd sl kp sv sm tx ln dg) H := by rw [hHe]; exact hP
  have hS : va_S A s.heap H [] := by rw [hHe]; exact hS
  rw [← hHe]
  refine absQ (fun Q hQ => ?_)
  refine lv_iconst (v := 0) hx hb dX5_splits_0 (by decide) ?_
  refine lv_istore_n (lv' := [(1, .int 0), (0, .ref (h 0))]) hx hb dX5_splits_1 rfl hl (by decide) rfl (fun ls hl => ?_)
  suffices LOOP_i : ∀ (fu_i i : Nat) (f1 : Nat → Int32), 13 - i < fu_i → i ≤ 13 → (spM (13 - i) i f1 = (spM 13 0 f)) → (f1 45 = nI (nw + i) ∧ nw + i ≤ 12) → ∀ (H : Heap) (locs : List Loc) (ls : Array Slot), va_P D vwCl (wMo k h th f1 asd sl kp sv sm tx ln dg) H → va_D A (wMo k h th f1 asd sl kp sv sm tx ln dg) → va_S A s.heap H locs → lv_has ls 2 [(1, .int (nI i)), (0, .ref (h 0))] → W p l e ({ frames := 4, cells := 0, slots := 0, locals := 92 } : Room) s m ([.ref (h 0)] : List Value).toArray below meth c H locs 0 0 Q (F0 m 2 ls []) from LOOP_i (13 + 1) 0 f (by omega) (by omega)  (rfl) (⟨hnw, hnw2⟩) _ _ _ hP hD hS (lv_sub hl [0, 1] rfl)
  clear hP hD hS hl hHe
  intro fu_i
  induction fu_i with
  | zero => intro i f1 hn_i; omega
  | succ fu_i ih_i =>
    intro i f1 hn_i hle_i  hv hok H locs ls hP hD hS hl
    refine lv_aload_n hx hb dX5_splits_2 rfl (lv_at hl 1 rfl) ?_
    have hcl : (f1 45).toNatClampNeg = nw + i := by rw [hok.1]; exact nI_clamp (by omega)
    have hPc : va_P D vwCl (wMo k h th f1 asd sl kp sv sm tx ln dg) H := hP.sub [0, 1, 2, 3, 4, 5, 6] rfl
    have hDc : va_D A (wMo k h th f1 asd sl kp sv sm tx ln dg) := hD.sub [0, 1, 2, 3, 4, 5, 6] (by decide +kernel) rfl
    refine cl_i (va_runV (As := []) (rest := []) ⟨hx, hb, hml, hown, hts⟩ (c_X5_steps l D k h th f1 asd sl kp sv sm tx ln dg (nw + i) hok.1 hok.2 H.size) (cwV 0 hts gX5_splits_X5_steps rfl rfl rfl (by decide +kernel) ⟨Nat.le_of_ble_eq_true rfl, Nat.le_of_ble_eq_true rfl⟩) ⟨pr_blind, va_recv hK hP (ci := 5) (q0 := 0) rfl rfl, pr_at hN hPc hK hDc⟩ rfl rfl hl.1 rfl (lv_room (Nat.le_of_ble_eq_true rfl)) dX5_splits_3 ⟨Nat.le_of_ble_eq_true rfl, Nat.le_of_ble_eq_true rfl⟩) hP hD hS hA [0, 1, 2, 3, 4, 5, 6] [] ([]) [h 0, h 1, h 2, h 3, h 4, h 5, h 6] 7 rfl (wn := wMo k h th ((stM f1 (nw + i)).2) asd sl kp sv sm tx ln dg) rfl rfl rfl rfl (by decide +kernel) rfl rfl (fun H locs hP hD hS => ?_)
    clear hPc hDc
    refine lv_if_le (tgt := 15) hx hb dX5_splits_6 (by decide) (fun c_1 => ?_) (fun c_1 => ?_)
    · refine lv_iload_n hx hb dX5_splits_15 rfl (lv_at hl 0 rfl) ?_
      subst hQ
      exact rt_i hx hb hr hlocks hS dX5_splits_16 (by have h9 := hv; rw [spM_s (show i ≤ 12 from by omega), hcl, if_neg (Int32.not_lt.mpr c_1)] at h9; rw [← h9]; exact hP) (by have h9 := hv; rw [spM_s (show i ≤ 12 from by omega), hcl, if_neg (Int32.not_lt.mpr c_1)] at h9; rw [← h9])
    · refine lv_iinc (v := (nI (i + 1))) (lv' := [(1, .int (nI (i + 1))), (0, .ref (h 0))]) hx hb dX5_splits_9 hl (k := 0) rfl (nI_1 i) (by decide) rfl (fun ls hl => ?_)
      refine lv_goto (tgt := 2) hx hb dX5_splits_12 (by decide) ?_
      exact ih_i (i + 1) ((stM f1 (nw + i)).2) (by omega) (by omega)  (by have h9 := hv; rw [spM_s (show i ≤ 12 from by omega), hcl, if_pos (Int32.not_le.mp c_1)] at h9; exact h9) (by obtain ⟨h7, h8⟩ := stM_nw f1 hok.2 (Int32.not_le.mp c_1); exact ⟨h7, h8⟩) _ _ _ hP hD hS (lv_sub hl [0, 1] rfl)
