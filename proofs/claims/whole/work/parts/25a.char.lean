/-- the text: a character, a digit, the place behind a number, behind a part -/
def caM (tx : Nat → Int32) (ln i : Nat) : Int32 := if i < ln then tx i else 0
def dgM (tx : Nat → Int32) (ln i : Nat) : Int32 := caM tx ln i - 48
def bnR (tx : Nat → Int32) (ln i : Nat) : Nat → Nat → Nat
  | 0, j => j
  | t + 1, j => if inB (dgM tx ln j) 0 9 = true ∧ (j = i ∨ 0 < dgM tx ln i) then bnR tx ln i t (j + 1) else j
def bnM (tx : Nat → Int32) (ln i : Nat) : Nat := bnR tx ln i 3 i
theorem bnR_s (tx : Nat → Int32) (ln i j : Nat) (h : ¬ i + 3 ≤ j) : bnR tx ln i (i + 3 - j) j = if inB (dgM tx ln j) 0 9 = true ∧ (j = i ∨ 0 < dgM tx ln i) then bnR tx ln i (i + 3 - (j + 1)) (j + 1) else j := by
  rw [show i + 3 - j = (i + 3 - (j + 1)) + 1 from by omega, bnR]
theorem bnR_f (tx : Nat → Int32) (ln i t j : Nat) (h : ¬ (inB (dgM tx ln j) 0 9 = true ∧ (j = i ∨ 0 < dgM tx ln i))) : bnR tx ln i t j = j := by
  cases t with
  | zero => rfl
  | succ t => exact if_neg h
theorem bnR_le (tx : Nat → Int32) (ln i t j : Nat) : j ≤ bnR tx ln i t j ∧ bnR tx ln i t j ≤ j + t := by
  induction t generalizing j with
  | zero => exact ⟨Nat.le_refl _, Nat.le_refl _⟩
  | succ t ih =>
    rw [bnR]
    split
    · have := ih (j + 1); omega
    · omega
theorem bnM_le (tx : Nat → Int32) (ln i : Nat) : i ≤ bnM tx ln i ∧ bnM tx ln i ≤ i + 3 := bnR_le tx ln i 3 i
def bpM (tx : Nat → Int32) (ln i : Nat) : Int32 :=
  if caM tx ln i = 115 ∨ caM tx ln i = 101 then (if inB (dgM tx ln (i + 1)) 0 8 = true then nI (i + 2) else -2 - nI i) else
  if caM tx ln i = 106 ∨ caM tx ln i = 120 then (if inB (dgM tx ln (i + 1)) 0 7 = true then (if inB (dgM tx ln (i + 2)) (dgM tx ln (i + 1) + 1) 8 = true then nI (i + 3) else -3 - nI i) else -2 - nI i) else
  if caM tx ln i = 99 then (if inB (dgM tx ln (i + 1)) 0 8 = true then (if caM tx ln (i + 2) = 61 then (if bnM tx ln (i + 3) = i + 3 then -4 - nI i else nI (bnM tx ln (i + 3))) else -3 - nI i) else -2 - nI i) else
  -1 - nI i

set_option maxHeartbeats 1000000 in
set_option maxRecDepth 100000 in
theorem c_X5_charAt (l : Launch) (D : va_G) (k : Nat → ClassId) (h : Nat → Nat) (th : Int32) (f asd sl kp sv : Nat → Int32) (sm : Int32) (tx : Nat → Int32) (ln : Nat) (dg : Int64) (i : Nat) (hln : ln ≤ 60) (hi : i ≤ 70) : MI l yX5_charAt wsX5_charAt ({ frames := 0, cells := 0, slots := 0, locals := 0 }) D k [.ref (h 0), .int (nI i)] (wMo k h th f asd sl kp sv sm tx (nI ln) dg) (caM tx ln i) (wMo k h th f asd sl kp sv sm tx (nI ln) dg) := by
  intro sz
  refine Met.ofW (cc := cX5_charAt) (maxL := 2) (ret := (some .int)) (by decide) rfl ?_
  intro p e s m args below meth c s₁ B hml hv
  obtain ⟨rfl, hN, hsz, hP, hK, hD0⟩ := hv
  have hx := B.exec
  have hb := B.bytes
  have hr := B.returns
  have hts := atoms_spec (ws := wsX5_charAt) B.pre
  have hown : s.vm.findClass RX5 = some m.cls := findClass_of_methodNamed B.named
  have hlocks := B.notSynchronized
  subst hsz
  have hD := hD0.self (sz := s.heap.size)
  generalize hAe : va_A (wMo k h th f asd sl kp sv sm tx (nI ln) dg) s.heap.size = A at hD ⊢
  have hA : ∀ q : Nat, s.heap.size ≤ q → A q := fun q h => by rw [← hAe]; exact Or.inr h
  have hS : va_S A s.heap s.heap [] := va_S.rf
  have hl := lv_entry ([.ref (h 0), .int (nI i)]) (n := 2) (Nat.le_of_ble_eq_true rfl)
  rw [lg_entry_eq]
  generalize (lg_sl ([.ref (h 0), .int (nI i)]) ++ List.replicate (2 - (lg_sl ([.ref (h 0), .int (nI i)])).length) Slot.unset).toArray = ls at hl ⊢
  have hl : lv_has ls 2 [(0, .ref (h 0)), (1, .int (nI i))] := hl
  obtain ⟨H, hHe⟩ : ∃ H, H = s.heap := ⟨_, rfl⟩
  have hP : va_P D vwCl (wMo k h th f asd sl kp sv sm tx (nI ln) dg) H := by rw [hHe]; exact hP
  have hS : va_S A s.heap H [] := by rw [hHe]; exact hS
  rw [← hHe]
  refine absQ (fun Q hQ => ?_)
  refine lv_iload_n hx hb dX5_charAt_0 rfl (lv_at hl 1 rfl) ?_
  refine lv_aload_n hx hb dX5_charAt_1 rfl (lv_at hl 0 rfl) ?_
  refine va_get (D := D) (ci := 5) (v := .int (nI ln)) (C := RX5) (T := TX5) (N := 10) hx hb hts (fun _ h9 => (List.mem_cons_of_mem _ (List.mem_append_right _ h9))) hown hK hP 0 rfl rfl 8 (by decide) (hts _ (List.mem_of_getElem? (i := 1) rfl)) (fun _ h9 => h9) rfl dX5_charAt_2 ?_
  refine lv_icmp_ge (tgt := 17) hx hb dX5_charAt_5 (by decide) (fun c_1 => ?_) (fun c_1 => ?_)
  · have c_1 : ln ≤ i := (nI_leI (a := ln) (b := i) (by omega) (by omega)).mp c_1
    refine lv_iconst (v := 0) hx hb dX5_charAt_17 (by decide) ?_
    subst hQ
    exact rt_i hx hb hr hlocks hS dX5_charAt_18 (hP) (by rw [caM, if_neg (by omega)])
  · have c_1 : ¬ (ln ≤ i) := fun h9 => c_1 ((nI_leI (a := ln) (b := i) (by omega) (by omega)).mpr h9)
    refine lv_aload_n hx hb dX5_charAt_8 rfl (lv_at hl 0 rfl) ?_
    refine va_get (D := D) (ci := 5) (v := .ref (h 6)) (C := RX5) (T := TX5) (N := 10) hx hb hts (fun _ h9 => (List.mem_cons_of_mem _ (List.mem_append_right _ h9))) hown hK hP 0 rfl rfl 7 (by decide) (hts _ (List.mem_of_getElem? (i := 2) rfl)) (fun _ h9 => h9) rfl dX5_charAt_9 ?_
    refine lv_iload_n hx hb dX5_charAt_12 rfl (lv_at hl 1 rfl) ?_
    refine ar_ld hx hb hK hP 6 rfl i (nI_clamp (by omega)) (vp_in_nI (by omega) (by omega)) dX5_charAt_13 ?_
    refine lv_goto (tgt := 18) hx hb dX5_charAt_14 (by decide) ?_
    subst hQ
    exact rt_i hx hb hr hlocks hS dX5_charAt_18 (hP) (by rw [caM, if_pos (by omega)])

set_option maxHeartbeats 1000000 in
set_option maxRecDepth 100000 in
theorem c_X5_digitAt (l : Launch) (D : va_G) (k : Nat → ClassId) (h : Nat → Nat) (th : Int32) (f asd sl kp sv : Nat → Int32) (sm : Int32) (tx : Nat → Int32) (ln : Nat) (dg : Int64) (i : Nat) (hln : ln ≤ 60) (hi : i ≤ 70) : MI l yX5_digitAt wsX5_digitAt ({ frames := 1, cells := 0, slots := 0, locals := 21 }) D k [.ref (h 0), .int (nI i)] (wMo k h th f asd sl kp sv sm tx (nI ln) dg) (dgM tx ln i) (wMo k h th f asd sl kp sv sm tx (nI ln) dg) := by
  intro sz
  refine Met.ofW (cc := cX5_digitAt) (maxL := 2) (ret := (some .int)) (by decide) rfl ?_
  intro p e s m args below meth c s₁ B hml hv
  obtain ⟨rfl, hN, hsz, hP, hK, hD0⟩ := hv
  have hx := B.exec
  have hb := B.bytes
  have hr := B.returns
  have hts := atoms_spec (ws := wsX5_digitAt) B.pre
  have hown : s.vm.findClass RX5 = some m.cls := findClass_of_methodNamed B.named
  have hlocks := B.notSynchronized
  subst hsz
  have hD := hD0.self (sz := s.heap.size)
  generalize hAe : va_A (wMo k h th f asd sl kp sv sm tx (nI ln) dg) s.heap.size = A at hD ⊢
  have hA : ∀ q : Nat, s.heap.size ≤ q → A q := fun q h => by rw [← hAe]; exact Or.inr h
  have hS : va_S A s.heap s.heap [] := va_S.rf
  have hl := lv_entry ([.ref (h 0), .int (nI i)]) (n := 2) (Nat.le_of_ble_eq_true rfl)
  rw [lg_entry_eq]
  generalize (lg_sl ([.ref (h 0), .int (nI i)]) ++ List.replicate (2 - (lg_sl ([.ref (h 0), .int (nI i)])).length) Slot.unset).toArray = ls at hl ⊢
  have hl : lv_has ls 2 [(0, .ref (h 0)), (1, .int (nI i))] := hl
  obtain ⟨H, hHe⟩ : ∃ H, H = s.heap := ⟨_, rfl⟩
  have hP : va_P D vwCl (wMo k h th f asd sl kp sv sm tx (nI ln) dg) H := by rw [hHe]; exact hP
  have hS : va_S A s.heap H [] := by rw [hHe]; exact hS
  rw [← hHe]
  refine absQ (fun Q hQ => ?_)
  refine lv_aload_n hx hb dX5_digitAt_0 rfl (lv_at hl 0 rfl) ?_
  refine lv_iload_n hx hb dX5_digitAt_1 rfl (lv_at hl 1 rfl) ?_
  have hPc : va_P D vwCl (wMo k h th f asd sl kp sv sm tx (nI ln) dg) H := hP.sub [0, 1, 2, 3, 4, 5, 6] rfl
  have hDc : va_D A (wMo k h th f asd sl kp sv sm tx (nI ln) dg) := hD.sub [0, 1, 2, 3, 4, 5, 6] (by decide +kernel) rfl
  refine cl_i0 (va_runV (As := [.int (nI i)]) (rest := []) ⟨hx, hb, hml, hown, hts⟩ (c_X5_charAt l D k h th f asd sl kp sv sm tx ln dg i hln (by omega) H.size) (cwV 1 hts gX5_digitAt_X5_charAt rfl rfl rfl (by decide +kernel) ⟨Nat.le_of_ble_eq_true rfl, Nat.le_of_ble_eq_true rfl⟩) ⟨pr_blind, va_recv hK hP (ci := 5) (q0 := 0) rfl rfl, pr_at hN hPc hK hDc⟩ rfl rfl hl.1 rfl (lv_room (Nat.le_of_ble_eq_true rfl)) dX5_digitAt_2 ⟨Nat.le_of_ble_eq_true rfl, Nat.le_of_ble_eq_true rfl⟩) hP hD hS hA [0, 1, 2, 3, 4, 5, 6] rfl (fun H locs hP hD hS => ?_)
  clear hPc hDc
  refine lv_bipush (v := 48) hx hb dX5_digitAt_5 (by decide) ?_
  refine lv_isub hx hb dX5_digitAt_7 ?_
  subst hQ
  exact rt_i hx hb hr hlocks hS dX5_digitAt_8 (hP) (rfl)
