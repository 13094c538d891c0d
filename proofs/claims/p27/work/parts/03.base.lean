/-! BASE: the shape of the contracts, a call's row, a return's row -/
section BASE
/-- the links to the private members of nest mates -/
def NL (U : State) : Prop :=
  va_Nw (.methodLinkNest RX4 11 yX1_init RX4) U ∧ va_Nw (.methodLinkNest RX4 32 yX2_init RX4) U ∧ va_Nw (.methodLinkNest RX2 17 yX1_init RX4) U ∧ va_Nw (.methodLinkNest RX4 39 yX3_init RX4) U ∧ va_Nw (.methodLinkNest RX3 20 yX1_init RX4) U ∧ va_Nw (.methodLinkNest RX4 46 yX0_init RX4) U ∧
  va_Nw (.methodLinkNest RX3 56 yX4_isPiece RX4) U ∧ va_Nw (.methodLinkNest RX3 60 yX4_bit RX4) U ∧ va_Nw (.methodLinkNest RX1 49 yX4_bit RX4) U ∧ va_Nw (.methodLinkNest RX1 49 yX4_bit RX4) U ∧ va_Nw (.methodLinkNest RX0 23 yX4_bit RX4) U ∧ va_Nw (.methodLinkNest RX0 35 yX4_isPiece RX4) U
theorem NL.warm {s U : State} (hW : s.WarmedH U.vm) (h : NL s) : NL U := by
  obtain ⟨h1, h2, h3, h4, h5, h6, h7, h8, h9, h10, h11, h12⟩ := h
  exact ⟨va_Nw.warmM hW h1, va_Nw.warmM hW h2, va_Nw.warmM hW h3, va_Nw.warmM hW h4, va_Nw.warmM hW h5, va_Nw.warmM hW h6, va_Nw.warmM hW h7, va_Nw.warmM hW h8, va_Nw.warmM hW h9, va_Nw.warmM hW h10, va_Nw.warmM hW h11, va_Nw.warmM hW h12⟩
theorem NL.same {u U : State} (e : u.vm = U.vm) (h : NL u) : NL U := by
  obtain ⟨h1, h2, h3, h4, h5, h6, h7, h8, h9, h10, h11, h12⟩ := h
  exact ⟨va_Nw.same rfl e h1, va_Nw.same rfl e h2, va_Nw.same rfl e h3, va_Nw.same rfl e h4, va_Nw.same rfl e h5, va_Nw.same rfl e h6, va_Nw.same rfl e h7, va_Nw.same rfl e h8, va_Nw.same rfl e h9, va_Nw.same rfl e h10, va_Nw.same rfl e h11, va_Nw.same rfl e h12⟩
/-- the arrays' kinds: int, boolean, State -/
abbrev TY (k : Nat → ClassId) : List (ClassId × FieldType) := [(k 0, .int), (k 1, .boolean), (k 2, .object RX1)]
/-- a method's start: its world -/
def Pr (D : va_G) (k : Nat → ClassId) (sz : Nat) (ws : va_W) : State → Prop := fun U => NL U ∧ U.heap.size = sz ∧ va_P D vwCl ws U.heap ∧ va_K D vwCl (TY k) U ∧ va_D (fun _ => True) ws
theorem pr_blind {av : List Value} {D : va_G} {k : Nat → ClassId} {sz : Nat} {ws : va_W} : FrameBlind (va_Pc av (Pr D k sz ws)) := fun a U g mk q => by
  obtain ⟨q0, q1, q2, q3, q4, q5⟩ := q
  exact ⟨q0, NL.same rfl q1, q2, q3, va_K.moved (u := U) (U := U.calling g mk a) (Vm.Alike.refl U.vm) q4, q5⟩
theorem pr_at {av : List Value} {D : va_G} {k : Nat → ClassId} {wc : va_W} {H : Heap} {s : State} {A : Nat → Prop} (hN : NL s) (hP : va_P D vwCl wc H) (hK : va_K D vwCl (TY k) s) (hD : va_D A wc) : ∀ U : State, U.heap = H → s.WarmedH U.vm → va_Pc av (Pr D k H.size wc) av.toArray U :=
  fun U hU hW => ⟨rfl, NL.warm hW hN, by rw [hU], by rw [hU]; exact hP, va_K.moved hW.alike hK, hD.weaken (fun _ _ _ _ => trivial)⟩
/-- a method's end: its world -/
def Po (D : va_G) (ws : va_W) : Unit → State → Prop := fun _ t => va_P D vwCl ws t.heap
/-- contracts: an int, nothing, a long, a double; the world ws becomes ws' -/
def MI (l : Launch) (y : MethodName) (wy : List Cond) (rm : Room) (D : va_G) (k : Nat → ClassId) (av : List Value) (ws : va_W) (r : Int32) (ws' : va_W) : Prop :=
  ∀ sz : Nat, Met l y wy rm (va_Pc av (Pr D k sz ws)) (va_Qi (fun r' (_ : Unit) => r' = r) (Po D ws') (va_A ws sz)) rm.cells rm.slots (va_A ws sz)
def MV (l : Launch) (y : MethodName) (wy : List Cond) (rm : Room) (D : va_G) (k : Nat → ClassId) (av : List Value) (ws : va_W) (ws' : va_W) : Prop :=
  ∀ sz : Nat, Met l y wy rm (va_Pc av (Pr D k sz ws)) (va_Qv (fun _ : Unit => True) (Po D ws') (va_A ws sz)) rm.cells rm.slots (va_A ws sz)
def ML (l : Launch) (y : MethodName) (wy : List Cond) (rm : Room) (D : va_G) (k : Nat → ClassId) (av : List Value) (ws : va_W) (r : Int64) (ws' : va_W) : Prop :=
  ∀ sz : Nat, Met l y wy rm (va_Pc av (Pr D k sz ws)) (va_Ql (fun r' (_ : Unit) => r' = r) (Po D ws') (va_A ws sz)) rm.cells rm.slots (va_A ws sz)
def MD (l : Launch) (y : MethodName) (wy : List Cond) (rm : Room) (D : va_G) (k : Nat → ClassId) (av : List Value) (ws : va_W) (r : UInt64) (ws' : va_W) : Prop :=
  ∀ sz : Nat, Met l y wy rm (va_Pc av (Pr D k sz ws)) (va_Qd (fun r' (_ : Unit) => r' = r) (Po D ws') (va_A ws sz)) rm.cells rm.slots (va_A ws sz)
/-- a method's end where the cells come back in another order -/
def PoD (D : va_G) (A : Nat → Prop) (ws : va_W) : Unit → State → Prop := fun _ t => va_P D vwCl ws t.heap ∧ va_D A ws
def MID (l : Launch) (y : MethodName) (wy : List Cond) (rm : Room) (D : va_G) (k : Nat → ClassId) (av : List Value) (ws : va_W) (r : Int32) (ws' : va_W) : Prop :=
  ∀ sz : Nat, Met l y wy rm (va_Pc av (Pr D k sz ws)) (va_Qi (fun r' (_ : Unit) => r' = r) (PoD D (va_A ws sz) ws') (va_A ws sz)) rm.cells rm.slots (va_A ws sz)
def MVD (l : Launch) (y : MethodName) (wy : List Cond) (rm : Room) (D : va_G) (k : Nat → ClassId) (av : List Value) (ws : va_W) (ws' : va_W) : Prop :=
  ∀ sz : Nat, Met l y wy rm (va_Pc av (Pr D k sz ws)) (va_Qv (fun _ : Unit => True) (PoD D (va_A ws sz) ws') (va_A ws sz)) rm.cells rm.slots (va_A ws sz)
theorem va_D.addr {A : Nat → Prop} {ws ws' : va_W} (hD : va_D A ws) (h : ws'.map (fun q => q.1) = ws.map (fun q => q.1)) : va_D A ws' := by
  have key : ∀ (k : Nat) (q : Nat × va_E), ws'[k]? = some q → ∃ q0, ws[k]? = some q0 ∧ q0.1 = q.1 := by
    intro k q hk
    have h1 : (ws'.map (fun q => q.1))[k]? = some q.1 := by rw [List.getElem?_map, hk]; rfl
    rw [h, List.getElem?_map] at h1
    cases hq : ws[k]? with
    | none => rw [hq] at h1; cases h1
    | some q0 => rw [hq] at h1; exact ⟨q0, rfl, Option.some.inj h1⟩
  refine ⟨fun i j x y hi hj hxy => ?_, fun k q hk => ?_⟩
  · obtain ⟨x0, h1, h2⟩ := key i x hi
    obtain ⟨y0, h3, h4⟩ := key j y hj
    exact hD.1 i j x0 y0 h1 h3 (h2.trans (hxy.trans h4.symm))
  · obtain ⟨q0, h1, h2⟩ := key k q hk
    rw [← h2]
    exact hD.2 k q0 h1
/-- behind a call that keeps the addresses of its world: wn has at the callee's places what came back, at the others what was -/
theorem cl_join {A0 : Nat → Prop} {D : va_G} {cl : List vw_C} {ws wc wc' wn : va_W} {H H1 : Heap} (hP : va_P D cl ws H) (hD : va_D A0 ws) (isC isR : List Nat) (N : Nat) (hC : isC.map (fun i => ws[i]?) = wc.map some) (h1 : isC.map (fun i => wn[i]?) = wc'.map some) (h2 : isR.map (fun i => wn[i]?) = isR.map (fun i => ws[i]?)) (hlen : wn.length = N) (hcov : (List.range N).all (fun k => isC.contains k || isR.contains k) = true)
    (hk : ∀ q : Nat, q < H.size → ¬ va_A wc H.size q → H1[q]? = H[q]?) (hP1 : va_P D cl wc' H1) : va_P D cl wn H1 := by
  intro k q hq
  by_cases hkC : k ∈ isC
  · obtain ⟨j, hj⟩ := List.getElem?_of_mem hkC
    have h3 : (isC.map (fun i => wn[i]?))[j]? = some (wn[k]?) := by rw [List.getElem?_map, hj]; rfl
    rw [h1, List.getElem?_map, hq] at h3
    cases hw : wc'[j]? with
    | none => rw [hw] at h3; cases h3
    | some x =>
      rw [hw] at h3
      have hx : x = q := Option.some.inj (Option.some.inj h3)
      exact hP1 j q (by rw [hw, hx])
  · have hl : k < N := by rw [← hlen]; exact (List.getElem?_eq_some_iff.mp hq).1
    have hc := List.all_eq_true.mp hcov k (List.mem_range.mpr hl)
    have hkR : k ∈ isR := by
      rcases Bool.or_eq_true_iff.mp hc with h | h
      · exact absurd (List.contains_iff_mem.mp h) hkC
      · exact List.contains_iff_mem.mp h
    obtain ⟨j, hj⟩ := List.getElem?_of_mem hkR
    have h3 : (isR.map (fun i => wn[i]?))[j]? = some (wn[k]?) := by rw [List.getElem?_map, hj]; rfl
    have h4 : (isR.map (fun i => ws[i]?))[j]? = some (ws[k]?) := by rw [List.getElem?_map, hj]; rfl
    rw [h2, h4] at h3
    have h5 : ws[k]? = some q := (Option.some.inj h3).trans hq
    refine (hP k q h5).kept (hk q.1 (hP k q h5).lt fun h => ?_)
    rcases h with ⟨k2, e, h⟩ | h
    · have h3 : (isC.map (fun i => ws[i]?))[k2]? = some (some (q.1, e)) := by rw [hC, List.getElem?_map, h]; rfl
      rw [List.getElem?_map] at h3
      cases hi : isC[k2]? with
      | none => rw [hi] at h3; cases h3
      | some i =>
        rw [hi] at h3
        have h4 := hD.1 k i q (q.1, e) h5 (Option.some.inj h3) rfl
        subst h4
        exact hkC (List.mem_of_getElem? hi)
    · exact absurd (hP k q h5).lt (by omega)
/-- behind a call that leaves its world as it was -/
theorem cl_same {A0 : Nat → Prop} {D : va_G} {cl : List vw_C} {ws wc : va_W} {H H1 : Heap} (hP : va_P D cl ws H) (hD : va_D A0 ws) (isC : List Nat) (hC : isC.map (fun i => ws[i]?) = wc.map some)
    (hk : ∀ q : Nat, q < H.size → ¬ va_A wc H.size q → H1[q]? = H[q]?) (hP1 : va_P D cl wc H1) : va_P D cl ws H1 := by
  intro k q hq
  by_cases hkC : k ∈ isC
  · obtain ⟨j, hj⟩ := List.getElem?_of_mem hkC
    have h3 : (isC.map (fun i => ws[i]?))[j]? = some (ws[k]?) := by rw [List.getElem?_map, hj]; rfl
    rw [hC, List.getElem?_map, hq] at h3
    cases hw : wc[j]? with
    | none => rw [hw] at h3; cases h3
    | some x =>
      rw [hw] at h3
      have hx : x = q := Option.some.inj (Option.some.inj h3)
      exact hP1 j q (by rw [hw, hx])
  · refine (hP k q hq).kept (hk q.1 (hP k q hq).lt fun h => ?_)
    rcases h with ⟨k2, e, h⟩ | h
    · have h3 : (isC.map (fun i => ws[i]?))[k2]? = some (some (q.1, e)) := by rw [hC, List.getElem?_map, h]; rfl
      rw [List.getElem?_map] at h3
      cases hi : isC[k2]? with
      | none => rw [hi] at h3; cases h3
      | some i =>
        rw [hi] at h3
        have h4 := hD.1 k i q (q.1, e) hq (Option.some.inj h3) rfl
        subst h4
        exact hkC (List.mem_of_getElem? hi)
    · exact absurd (hP k q hq).lt (by omega)
end BASE
section CLS
variable {p : Program} {l : Launch} {e : Env} {R : Room} {s : State} {m : MethodId} {args : Array Value} {below : List Frame} {meth : Method} {c : Code} {H : Heap} {locs : List Loc} {cells slots : Nat} {Q : State → Prop}
variable {pc : Nat} {ls : Array Slot} {rest st0 : List Value} {a : Array Value} {A0 : Nat → Prop} {H0 : Heap} {mc ms : Nat} {D : va_G} {ws wc wc' wn : va_W}
theorem cl_i {r : Int32} (hr : va_Run p l e R s m args below meth c H locs cells slots mc ms (F0 m pc ls st0) rest (va_Qi (fun r' (_ : Unit) => r' = r) (Po D wc') (va_A wc H.size) a) (va_A wc H.size)) (hP : va_P D vwCl ws H) (hD : va_D A0 ws) (hS : va_S A0 H0 H locs) (hA : ∀ q, H0.size ≤ q → A0 q)
    (isC isR : List Nat) (wr : va_W) (ads : List Nat) (N : Nat) (hC : isC.map (fun i => ws[i]?) = wc.map some) (h1 : isC.map (fun i => wn[i]?) = wc'.map some) (hR1 : isR.map (fun i => wn[i]?) = wr.map some) (hR2 : isR.map (fun i => ws[i]?) = wr.map some) (hlen : wn.length = N) (hcov : (List.range N).all (fun k => isC.contains k || isR.contains k) = true) (ha1 : wn.map (fun q => q.1) = ads) (ha2 : ws.map (fun q => q.1) = ads)
    (kk : ∀ (H1 : Heap) (locs1 : List Loc), va_P D vwCl wn H1 → va_D A0 wn → va_S A0 H0 H1 locs1 → W p l e R s m args below meth c H1 locs1 (cells + mc) (slots + ms) Q (F0 m (pc + 3) ls (.int r :: rest))) : W p l e R s m args below meth c H locs cells slots Q (F0 m pc ls st0) := by
  have hF := va_free (wc := wc) hD hS hA isC hC
  refine va_calli hr hS (fun q _ h => hF q h) hF (fun r' u t H1 locs1 ht hvm hw hB hz hk hS1 => ?_)
  subst hw
  have hP1 : va_P D vwCl wc' t.heap := hB
  rw [ht] at hP1
  exact kk H1 locs1 (cl_join hP hD isC isR N hC h1 (hR1.trans hR2.symm) hlen hcov hk hP1) (hD.addr (ha1.trans ha2.symm)) hS1
theorem cl_i0 {r : Int32} (hr : va_Run p l e R s m args below meth c H locs cells slots mc ms (F0 m pc ls st0) rest (va_Qi (fun r' (_ : Unit) => r' = r) (Po D wc) (va_A wc H.size) a) (va_A wc H.size)) (hP : va_P D vwCl ws H) (hD : va_D A0 ws) (hS : va_S A0 H0 H locs) (hA : ∀ q, H0.size ≤ q → A0 q)
    (isC : List Nat) (hC : isC.map (fun i => ws[i]?) = wc.map some)
    (kk : ∀ (H1 : Heap) (locs1 : List Loc), va_P D vwCl ws H1 → va_D A0 ws → va_S A0 H0 H1 locs1 → W p l e R s m args below meth c H1 locs1 (cells + mc) (slots + ms) Q (F0 m (pc + 3) ls (.int r :: rest))) : W p l e R s m args below meth c H locs cells slots Q (F0 m pc ls st0) := by
  have hF := va_free (wc := wc) hD hS hA isC hC
  refine va_calli hr hS (fun q _ h => hF q h) hF (fun r' u t H1 locs1 ht hvm hw hB hz hk hS1 => ?_)
  subst hw
  have hP1 : va_P D vwCl wc t.heap := hB
  rw [ht] at hP1
  exact kk H1 locs1 (cl_same hP hD isC hC hk hP1) hD hS1
theorem cl_l {r : Int64} (hr : va_Run p l e R s m args below meth c H locs cells slots mc ms (F0 m pc ls st0) rest (va_Ql (fun r' (_ : Unit) => r' = r) (Po D wc') (va_A wc H.size) a) (va_A wc H.size)) (hP : va_P D vwCl ws H) (hD : va_D A0 ws) (hS : va_S A0 H0 H locs) (hA : ∀ q, H0.size ≤ q → A0 q)
    (isC isR : List Nat) (wr : va_W) (ads : List Nat) (N : Nat) (hC : isC.map (fun i => ws[i]?) = wc.map some) (h1 : isC.map (fun i => wn[i]?) = wc'.map some) (hR1 : isR.map (fun i => wn[i]?) = wr.map some) (hR2 : isR.map (fun i => ws[i]?) = wr.map some) (hlen : wn.length = N) (hcov : (List.range N).all (fun k => isC.contains k || isR.contains k) = true) (ha1 : wn.map (fun q => q.1) = ads) (ha2 : ws.map (fun q => q.1) = ads)
    (kk : ∀ (H1 : Heap) (locs1 : List Loc), va_P D vwCl wn H1 → va_D A0 wn → va_S A0 H0 H1 locs1 → W p l e R s m args below meth c H1 locs1 (cells + mc) (slots + ms) Q (F0 m (pc + 3) ls (.long r :: rest))) : W p l e R s m args below meth c H locs cells slots Q (F0 m pc ls st0) := by
  have hF := va_free (wc := wc) hD hS hA isC hC
  refine va_calll hr hS (fun q _ h => hF q h) hF (fun r' u t H1 locs1 ht hvm hw hB hz hk hS1 => ?_)
  subst hw
  have hP1 : va_P D vwCl wc' t.heap := hB
  rw [ht] at hP1
  exact kk H1 locs1 (cl_join hP hD isC isR N hC h1 (hR1.trans hR2.symm) hlen hcov hk hP1) (hD.addr (ha1.trans ha2.symm)) hS1
theorem cl_l0 {r : Int64} (hr : va_Run p l e R s m args below meth c H locs cells slots mc ms (F0 m pc ls st0) rest (va_Ql (fun r' (_ : Unit) => r' = r) (Po D wc) (va_A wc H.size) a) (va_A wc H.size)) (hP : va_P D vwCl ws H) (hD : va_D A0 ws) (hS : va_S A0 H0 H locs) (hA : ∀ q, H0.size ≤ q → A0 q)
    (isC : List Nat) (hC : isC.map (fun i => ws[i]?) = wc.map some)
    (kk : ∀ (H1 : Heap) (locs1 : List Loc), va_P D vwCl ws H1 → va_D A0 ws → va_S A0 H0 H1 locs1 → W p l e R s m args below meth c H1 locs1 (cells + mc) (slots + ms) Q (F0 m (pc + 3) ls (.long r :: rest))) : W p l e R s m args below meth c H locs cells slots Q (F0 m pc ls st0) := by
  have hF := va_free (wc := wc) hD hS hA isC hC
  refine va_calll hr hS (fun q _ h => hF q h) hF (fun r' u t H1 locs1 ht hvm hw hB hz hk hS1 => ?_)
  subst hw
  have hP1 : va_P D vwCl wc t.heap := hB
  rw [ht] at hP1
  exact kk H1 locs1 (cl_same hP hD isC hC hk hP1) hD hS1
theorem cl_d {r : UInt64} (hr : va_Run p l e R s m args below meth c H locs cells slots mc ms (F0 m pc ls st0) rest (va_Qd (fun r' (_ : Unit) => r' = r) (Po D wc') (va_A wc H.size) a) (va_A wc H.size)) (hP : va_P D vwCl ws H) (hD : va_D A0 ws) (hS : va_S A0 H0 H locs) (hA : ∀ q, H0.size ≤ q → A0 q)
    (isC isR : List Nat) (wr : va_W) (ads : List Nat) (N : Nat) (hC : isC.map (fun i => ws[i]?) = wc.map some) (h1 : isC.map (fun i => wn[i]?) = wc'.map some) (hR1 : isR.map (fun i => wn[i]?) = wr.map some) (hR2 : isR.map (fun i => ws[i]?) = wr.map some) (hlen : wn.length = N) (hcov : (List.range N).all (fun k => isC.contains k || isR.contains k) = true) (ha1 : wn.map (fun q => q.1) = ads) (ha2 : ws.map (fun q => q.1) = ads)
    (kk : ∀ (H1 : Heap) (locs1 : List Loc), va_P D vwCl wn H1 → va_D A0 wn → va_S A0 H0 H1 locs1 → W p l e R s m args below meth c H1 locs1 (cells + mc) (slots + ms) Q (F0 m (pc + 3) ls (.double r :: rest))) : W p l e R s m args below meth c H locs cells slots Q (F0 m pc ls st0) := by
  have hF := va_free (wc := wc) hD hS hA isC hC
  refine va_calld hr hS (fun q _ h => hF q h) hF (fun r' u t H1 locs1 ht hvm hw hB hz hk hS1 => ?_)
  subst hw
  have hP1 : va_P D vwCl wc' t.heap := hB
  rw [ht] at hP1
  exact kk H1 locs1 (cl_join hP hD isC isR N hC h1 (hR1.trans hR2.symm) hlen hcov hk hP1) (hD.addr (ha1.trans ha2.symm)) hS1
theorem cl_d0 {r : UInt64} (hr : va_Run p l e R s m args below meth c H locs cells slots mc ms (F0 m pc ls st0) rest (va_Qd (fun r' (_ : Unit) => r' = r) (Po D wc) (va_A wc H.size) a) (va_A wc H.size)) (hP : va_P D vwCl ws H) (hD : va_D A0 ws) (hS : va_S A0 H0 H locs) (hA : ∀ q, H0.size ≤ q → A0 q)
    (isC : List Nat) (hC : isC.map (fun i => ws[i]?) = wc.map some)
    (kk : ∀ (H1 : Heap) (locs1 : List Loc), va_P D vwCl ws H1 → va_D A0 ws → va_S A0 H0 H1 locs1 → W p l e R s m args below meth c H1 locs1 (cells + mc) (slots + ms) Q (F0 m (pc + 3) ls (.double r :: rest))) : W p l e R s m args below meth c H locs cells slots Q (F0 m pc ls st0) := by
  have hF := va_free (wc := wc) hD hS hA isC hC
  refine va_calld hr hS (fun q _ h => hF q h) hF (fun r' u t H1 locs1 ht hvm hw hB hz hk hS1 => ?_)
  subst hw
  have hP1 : va_P D vwCl wc t.heap := hB
  rw [ht] at hP1
  exact kk H1 locs1 (cl_same hP hD isC hC hk hP1) hD hS1
theorem cl_v (hr : va_Run p l e R s m args below meth c H locs cells slots mc ms (F0 m pc ls st0) rest (va_Qv (fun _ : Unit => True) (Po D wc') (va_A wc H.size) a) (va_A wc H.size)) (hP : va_P D vwCl ws H) (hD : va_D A0 ws) (hS : va_S A0 H0 H locs) (hA : ∀ q, H0.size ≤ q → A0 q)
    (isC isR : List Nat) (wr : va_W) (ads : List Nat) (N : Nat) (hC : isC.map (fun i => ws[i]?) = wc.map some) (h1 : isC.map (fun i => wn[i]?) = wc'.map some) (hR1 : isR.map (fun i => wn[i]?) = wr.map some) (hR2 : isR.map (fun i => ws[i]?) = wr.map some) (hlen : wn.length = N) (hcov : (List.range N).all (fun k => isC.contains k || isR.contains k) = true) (ha1 : wn.map (fun q => q.1) = ads) (ha2 : ws.map (fun q => q.1) = ads)
    (kk : ∀ (H1 : Heap) (locs1 : List Loc), va_P D vwCl wn H1 → va_D A0 wn → va_S A0 H0 H1 locs1 → W p l e R s m args below meth c H1 locs1 (cells + mc) (slots + ms) Q (F0 m (pc + 3) ls rest)) : W p l e R s m args below meth c H locs cells slots Q (F0 m pc ls st0) := by
  have hF := va_free (wc := wc) hD hS hA isC hC
  refine va_callv hr hS (fun q _ h => hF q h) hF (fun u t H1 locs1 ht hvm hw hB hz hk hS1 => ?_)
  have hP1 : va_P D vwCl wc' t.heap := hB
  rw [ht] at hP1
  exact kk H1 locs1 (cl_join hP hD isC isR N hC h1 (hR1.trans hR2.symm) hlen hcov hk hP1) (hD.addr (ha1.trans ha2.symm)) hS1
theorem cl_v0 (hr : va_Run p l e R s m args below meth c H locs cells slots mc ms (F0 m pc ls st0) rest (va_Qv (fun _ : Unit => True) (Po D wc) (va_A wc H.size) a) (va_A wc H.size)) (hP : va_P D vwCl ws H) (hD : va_D A0 ws) (hS : va_S A0 H0 H locs) (hA : ∀ q, H0.size ≤ q → A0 q)
    (isC : List Nat) (hC : isC.map (fun i => ws[i]?) = wc.map some)
    (kk : ∀ (H1 : Heap) (locs1 : List Loc), va_P D vwCl ws H1 → va_D A0 ws → va_S A0 H0 H1 locs1 → W p l e R s m args below meth c H1 locs1 (cells + mc) (slots + ms) Q (F0 m (pc + 3) ls rest)) : W p l e R s m args below meth c H locs cells slots Q (F0 m pc ls st0) := by
  have hF := va_free (wc := wc) hD hS hA isC hC
  refine va_callv hr hS (fun q _ h => hF q h) hF (fun u t H1 locs1 ht hvm hw hB hz hk hS1 => ?_)
  have hP1 : va_P D vwCl wc t.heap := hB
  rw [ht] at hP1
  exact kk H1 locs1 (cl_same hP hD isC hC hk hP1) hD hS1
theorem cl_iD {wr : va_W} {r : Int32} (hr : va_Run p l e R s m args below meth c H locs cells slots mc ms (F0 m pc ls st0) rest (va_Qi (fun r' (_ : Unit) => r' = r) (PoD D (va_A wc H.size) wc') (va_A wc H.size) a) (va_A wc H.size)) (hP : va_P D vwCl ws H) (hD : va_D A0 ws) (hS : va_S A0 H0 H locs) (hA : ∀ q, H0.size ≤ q → A0 q)
    (isC isR : List Nat) (hC : isC.map (fun i => ws[i]?) = wc.map some) (hR : isR.map (fun i => ws[i]?) = wr.map some) (hn : va_nd isR = true) (hdis : isR.all (fun i => !isC.contains i) = true)
    (kk : ∀ (H1 : Heap) (locs1 : List Loc), va_P D vwCl (wr ++ wc') H1 → va_D A0 (wr ++ wc') → va_S A0 H0 H1 locs1 → W p l e R s m args below meth c H1 locs1 (cells + mc) (slots + ms) Q (F0 m (pc + 3) ls (.int r :: rest))) : W p l e R s m args below meth c H locs cells slots Q (F0 m pc ls st0) := by
  have hF := va_free (wc := wc) hD hS hA isC hC
  refine va_calli hr hS (fun q _ h => hF q h) hF (fun r' u t H1 locs1 ht hvm hw hB hz hk hS1 => ?_)
  subst hw
  obtain ⟨hP1, hD1⟩ : va_P D vwCl wc' t.heap ∧ va_D (va_A wc H.size) wc' := hB
  rw [ht] at hP1
  obtain ⟨h1, h2⟩ := va_join hP hD isC isR hC hR hn (fun i hi hc => by have h3 := List.all_eq_true.mp hdis i hi; rw [List.contains_iff_mem.mpr hc] at h3; cases h3) hk hF hP1 hD1
  exact kk H1 locs1 h1 h2 hS1
theorem cl_vD {wr : va_W} (hr : va_Run p l e R s m args below meth c H locs cells slots mc ms (F0 m pc ls st0) rest (va_Qv (fun _ : Unit => True) (PoD D (va_A wc H.size) wc') (va_A wc H.size) a) (va_A wc H.size)) (hP : va_P D vwCl ws H) (hD : va_D A0 ws) (hS : va_S A0 H0 H locs) (hA : ∀ q, H0.size ≤ q → A0 q)
    (isC isR : List Nat) (hC : isC.map (fun i => ws[i]?) = wc.map some) (hR : isR.map (fun i => ws[i]?) = wr.map some) (hn : va_nd isR = true) (hdis : isR.all (fun i => !isC.contains i) = true)
    (kk : ∀ (H1 : Heap) (locs1 : List Loc), va_P D vwCl (wr ++ wc') H1 → va_D A0 (wr ++ wc') → va_S A0 H0 H1 locs1 → W p l e R s m args below meth c H1 locs1 (cells + mc) (slots + ms) Q (F0 m (pc + 3) ls rest)) : W p l e R s m args below meth c H locs cells slots Q (F0 m pc ls st0) := by
  have hF := va_free (wc := wc) hD hS hA isC hC
  refine va_callv hr hS (fun q _ h => hF q h) hF (fun u t H1 locs1 ht hvm hw hB hz hk hS1 => ?_)
  obtain ⟨hP1, hD1⟩ : va_P D vwCl wc' t.heap ∧ va_D (va_A wc H.size) wc' := hB
  rw [ht] at hP1
  obtain ⟨h1, h2⟩ := va_join hP hD isC isR hC hR hn (fun i hi hc => by have h3 := List.all_eq_true.mp hdis i hi; rw [List.contains_iff_mem.mpr hc] at h3; cases h3) hk hF hP1 hD1
  exact kk H1 locs1 h1 h2 hS1
/-- the ends -/
theorem rt_iD {cc : ByteArray} {v r : Int32} {A : Nat → Prop} {cells slots : Nat} (hx : p.tables.exec = Jvm.exec) (hb : c.code = cc) (hr : meth.sig.returnType = some .int) (hlocks : meth.locks = false) (hS : va_S A s.heap H locs) (hd : decode cc pc = .ok (.ireturn, 1)) (hP : va_P D vwCl wn H) (hD : va_D A wn) (hv : v = r) :
    W p l e R s m args below meth c H locs cells slots (MQ below (va_Qi (fun r' (_ : Unit) => r' = r) (PoD D A wn) A) args s cells slots A) (F0 m pc ls [.int v]) :=
  W.iret (v := v) hx hb hr (fun t ht hW => ⟨⟨v, (), rfl, hv, by show va_P D vwCl wn t.heap; rw [ht]; exact hP, hD⟩, hS.F ht⟩) hS.2.2 hd
theorem rt_vD {cc : ByteArray} {A : Nat → Prop} {cells slots : Nat} (hx : p.tables.exec = Jvm.exec) (hb : c.code = cc) (hr : meth.sig.returnType = none) (hlocks : meth.locks = false) (hS : va_S A s.heap H locs) (hd : decode cc pc = .ok (.return_, 1)) (hP : va_P D vwCl wn H) (hD : va_D A wn) :
    W p l e R s m args below meth c H locs cells slots (MQ below (va_Qv (fun _ : Unit => True) (PoD D A wn) A) args s cells slots A) (F0 m pc ls []) :=
  W.vret hx hb hr (fun t ht hW => ⟨⟨(), rfl, trivial, by show va_P D vwCl wn t.heap; rw [ht]; exact hP, hD⟩, hS.F ht⟩) hS.2.2 hd
theorem rt_i {cc : ByteArray} {v r : Int32} {A : Nat → Prop} {cells slots : Nat} (hx : p.tables.exec = Jvm.exec) (hb : c.code = cc) (hr : meth.sig.returnType = some .int) (hlocks : meth.locks = false) (hS : va_S A s.heap H locs) (hd : decode cc pc = .ok (.ireturn, 1)) (hP : va_P D vwCl wn H) (hv : v = r) :
    W p l e R s m args below meth c H locs cells slots (MQ below (va_Qi (fun r' (_ : Unit) => r' = r) (Po D wn) A) args s cells slots A) (F0 m pc ls [.int v]) :=
  W.iret (v := v) hx hb hr (fun t ht hW => ⟨⟨v, (), rfl, hv, by show va_P D vwCl wn t.heap; rw [ht]; exact hP⟩, hS.F ht⟩) hS.2.2 hd
theorem rt_z {cc : ByteArray} {v r : Int32} {A : Nat → Prop} {cells slots : Nat} (hx : p.tables.exec = Jvm.exec) (hb : c.code = cc) (hr : meth.sig.returnType = some .boolean) (hlocks : meth.locks = false) (hS : va_S A s.heap H locs) (hd : decode cc pc = .ok (.ireturn, 1)) (hP : va_P D vwCl wn H) (hn : narrow .boolean (.int v) = .int v) (hv : v = r) :
    W p l e R s m args below meth c H locs cells slots (MQ below (va_Qi (fun r' (_ : Unit) => r' = r) (Po D wn) A) args s cells slots A) (F0 m pc ls [.int v]) :=
  W.zret (v := v) hx hb hr hn (fun t ht hW => ⟨⟨v, (), rfl, hv, by show va_P D vwCl wn t.heap; rw [ht]; exact hP⟩, hS.F ht⟩) hS.2.2 hd
theorem rt_l {cc : ByteArray} {v r : Int64} {A : Nat → Prop} {cells slots : Nat} (hx : p.tables.exec = Jvm.exec) (hb : c.code = cc) (hr : meth.sig.returnType = some .long) (hlocks : meth.locks = false) (hS : va_S A s.heap H locs) (hd : decode cc pc = .ok (.lreturn, 1)) (hP : va_P D vwCl wn H) (hv : v = r) :
    W p l e R s m args below meth c H locs cells slots (MQ below (va_Ql (fun r' (_ : Unit) => r' = r) (Po D wn) A) args s cells slots A) (F0 m pc ls [.long v]) :=
  W.lret (v := v) hx hb hr (fun t ht hW => ⟨⟨v, (), rfl, hv, by show va_P D vwCl wn t.heap; rw [ht]; exact hP⟩, hS.F ht⟩) hS.2.2 hd
theorem rt_d {cc : ByteArray} {v r : UInt64} {A : Nat → Prop} {cells slots : Nat} (hx : p.tables.exec = Jvm.exec) (hb : c.code = cc) (hr : meth.sig.returnType = some .double) (hlocks : meth.locks = false) (hS : va_S A s.heap H locs) (hd : decode cc pc = .ok (.dreturn, 1)) (hP : va_P D vwCl wn H) (hv : v = r) :
    W p l e R s m args below meth c H locs cells slots (MQ below (va_Qd (fun r' (_ : Unit) => r' = r) (Po D wn) A) args s cells slots A) (F0 m pc ls [.double v]) :=
  W.dret (v := v) hx hb hr (fun t ht hW => ⟨⟨v, (), rfl, hv, by show va_P D vwCl wn t.heap; rw [ht]; exact hP⟩, hS.F ht⟩) hS.2.2 hd
theorem rt_v {cc : ByteArray} {A : Nat → Prop} {cells slots : Nat} (hx : p.tables.exec = Jvm.exec) (hb : c.code = cc) (hr : meth.sig.returnType = none) (hlocks : meth.locks = false) (hS : va_S A s.heap H locs) (hd : decode cc pc = .ok (.return_, 1)) (hP : va_P D vwCl wn H) :
    W p l e R s m args below meth c H locs cells slots (MQ below (va_Qv (fun _ : Unit => True) (Po D wn) A) args s cells slots A) (F0 m pc ls []) :=
  W.vret hx hb hr (fun t ht hW => ⟨⟨(), rfl, trivial, by show va_P D vwCl wn t.heap; rw [ht]; exact hP⟩, hS.F ht⟩) hS.2.2 hd
/-- rows of arrays, with the place as a number -/
theorem ar_ld {cc : ByteArray} {k : Nat → ClassId} (hx : p.tables.exec = Jvm.exec) (hb : c.code = cc) (hK : va_K D vwCl (TY k) s) (hP : va_P D vwCl ws H) (q0 : Nat) {ad n : Nat} {f : Nat → Int32} (ha : ws[q0]? = some (ad, .inl (k 0, n, .inl f))) {i : Int32} (j : Nat) (hj : i.toNatClampNeg = j) (hin : vp_in i n) (hdg : decode cc pc = .ok (.iaload, 1))
    (kk : W p l e R s m args below meth c H locs cells slots Q (F0 m (pc + 1) ls (.int (f j) :: rest))) : W p l e R s m args below meth c H locs cells slots Q (F0 m pc ls (.int i :: .ref ad :: rest)) := by
  subst hj
  exact va_iald hx hb hK hP q0 0 ha rfl hin hdg kk
theorem ar_st {cc : ByteArray} {k : Nat → ClassId} {A : Nat → Prop} (hx : p.tables.exec = Jvm.exec) (hb : c.code = cc) (hK : va_K D vwCl (TY k) s) (hP : va_P D vwCl ws H) (hD : va_D A ws) (hS : va_S A H0 H locs) (q0 : Nat) {ad n : Nat} {f : Nat → Int32} (ha : ws[q0]? = some (ad, .inl (k 0, n, .inl f))) {i x : Int32} (j : Nat) (hj : i.toNatClampNeg = j) (hin : vp_in i n) (hdg : decode cc pc = .ok (.iastore, 1))
    (hN : ws.set q0 (ad, .inl (k 0, n, .inl (upd f j x))) = wn)
    (kk : ∀ (H1 : Heap) (locs1 : List Loc), va_P D vwCl wn H1 → va_D A wn → va_S A H0 H1 locs1 → W p l e R s m args below meth c H1 locs1 cells slots Q (F0 m (pc + 1) ls rest)) : W p l e R s m args below meth c H locs cells slots Q (F0 m pc ls (.int x :: .int i :: .ref ad :: rest)) := by
  subst hj
  subst hN
  exact va_iast hx hb hK hP hD hS q0 0 ha rfl hin hdg kk
theorem ar_zld {cc : ByteArray} {k : Nat → ClassId} (hx : p.tables.exec = Jvm.exec) (hb : c.code = cc) (hK : va_K D vwCl (TY k) s) (hP : va_P D vwCl ws H) (q0 : Nat) {ad n : Nat} {f : Nat → Int32} (ha : ws[q0]? = some (ad, .inl (k 1, n, .inl f))) {i : Int32} (j : Nat) (hj : i.toNatClampNeg = j) (hin : vp_in i n) (hdg : decode cc pc = .ok (.baload, 1))
    (kk : W p l e R s m args below meth c H locs cells slots Q (F0 m (pc + 1) ls (.int (f j) :: rest))) : W p l e R s m args below meth c H locs cells slots Q (F0 m pc ls (.int i :: .ref ad :: rest)) := by
  subst hj
  exact va_zald hx hb hK hP q0 1 ha rfl hin hdg kk
theorem ar_qld {cc : ByteArray} {k : Nat → ClassId} (hx : p.tables.exec = Jvm.exec) (hb : c.code = cc) (hK : va_K D vwCl (TY k) s) (hP : va_P D vwCl ws H) (q0 : Nat) {ad n : Nat} {f : Nat → Option Nat} (ha : ws[q0]? = some (ad, .inl (k 2, n, .inr (.inr (.inr (.inr f)))))) {i : Int32} (j : Nat) (hj : i.toNatClampNeg = j) (hin : vp_in i n) (v : Nat) (hv : f j = some v) (hdg : decode cc pc = .ok (.aaload, 1))
    (kk : W p l e R s m args below meth c H locs cells slots Q (F0 m (pc + 1) ls (.ref v :: rest))) : W p l e R s m args below meth c H locs cells slots Q (F0 m pc ls (.int i :: .ref ad :: rest)) := by
  subst hj
  refine va_aldq hx hb hK hP q0 2 ha rfl hin hdg ?_
  rw [hv]
  exact kk
theorem ar_qst {cc : ByteArray} {k : Nat → ClassId} {A : Nat → Prop} (hx : p.tables.exec = Jvm.exec) (hb : c.code = cc) (hK : va_K D vwCl (TY k) s) (hP : va_P D vwCl ws H) (hD : va_D A ws) (hS : va_S A H0 H locs) (q0 qk : Nat) {ad n v : Nat} {vs : List Value} {f : Nat → Option Nat} (ha : ws[q0]? = some (ad, .inl (k 2, n, .inr (.inr (.inr (.inr f)))))) (hv : ws[qk]? = some (v, .inr (1, vs))) {i : Int32} (j : Nat) (hj : i.toNatClampNeg = j) (hin : vp_in i n) (hdg : decode cc pc = .ok (.aastore, 1))
    (hN : ws.set q0 (ad, .inl (k 2, n, .inr (.inr (.inr (.inr (va_up f j (some v))))))) = wn)
    (kk : ∀ (H1 : Heap) (locs1 : List Loc), va_P D vwCl wn H1 → va_D A wn → va_S A H0 H1 locs1 → W p l e R s m args below meth c H1 locs1 cells slots Q (F0 m (pc + 1) ls rest)) : W p l e R s m args below meth c H locs cells slots Q (F0 m pc ls (.ref v :: .int i :: .ref ad :: rest)) := by
  subst hj
  subst hN
  exact va_astq hx hb hK hP hD hS q0 2 qk 1 (r := (RX1, TX1, 10)) ha rfl hv rfl hin hdg kk
theorem ar_zst {cc : ByteArray} {k : Nat → ClassId} {A : Nat → Prop} (hx : p.tables.exec = Jvm.exec) (hb : c.code = cc) (hK : va_K D vwCl (TY k) s) (hP : va_P D vwCl ws H) (hD : va_D A ws) (hS : va_S A H0 H locs) (q0 : Nat) {ad n : Nat} {f : Nat → Int32} (ha : ws[q0]? = some (ad, .inl (k 1, n, .inl f))) {i x : Int32} (j : Nat) (hj : i.toNatClampNeg = j) (hin : vp_in i n) (hx1 : vp_nar .boolean x = x) (hdg : decode cc pc = .ok (.bastore, 1))
    (hN : ws.set q0 (ad, .inl (k 1, n, .inl (upd f j x))) = wn)
    (kk : ∀ (H1 : Heap) (locs1 : List Loc), va_P D vwCl wn H1 → va_D A wn → va_S A H0 H1 locs1 → W p l e R s m args below meth c H1 locs1 cells slots Q (F0 m (pc + 1) ls rest)) : W p l e R s m args below meth c H locs cells slots Q (F0 m pc ls (.int x :: .int i :: .ref ad :: rest)) := by
  subst hj
  subst hN
  rw [← hx1] at kk
  refine va_zast hx hb hK hP hD hS q0 1 ha rfl hin hdg (fun H1 locs1 h1 h2 h3 => ?_)
  rw [hx1] at h1 h2 kk
  exact kk H1 locs1 h1 h2 h3
end CLS
/-- an array's contents may be told by any numbers that are the same in its places -/
theorem va_P.ext {D : va_G} {cl : List vw_C} {A : Nat → Prop} {ws : va_W} {H : Heap} (h : va_P D cl ws H) (hD : va_D A ws) (q0 : Nat) {ad n : Nat} {cA : ClassId} {f : Nat → Int32} (hq : ws[q0]? = some (ad, .inl (cA, n, .inl f))) (g : Nat → Int32) (hfg : ∀ j : Nat, j < n → f j = g j) : va_P D cl (ws.set q0 (ad, .inl (cA, n, .inl g))) H := by
  refine h.set hD hq ?_ (fun q _ => rfl)
  have h1 : H[ad]? = some (vp_cell cA (n, .inl f)) := h q0 _ hq
  show H[ad]? = some (vp_cell cA (n, .inl g))
  rw [h1, vp_cell_i, vp_cell_i]
  unfold arrV
  congr 2
  apply congrArg
  funext j
  show Value.int (f j.val) = Value.int (g j.val)
  rw [hfg j.val j.isLt]
theorem va_P.extq {D : va_G} {cl : List vw_C} {A : Nat → Prop} {ws : va_W} {H : Heap} (h : va_P D cl ws H) (hD : va_D A ws) (q0 : Nat) {ad n : Nat} {cA : ClassId} {f : Nat → Option Nat} (hq : ws[q0]? = some (ad, .inl (cA, n, .inr (.inr (.inr (.inr f)))))) (g : Nat → Option Nat) (hfg : ∀ j : Nat, j < n → f j = g j) : va_P D cl (ws.set q0 (ad, .inl (cA, n, .inr (.inr (.inr (.inr g)))))) H := by
  refine h.set hD hq ?_ (fun q _ => rfl)
  have h1 : H[ad]? = some (vp_cell cA (n, .inr (.inr (.inr (.inr f))))) := h q0 _ hq
  show H[ad]? = some (vp_cell cA (n, .inr (.inr (.inr (.inr g)))))
  rw [h1, vp_cell_q, vp_cell_q]
  unfold arrV
  congr 2
  apply congrArg
  funext j
  show va_rf (f j.val) = va_rf (g j.val)
  rw [hfg j.val j.isLt]
/-- a row filled from its start -/
def fil (g f : Nat → Int32) (n : Nat) : Nat → Int32 := fun j => if j < n then g j else f j
theorem fil_0 (g f : Nat → Int32) : fil g f 0 = f := by funext j; simp [fil]
theorem fil_s (g f : Nat → Int32) (i : Nat) : upd (fil g f i) i (g i) = fil g f (i + 1) := by
  funext j
  unfold upd fil
  by_cases h : j = i
  · subst h; simp
  · by_cases h2 : j < i
    · rw [if_neg h, if_pos h2, if_pos (by omega)]
    · rw [if_neg h, if_neg h2, if_neg (by omega)]
theorem fil_in (g f : Nat → Int32) (n : Nat) : ∀ j : Nat, j < n → fil g f n j = g j := fun _ h => if_pos h
/-- a State out of its rows -/
def mkS (f0 f1 f2 f3 f4 f5 f6 f7 : Nat → Int32) : Nat → Nat → Int32 := fun q => match q with
  | 0 => f0 | 1 => f1 | 2 => f2 | 3 => f3 | 4 => f4 | 5 => f5 | 6 => f6 | _ => f7
def cnt (x y z : Int32) : Nat → Int32 := fun j => match j with
  | 0 => x | 1 => y | _ => z
section BASE2
variable {p : Program} {l : Launch} {e : Env} {R : Room} {s : State} {m : MethodId} {args : Array Value} {below : List Frame} {meth : Method} {c : Code} {H : Heap} {locs : List Loc} {cells slots : Nat} {Q : State → Prop} {pc : Nat} {ls : Array Slot} {rest : List Value}
theorem tp_e {x y : Int32} (h : x = y) (kk : W p l e R s m args below meth c H locs cells slots Q (F0 m pc ls (.int y :: rest))) : W p l e R s m args below meth c H locs cells slots Q (F0 m pc ls (.int x :: rest)) := by rw [h]; exact kk
theorem absQ {g : JFrame} (h : ∀ Q' : State → Prop, Q' = Q → W p l e R s m args below meth c H locs cells slots Q' g) : W p l e R s m args below meth c H locs cells slots Q g := h Q rfl
end BASE2
/-- a truth value as an int -/
def bI (b : Bool) : Int32 := if b = true then 1 else 0
theorem bI_eq {b : Bool} : bI b = 0 ↔ b = false := by cases b <;> simp [bI]
theorem bI_ne {b : Bool} : ¬ bI b = 0 ↔ b = true := by cases b <;> simp [bI]
theorem bI_nar (b : Bool) : narrow .boolean (.int (bI b)) = .int (bI b) := by cases b <;> rfl
/-- the bit of a mask at a place, as Java has it -/
def bitv (m p : Int32) : Int32 := (m >>> (p &&& 31)) &&& 1
def pcB (p : Int32) : Bool := decide (¬ p < 0 ∧ ¬ (9 : Int32) ≤ p)
/-- a State's cells -/
abbrev wSt (k : Nat → ClassId) (a : Nat → Nat) (S : Nat → Nat → Int32) : va_W :=
  [(a 0, .inr (1, [.ref (a 1), .ref (a 2), .ref (a 3), .ref (a 4), .ref (a 5), .ref (a 6), .ref (a 7), .int (S 7 0), .int (S 7 1), .int (S 7 2)])),
   (a 1, .inl (k 0, 9, .inl (S 0))), (a 2, .inl (k 0, 9, .inl (S 1))), (a 3, .inl (k 0, 9, .inl (S 2))), (a 4, .inl (k 0, 9, .inl (S 3))), (a 5, .inl (k 0, 9, .inl (S 4))), (a 6, .inl (k 0, 12, .inl (S 5))), (a 7, .inl (k 0, 12, .inl (S 6)))]
