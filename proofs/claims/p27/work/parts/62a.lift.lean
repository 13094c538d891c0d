/-! Contracts in a bigger world, from a start that may throw -/
theorem at_map {ws w : va_W} {is : List Nat} (hs : is.map (fun i => ws[i]?) = w.map some) (k : Nat) (q : Nat × va_E) (hq : w[k]? = some q) : ∃ i, is[k]? = some i ∧ ws[i]? = some q := by
  have h1 : (is.map (fun i => ws[i]?))[k]? = some (some q) := by rw [hs, List.getElem?_map, hq]; rfl
  rw [List.getElem?_map] at h1
  cases hi : is[k]? with
  | none => rw [hi] at h1; cases h1
  | some i => rw [hi] at h1; exact ⟨i, rfl, Option.some.inj h1⟩
theorem fm_map {ws : va_W} : ∀ (is : List Nat) (w : va_W), is.map (fun i => ws[i]?) = w.map some → is.filterMap (fun i => ws[i]?) = w
  | [], [], _ => rfl
  | [], _ :: _, h => by cases h
  | _ :: _, [], h => by cases h
  | i :: is, x :: w, h => by
    rw [List.map_cons, List.map_cons] at h
    obtain ⟨h1, h2⟩ := List.cons.inj h
    rw [List.filterMap_cons, h1, fm_map is w h2]

def MYi (l : Launch) (y : MethodName) (wy : List Cond) (rm : Room) (D : va_G) (k : Nat → ClassId) (av : List Value) (ws : va_W) (r : Int32) (ws' : va_W) : Prop :=
  ∀ sz : Nat, Met l y wy rm (va_Pc av (Pr D k sz ws)) (va_Qi (fun r' (_ : Unit) => r' = r) (PoD D (va_A ws sz) ws') (va_A ws sz)) rm.cells rm.slots (va_A ws sz)
theorem MIi.lift {l : Launch} {y : MethodName} {wy : List Cond} {rm : Room} {D : va_G} {k : Nat → ClassId} {av : List Value} {ws wc wc' wr wn : va_W} {r : Int32}
    (h : ∀ sz : Nat, Met l y wy rm (va_Pc av (Pr D k sz wc)) (va_Qi (fun r' (_ : Unit) => r' = r) (PoD D (va_A wc sz) wc') (va_A wc sz)) rm.cells rm.slots (va_A wc sz))
    (isC isR isN : List Nat) (hC : isC.map (fun i => ws[i]?) = wc.map some) (hcn : va_nd isC = true) (hR : isR.map (fun i => ws[i]?) = wr.map some) (hn : va_nd isR = true) (hdis : isR.all (fun i => !isC.contains i) = true)
    (hN : isN.map (fun i => (wr ++ wc')[i]?) = wn.map some) (hnn : va_nd isN = true) : MYi l y wy rm D k av ws r wn := by
  intro sz
  have hsub : ∀ q, va_A wc sz q → va_A ws sz q := by
    rintro q (⟨k2, e, hk⟩ | hq)
    · obtain ⟨i, h1, h2⟩ := at_map hC k2 (q, e) hk
      exact Or.inl ⟨i, e, h2⟩
    · exact Or.inr hq
  refine MetFree.mono (h sz) ?_ (fun _ _ _ _ _ h => h) ?_
  · rintro a U ⟨rfl, h1, h2, h3, h4, h5⟩
    exact ⟨rfl, h1, h2, h3.sub isC (fm_map _ _ hC), h4, h5.sub isC hcn hC⟩
  · rintro a s o t hp ⟨⟨⟨r', u, h1, h2, h3, h4⟩, h5⟩, L, h6, h7⟩
    obtain ⟨-, -, p2, p3, p4, p5⟩ := hp
    subst p2
    obtain ⟨j1, j2⟩ := va_join (H := s.heap) (H1 := t.heap) p3 (p5.self (sz := s.heap.size)) isC isR hC hR hn (fun i hi hc => by have h3 := List.all_eq_true.mp hdis i hi; rw [List.contains_iff_mem.mpr hc] at h3; cases h3) h5.2 hsub h3 h4
    exact ⟨⟨⟨r', u, h1, h2, j1.sub isN (fm_map _ _ hN), j2.sub isN hnn hN⟩, h5.1, fun q a b => h5.2 q a (fun c => b (hsub q c))⟩, L, h6, fun q hq => hsub _ (h7 q hq)⟩
theorem MI.toD {l : Launch} {y : MethodName} {wy : List Cond} {rm : Room} {D : va_G} {k : Nat → ClassId} {av : List Value} {wc wc' : va_W} {r : Int32} (h : MI l y wy rm D k av wc r wc') (ads : List Nat) (h1 : wc'.map (fun q => q.1) = ads) (h2 : wc.map (fun q => q.1) = ads) :
    ∀ sz : Nat, Met l y wy rm (va_Pc av (Pr D k sz wc)) (va_Qi (fun r' (_ : Unit) => r' = r) (PoD D (va_A wc sz) wc') (va_A wc sz)) rm.cells rm.slots (va_A wc sz) := by
  intro sz
  refine MetFree.mono (h sz) (fun _ _ h => h) (fun _ _ _ _ _ h => h) ?_
  rintro a s o t hp ⟨⟨⟨r', u, g1, g2, g3⟩, g5⟩, L, g6, g7⟩
  obtain ⟨-, -, -, -, -, p5⟩ := hp
  exact ⟨⟨⟨r', u, g1, g2, g3, (p5.self (sz := sz)).addr (h1.trans h2.symm)⟩, g5⟩, L, g6, g7⟩

def MYl (l : Launch) (y : MethodName) (wy : List Cond) (rm : Room) (D : va_G) (k : Nat → ClassId) (av : List Value) (ws : va_W) (r : Int64) (ws' : va_W) : Prop :=
  ∀ sz : Nat, Met l y wy rm (va_Pc av (Pr D k sz ws)) (va_Ql (fun r' (_ : Unit) => r' = r) (PoD D (va_A ws sz) ws') (va_A ws sz)) rm.cells rm.slots (va_A ws sz)
theorem MIl.lift {l : Launch} {y : MethodName} {wy : List Cond} {rm : Room} {D : va_G} {k : Nat → ClassId} {av : List Value} {ws wc wc' wr wn : va_W} {r : Int64}
    (h : ∀ sz : Nat, Met l y wy rm (va_Pc av (Pr D k sz wc)) (va_Ql (fun r' (_ : Unit) => r' = r) (PoD D (va_A wc sz) wc') (va_A wc sz)) rm.cells rm.slots (va_A wc sz))
    (isC isR isN : List Nat) (hC : isC.map (fun i => ws[i]?) = wc.map some) (hcn : va_nd isC = true) (hR : isR.map (fun i => ws[i]?) = wr.map some) (hn : va_nd isR = true) (hdis : isR.all (fun i => !isC.contains i) = true)
    (hN : isN.map (fun i => (wr ++ wc')[i]?) = wn.map some) (hnn : va_nd isN = true) : MYl l y wy rm D k av ws r wn := by
  intro sz
  have hsub : ∀ q, va_A wc sz q → va_A ws sz q := by
    rintro q (⟨k2, e, hk⟩ | hq)
    · obtain ⟨i, h1, h2⟩ := at_map hC k2 (q, e) hk
      exact Or.inl ⟨i, e, h2⟩
    · exact Or.inr hq
  refine MetFree.mono (h sz) ?_ (fun _ _ _ _ _ h => h) ?_
  · rintro a U ⟨rfl, h1, h2, h3, h4, h5⟩
    exact ⟨rfl, h1, h2, h3.sub isC (fm_map _ _ hC), h4, h5.sub isC hcn hC⟩
  · rintro a s o t hp ⟨⟨⟨r', u, h1, h2, h3, h4⟩, h5⟩, L, h6, h7⟩
    obtain ⟨-, -, p2, p3, p4, p5⟩ := hp
    subst p2
    obtain ⟨j1, j2⟩ := va_join (H := s.heap) (H1 := t.heap) p3 (p5.self (sz := s.heap.size)) isC isR hC hR hn (fun i hi hc => by have h3 := List.all_eq_true.mp hdis i hi; rw [List.contains_iff_mem.mpr hc] at h3; cases h3) h5.2 hsub h3 h4
    exact ⟨⟨⟨r', u, h1, h2, j1.sub isN (fm_map _ _ hN), j2.sub isN hnn hN⟩, h5.1, fun q a b => h5.2 q a (fun c => b (hsub q c))⟩, L, h6, fun q hq => hsub _ (h7 q hq)⟩
theorem ML.toD {l : Launch} {y : MethodName} {wy : List Cond} {rm : Room} {D : va_G} {k : Nat → ClassId} {av : List Value} {wc wc' : va_W} {r : Int64} (h : ML l y wy rm D k av wc r wc') (ads : List Nat) (h1 : wc'.map (fun q => q.1) = ads) (h2 : wc.map (fun q => q.1) = ads) :
    ∀ sz : Nat, Met l y wy rm (va_Pc av (Pr D k sz wc)) (va_Ql (fun r' (_ : Unit) => r' = r) (PoD D (va_A wc sz) wc') (va_A wc sz)) rm.cells rm.slots (va_A wc sz) := by
  intro sz
  refine MetFree.mono (h sz) (fun _ _ h => h) (fun _ _ _ _ _ h => h) ?_
  rintro a s o t hp ⟨⟨⟨r', u, g1, g2, g3⟩, g5⟩, L, g6, g7⟩
  obtain ⟨-, -, -, -, -, p5⟩ := hp
  exact ⟨⟨⟨r', u, g1, g2, g3, (p5.self (sz := sz)).addr (h1.trans h2.symm)⟩, g5⟩, L, g6, g7⟩

def MYd (l : Launch) (y : MethodName) (wy : List Cond) (rm : Room) (D : va_G) (k : Nat → ClassId) (av : List Value) (ws : va_W) (r : UInt64) (ws' : va_W) : Prop :=
  ∀ sz : Nat, Met l y wy rm (va_Pc av (Pr D k sz ws)) (va_Qd (fun r' (_ : Unit) => r' = r) (PoD D (va_A ws sz) ws') (va_A ws sz)) rm.cells rm.slots (va_A ws sz)
theorem MId.lift {l : Launch} {y : MethodName} {wy : List Cond} {rm : Room} {D : va_G} {k : Nat → ClassId} {av : List Value} {ws wc wc' wr wn : va_W} {r : UInt64}
    (h : ∀ sz : Nat, Met l y wy rm (va_Pc av (Pr D k sz wc)) (va_Qd (fun r' (_ : Unit) => r' = r) (PoD D (va_A wc sz) wc') (va_A wc sz)) rm.cells rm.slots (va_A wc sz))
    (isC isR isN : List Nat) (hC : isC.map (fun i => ws[i]?) = wc.map some) (hcn : va_nd isC = true) (hR : isR.map (fun i => ws[i]?) = wr.map some) (hn : va_nd isR = true) (hdis : isR.all (fun i => !isC.contains i) = true)
    (hN : isN.map (fun i => (wr ++ wc')[i]?) = wn.map some) (hnn : va_nd isN = true) : MYd l y wy rm D k av ws r wn := by
  intro sz
  have hsub : ∀ q, va_A wc sz q → va_A ws sz q := by
    rintro q (⟨k2, e, hk⟩ | hq)
    · obtain ⟨i, h1, h2⟩ := at_map hC k2 (q, e) hk
      exact Or.inl ⟨i, e, h2⟩
    · exact Or.inr hq
  refine MetFree.mono (h sz) ?_ (fun _ _ _ _ _ h => h) ?_
  · rintro a U ⟨rfl, h1, h2, h3, h4, h5⟩
    exact ⟨rfl, h1, h2, h3.sub isC (fm_map _ _ hC), h4, h5.sub isC hcn hC⟩
  · rintro a s o t hp ⟨⟨⟨r', u, h1, h2, h3, h4⟩, h5⟩, L, h6, h7⟩
    obtain ⟨-, -, p2, p3, p4, p5⟩ := hp
    subst p2
    obtain ⟨j1, j2⟩ := va_join (H := s.heap) (H1 := t.heap) p3 (p5.self (sz := s.heap.size)) isC isR hC hR hn (fun i hi hc => by have h3 := List.all_eq_true.mp hdis i hi; rw [List.contains_iff_mem.mpr hc] at h3; cases h3) h5.2 hsub h3 h4
    exact ⟨⟨⟨r', u, h1, h2, j1.sub isN (fm_map _ _ hN), j2.sub isN hnn hN⟩, h5.1, fun q a b => h5.2 q a (fun c => b (hsub q c))⟩, L, h6, fun q hq => hsub _ (h7 q hq)⟩
theorem MD.toD {l : Launch} {y : MethodName} {wy : List Cond} {rm : Room} {D : va_G} {k : Nat → ClassId} {av : List Value} {wc wc' : va_W} {r : UInt64} (h : MD l y wy rm D k av wc r wc') (ads : List Nat) (h1 : wc'.map (fun q => q.1) = ads) (h2 : wc.map (fun q => q.1) = ads) :
    ∀ sz : Nat, Met l y wy rm (va_Pc av (Pr D k sz wc)) (va_Qd (fun r' (_ : Unit) => r' = r) (PoD D (va_A wc sz) wc') (va_A wc sz)) rm.cells rm.slots (va_A wc sz) := by
  intro sz
  refine MetFree.mono (h sz) (fun _ _ h => h) (fun _ _ _ _ _ h => h) ?_
  rintro a s o t hp ⟨⟨⟨r', u, g1, g2, g3⟩, g5⟩, L, g6, g7⟩
  obtain ⟨-, -, -, -, -, p5⟩ := hp
  exact ⟨⟨⟨r', u, g1, g2, g3, (p5.self (sz := sz)).addr (h1.trans h2.symm)⟩, g5⟩, L, g6, g7⟩
