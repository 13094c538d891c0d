/-! Methods that throw: what a throw rests on -/
def xS : List (Nat × String) := [(111, "a code is 33 to 126"), (118, "the buffer is full"), (132, "the buffer does not tell a graph"), (146, "a slot is 0 or 1"), (152, "no snapshot in the slot"), (157, "no saved state"), (187, "a property is 0 to 7"), (189, "a rank is from 0, a number 0 to 2"), (219, "a number is 0 to 11"), (221, "a number is 0 or 1"), (229, "a rank is from 0"), (61, "no such piece"), (68, "a cover is 0 to 999"), (80, "a join is to a greater piece"), (89, "a mark is 0 to 3"), (91, "a piece does not bar itself")]
def XP (U : State) : Prop :=
  (va_Nw (.castable "java/lang/IndexOutOfBoundsException" "java/lang/IndexOutOfBoundsException") U ∧ va_Nw (.castable "java/lang/IllegalArgumentException" "java/lang/IllegalArgumentException") U ∧ va_Nw (.castable "java/lang/IllegalStateException" "java/lang/IllegalStateException") U ∧ va_Nw (.declares (Bundle.initS "java/lang/RuntimeException")) U ∧ va_Nw (.declares (Bundle.initS "java/lang/Exception")) U ∧ va_Nw (.declares (Bundle.initS Bundle.tN)) U) ∧ va_Nc "java/lang/IllegalArgumentException" "java/lang/IndexOutOfBoundsException" U ∧ va_Nc "java/lang/IllegalStateException" "java/lang/IllegalArgumentException" U ∧ ∀ q ∈ xS, ∃ sa, vk_R RX4 q.1 q.2 sa U
theorem XP.warm {s U : State} (hW : s.WarmedH U.vm) (h : XP s) : XP U := by
  obtain ⟨⟨h1, h2, h3, h7, h8, h9⟩, h4, h5, h6⟩ := h
  exact ⟨⟨va_Nw.warmC hW h1, va_Nw.warmC hW h2, va_Nw.warmC hW h3, va_Nw.warmD hW h7, va_Nw.warmD hW h8, va_Nw.warmD hW h9⟩, va_Nc.moved hW.alike h4, va_Nc.moved hW.alike h5, fun q hq => (h6 q hq).imp (fun sa h => vk_R.warm hW h)⟩
theorem XP.same {u U : State} (e : u.vm = U.vm) (h : XP u) : XP U := by
  obtain ⟨⟨h1, h2, h3, h7, h8, h9⟩, h4, h5, h6⟩ := h
  exact ⟨⟨va_Nw.same rfl e h1, va_Nw.same rfl e h2, va_Nw.same rfl e h3, va_Nw.same rfl e h7, va_Nw.same rfl e h8, va_Nw.same rfl e h9⟩, va_Nc.moved (by rw [e]; exact Vm.Alike.refl _) h4, va_Nc.moved (by rw [e]; exact Vm.Alike.refl _) h5, fun q hq => (h6 q hq).imp (fun sa h => vk_R.same e.symm h)⟩
/-- the statics that a throw reads, apart from A -/
def XZ (A : Nat → Prop) (U : State) (H : Heap) : Prop := vx_Zq Bundle.tN "UNASSIGNED_STACK" Bundle.steD A U H ∧ vx_Zq Bundle.tN "SUPPRESSED_SENTINEL" Bundle.listD A U H
theorem XZ.moved {A : Nat → Prop} {u U : State} {H : Heap} (hvm : u.vm.Alike U.vm) (h : XZ A u H) : XZ A U H := ⟨vx_Zq.moved hvm h.1, vx_Zq.moved hvm h.2⟩
theorem XZ.kept {A : Nat → Prop} {U : State} {H H1 : Heap} (h : XZ A U H) (hq : ∀ a : Nat, a < H.size → ¬ A a → H1[a]? = H[a]?) : XZ A U H1 := ⟨vx_Zq.kept h.1 hq, vx_Zq.kept h.2 hq⟩
theorem XZ.narrow {A B : Nat → Prop} {U : State} {H : Heap} (h : XZ A U H) (hAB : ∀ q, B q → A q) : XZ B U H := ⟨vx_Zq.narrow h.1 hAB, vx_Zq.narrow h.2 hAB⟩
/-- the start of a method that throws -/
def XPr (D : va_G) (k : Nat → ClassId) (sz : Nat) (ws : va_W) : State → Prop := fun U => XP U ∧ XZ (va_A ws sz) U U.heap ∧ Pr D k sz ws U
theorem xpr_blind {av : List Value} {D : va_G} {k : Nat → ClassId} {sz : Nat} {ws : va_W} : FrameBlind (va_Pc av (XPr D k sz ws)) := fun a U g mk q => by
  obtain ⟨q0, qa, qb, q1, q2, q3, q4, q5⟩ := q
  exact ⟨q0, XP.same rfl qa, XZ.moved (u := U) (U := U.calling g mk a) (Vm.Alike.refl U.vm) qb, NL.same rfl q1, q2, q3, va_K.moved (u := U) (U := U.calling g mk a) (Vm.Alike.refl U.vm) q4, q5⟩
theorem xpr_at {av : List Value} {D : va_G} {k : Nat → ClassId} {wc : va_W} {H : Heap} {s : State} {A : Nat → Prop} (hX : XP s) (hZ : XZ A s H) (hAc : ∀ q, va_A wc H.size q → A q) (hN : NL s) (hP : va_P D vwCl wc H) (hK : va_K D vwCl (TY k) s) (hD : va_D A wc) : ∀ U : State, U.heap = H → s.WarmedH U.vm → va_Pc av (XPr D k H.size wc) av.toArray U :=
  fun U hU hW => ⟨rfl, hX.warm hW, by rw [hU]; exact (hZ.moved hW.alike).narrow hAc, NL.warm hW hN, by rw [hU], by rw [hU]; exact hP, va_K.moved hW.alike hK, hD.weaken (fun _ _ _ _ => trivial)⟩
/-- contracts: E is thrown, the world ws becomes ws' -/
def MX (l : Launch) (y : MethodName) (wy : List Cond) (rm : Room) (D : va_G) (k : Nat → ClassId) (av : List Value) (ws : va_W) (E : String) (ws' : va_W) : Prop :=
  ∀ sz : Nat, vx_Met l y wy rm (va_Pc av (XPr D k sz ws)) (va_Qi (fun _ (_ : Unit) => False) (Po D ws') (va_A ws sz)) (vx_X (fun _ : Unit => True) (fun E' _ t => E' = E ∧ va_P D vwCl ws' t.heap) (va_A ws sz)) rm.cells rm.slots (va_A ws sz)
theorem tx_x {D : va_G} {ws : va_W} {A : Nat → Prop} {s : State} {H : Heap} {locs : List Loc} {cls : String} (hP : va_P D vwCl ws H) (hS : va_S A s.heap H locs) : ∀ t : State, s.vm.Alike t.vm → H.size ≤ t.heap.size → (∀ q : Nat, q < H.size → t.heap[q]? = H[q]?) → vx_X (fun _ : Unit => True) (fun E' _ t => E' = cls ∧ va_P D vwCl ws t.heap) A cls s t :=
  fun t _ h1 h2 => ⟨(), trivial, ⟨rfl, hP.kept (fun k q hk => h2 q.1 ((hP k q hk).lt))⟩, Nat.le_trans hS.1 h1, fun q a b => (h2 q (Nat.lt_of_lt_of_le a hS.1)).trans (hS.2.1 q a b)⟩
theorem inB_lo {x a b : Int32} (h : inB x a b = true) (c : x < a) : False := (of_decide_eq_true h).1 c
theorem inB_hi {x a b : Int32} (h : inB x a b = true) (c : ¬ x ≤ b) : False := (of_decide_eq_true h).2 (Int32.not_le.mp c)
theorem inB_no {x a b : Int32} (h : inB x a b = false) (c : ¬ x < a) (c2 : x ≤ b) : False := by
  have h2 : inB x a b = true := decide_eq_true ⟨c, Int32.not_lt.mpr c2⟩
  rw [h] at h2; cases h2
theorem inB_out {x a b : Int32} (h : inB x a b = false) : x < a ∨ b < x := by
  by_cases c : x < a
  · exact Or.inl c
  · exact Or.inr (Int32.not_le.mp (fun c2 => inB_no h c c2))

theorem xat_IO {args : Array Value} {s : State} (h1 : ∀ w ∈ (vx_atS RX4 63 "java/lang/IndexOutOfBoundsException" ["java/lang/RuntimeException", "java/lang/Exception"]).filter goodWord, w.before args s = true) (hX : XP s) : ∀ w ∈ vx_atS RX4 63 "java/lang/IndexOutOfBoundsException" ["java/lang/RuntimeException", "java/lang/Exception"], w.before args s = true :=
  vx_hat h1 (B := [.castable "java/lang/IndexOutOfBoundsException" "java/lang/IndexOutOfBoundsException", .declares (Bundle.initS "java/lang/RuntimeException"), .declares (Bundle.initS "java/lang/Exception"), .declares (Bundle.initS Bundle.tN)]) (by decide +kernel) (vx_c (va_Nw.use rfl hX.1.1) (vx_c (va_Nw.use rfl hX.1.2.2.2.1) (vx_c (va_Nw.use rfl hX.1.2.2.2.2.1) (vx_c (va_Nw.use rfl hX.1.2.2.2.2.2) vx_n))))
theorem xgd_IO : ∀ w ∈ Cond.classLink RX4 59 "java/lang/IndexOutOfBoundsException" :: Cond.initialized "java/lang/IndexOutOfBoundsException" :: vx_atS RX4 63 "java/lang/IndexOutOfBoundsException" ["java/lang/RuntimeException", "java/lang/Exception"], vx_ot w = true := List.all_eq_true.mp (by decide +kernel)

theorem xat_IA {args : Array Value} {s : State} (h1 : ∀ w ∈ (vx_atS RX4 70 "java/lang/IllegalArgumentException" ["java/lang/RuntimeException", "java/lang/Exception"]).filter goodWord, w.before args s = true) (hX : XP s) : ∀ w ∈ vx_atS RX4 70 "java/lang/IllegalArgumentException" ["java/lang/RuntimeException", "java/lang/Exception"], w.before args s = true :=
  vx_hat h1 (B := [.castable "java/lang/IllegalArgumentException" "java/lang/IllegalArgumentException", .declares (Bundle.initS "java/lang/RuntimeException"), .declares (Bundle.initS "java/lang/Exception"), .declares (Bundle.initS Bundle.tN)]) (by decide +kernel) (vx_c (va_Nw.use rfl hX.1.2.1) (vx_c (va_Nw.use rfl hX.1.2.2.2.1) (vx_c (va_Nw.use rfl hX.1.2.2.2.2.1) (vx_c (va_Nw.use rfl hX.1.2.2.2.2.2) vx_n))))
theorem xgd_IA : ∀ w ∈ Cond.classLink RX4 66 "java/lang/IllegalArgumentException" :: Cond.initialized "java/lang/IllegalArgumentException" :: vx_atS RX4 70 "java/lang/IllegalArgumentException" ["java/lang/RuntimeException", "java/lang/Exception"], vx_ot w = true := List.all_eq_true.mp (by decide +kernel)

theorem xat_IS {args : Array Value} {s : State} (h1 : ∀ w ∈ (vx_atS RX4 120 "java/lang/IllegalStateException" ["java/lang/RuntimeException", "java/lang/Exception"]).filter goodWord, w.before args s = true) (hX : XP s) : ∀ w ∈ vx_atS RX4 120 "java/lang/IllegalStateException" ["java/lang/RuntimeException", "java/lang/Exception"], w.before args s = true :=
  vx_hat h1 (B := [.castable "java/lang/IllegalStateException" "java/lang/IllegalStateException", .declares (Bundle.initS "java/lang/RuntimeException"), .declares (Bundle.initS "java/lang/Exception"), .declares (Bundle.initS Bundle.tN)]) (by decide +kernel) (vx_c (va_Nw.use rfl hX.1.2.2.1) (vx_c (va_Nw.use rfl hX.1.2.2.2.1) (vx_c (va_Nw.use rfl hX.1.2.2.2.2.1) (vx_c (va_Nw.use rfl hX.1.2.2.2.2.2) vx_n))))
theorem xgd_IS : ∀ w ∈ Cond.classLink RX4 116 "java/lang/IllegalStateException" :: Cond.initialized "java/lang/IllegalStateException" :: vx_atS RX4 120 "java/lang/IllegalStateException" ["java/lang/RuntimeException", "java/lang/Exception"], vx_ot w = true := List.all_eq_true.mp (by decide +kernel)
