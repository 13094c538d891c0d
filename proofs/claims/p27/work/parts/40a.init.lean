/-! Constructors: the world grows -/
def PoN (D : va_G) (A : Nat → Prop) (X : va_W → Prop) : Unit → State → Prop := fun _ t => ∃ w, X w ∧ va_P D vwCl w t.heap ∧ va_D A w
def MVN (l : Launch) (y : MethodName) (wy : List Cond) (rm : Room) (D : va_G) (k : Nat → ClassId) (av : List Value) (ws : va_W) (X : va_W → Prop) : Prop :=
  ∀ sz : Nat, Met l y wy rm (va_Pc av (Pr D k sz ws)) (va_Qv (fun _ : Unit => True) (PoN D (va_A ws sz) X) (va_A ws sz)) rm.cells rm.slots (va_A ws sz)
/-- a start where arrays of States may be made -/
def MVA (l : Launch) (y : MethodName) (wy : List Cond) (rm : Room) (D : va_G) (k : Nat → ClassId) (av : List Value) (ws : va_W) (X : va_W → Prop) : Prop :=
  ∀ sz : Nat, Met l y wy rm (va_Pc av (fun U => va_AO RX1 U ∧ Pr D k sz ws U)) (va_Qv (fun _ : Unit => True) (PoN D (va_A ws sz) X) (va_A ws sz)) rm.cells rm.slots (va_A ws sz)
theorem prA_blind {av : List Value} {D : va_G} {k : Nat → ClassId} {sz : Nat} {ws : va_W} : FrameBlind (va_Pc av (fun U => va_AO RX1 U ∧ Pr D k sz ws U)) := fun a U g mk q => by
  obtain ⟨q0, qa, q1, q2, q3, q4, q5⟩ := q
  exact ⟨q0, va_AO.moved (u := U) (U := U.calling g mk a) (Vm.Alike.refl U.vm) qa, NL.same rfl q1, q2, q3, va_K.moved (u := U) (U := U.calling g mk a) (Vm.Alike.refl U.vm) q4, q5⟩
/-- a State that is new -/
def zS : Nat → Nat → Int32 := mkS (fun _ => 0) (fun _ => 0) (fun _ => 0) (fun _ => 0) (fun _ => 0) (fun _ => 0) (fun _ => 0) (cnt 0 0 0)
/-- functions of an address and others -/
def ad4 (x0 x1 x2 x3 : Nat) : Nat → Nat := fun i => match i with | 0 => x0 | 1 => x1 | 2 => x2 | _ => x3
def ad8 (x0 x1 x2 x3 x4 x5 x6 x7 : Nat) : Nat → Nat := fun i => match i with | 0 => x0 | 1 => x1 | 2 => x2 | 3 => x3 | 4 => x4 | 5 => x5 | 6 => x6 | _ => x7
def adF (x0 x1 x2 x3 x4 x5 x6 x7 x8 x9 x10 x11 x12 : Nat → Nat) : Nat → Nat → Nat := fun i => match i with | 0 => x0 | 1 => x1 | 2 => x2 | 3 => x3 | 4 => x4 | 5 => x5 | 6 => x6 | 7 => x7 | 8 => x8 | 9 => x9 | 10 => x10 | 11 => x11 | _ => x12
def ad6 (x0 x1 x2 x3 x4 x5 : Nat → Nat) : Nat → Nat → Nat := fun i => match i with | 0 => x0 | 1 => x1 | 2 => x2 | 3 => x3 | 4 => x4 | _ => x5
section NEW
variable {p : Program} {l : Launch} {e : Env} {R : Room} {s : State} {m : MethodId} {args : Array Value} {below : List Frame} {meth : Method} {c : Code} {cc : ByteArray} {H H0 : Heap} {locs : List Loc} {cells slots : Nat} {Q : State → Prop} {pc : Nat} {ls : Array Slot} {rest st0 : List Value} {a : Array Value} {A A0 : Nat → Prop} {mc ms : Nat} {D : va_G} {ws wc wn : va_W} {k : Nat → ClassId}
theorem nw_i (hx : p.tables.exec = Jvm.exec) (hb : c.code = cc) (harr : (Cond.arrayClass .int).before args s = true) (hK : va_K D vwCl (TY k) s) (hP : va_P D vwCl ws H) (hD : va_D A ws) (hS : va_S A H0 H locs) (hA : ∀ q, H0.size ≤ q → A q)
    {n : Int32} (N' : Nat) (hn : ¬ n < 0) (hN : n.toNatClampNeg = N') (hbytes : N' * 4 ≤ 536870912) (hcells : cells + 1 ≤ R.cells) (hslots : slots + N' ≤ R.slots) (hdg : decode cc pc = .ok (.newarray .int, 2))
    (kk : ∀ (q : Nat) (H1 : Heap), va_P D vwCl (ws ++ [(q, .inl (k 0, N', .inl (fun _ => 0)))]) H1 → va_D A (ws ++ [(q, .inl (k 0, N', .inl (fun _ => 0)))]) → va_S A H0 H1 locs →
      W p l e R s m args below meth c H1 locs (cells + 1) (slots + N') Q (F0 m (pc + 2) ls (.ref q :: rest))) : W p l e R s m args below meth c H locs cells slots Q (F0 m pc ls (.int n :: rest)) := by
  refine va_newa (atype := .int) (ty := .int) (a0 := (N', .inl (fun _ => 0))) hx hb harr rfl hK hP hD hS hA (fun cA => vp_cell_i ..) hn hN hbytes hcells hslots hdg (fun q cA H1 hK1 h1 h2 h3 => ?_)
  have e1 : s.vm.findClass ("[" ++ (FieldType.int).toString) = some cA := (hK1.2 3 (cA, .int) rfl).2
  have e2 : s.vm.findClass ("[" ++ (FieldType.int).toString) = some (k 0) := (hK.2 0 (k 0, .int) rfl).2
  have e3 : cA = k 0 := Option.some.inj (e1.symm.trans e2)
  subst e3
  exact kk q H1 h1 h2 h3
theorem nw_z (hx : p.tables.exec = Jvm.exec) (hb : c.code = cc) (harr : (Cond.arrayClass .boolean).before args s = true) (hK : va_K D vwCl (TY k) s) (hP : va_P D vwCl ws H) (hD : va_D A ws) (hS : va_S A H0 H locs) (hA : ∀ q, H0.size ≤ q → A q)
    {n : Int32} (N' : Nat) (hn : ¬ n < 0) (hN : n.toNatClampNeg = N') (hbytes : N' * 1 ≤ 536870912) (hcells : cells + 1 ≤ R.cells) (hslots : slots + N' ≤ R.slots) (hdg : decode cc pc = .ok (.newarray .boolean, 2))
    (kk : ∀ (q : Nat) (H1 : Heap), va_P D vwCl (ws ++ [(q, .inl (k 1, N', .inl (fun _ => 0)))]) H1 → va_D A (ws ++ [(q, .inl (k 1, N', .inl (fun _ => 0)))]) → va_S A H0 H1 locs →
      W p l e R s m args below meth c H1 locs (cells + 1) (slots + N') Q (F0 m (pc + 2) ls (.ref q :: rest))) : W p l e R s m args below meth c H locs cells slots Q (F0 m pc ls (.int n :: rest)) := by
  refine va_newa (atype := .boolean) (ty := .boolean) (a0 := (N', .inl (fun _ => 0))) hx hb harr rfl hK hP hD hS hA (fun cA => vp_cell_i ..) hn hN hbytes hcells hslots hdg (fun q cA H1 hK1 h1 h2 h3 => ?_)
  have e1 : s.vm.findClass ("[" ++ (FieldType.boolean).toString) = some cA := (hK1.2 3 (cA, .boolean) rfl).2
  have e2 : s.vm.findClass ("[" ++ (FieldType.boolean).toString) = some (k 1) := (hK.2 1 (k 1, .boolean) rfl).2
  have e3 : cA = k 1 := Option.some.inj (e1.symm.trans e2)
  subst e3
  exact kk q H1 h1 h2 h3
theorem nw_q (hx : p.tables.exec = Jvm.exec) (hb : c.code = cc) {own : String} {index : Nat} (hown : s.vm.findClass own = some m.cls) (hclink : (Cond.classLink own index RX1).before args s = true) (hover : va_AO RX1 s) (hK : va_K D vwCl (TY k) s) (hP : va_P D vwCl ws H) (hD : va_D A ws) (hS : va_S A H0 H locs) (hA : ∀ q, H0.size ≤ q → A q)
    {n : Int32} (N' : Nat) (hn : ¬ n < 0) (hN : n.toNatClampNeg = N') (hbytes : N' * 4 ≤ 536870912) (hcells : cells + 1 ≤ R.cells) (hslots : slots + N' ≤ R.slots) (hdg : decode cc pc = .ok (.anewarray index, 3))
    (kk : ∀ (q : Nat) (H1 : Heap), va_P D vwCl (ws ++ [(q, .inl (k 2, N', .inr (.inr (.inr (.inr (fun _ => none))))))]) H1 → va_D A (ws ++ [(q, .inl (k 2, N', .inr (.inr (.inr (.inr (fun _ => none))))))]) → va_S A H0 H1 locs →
      W p l e R s m args below meth c H1 locs (cells + 1) (slots + N') Q (F0 m (pc + 3) ls (.ref q :: rest))) : W p l e R s m args below meth c H locs cells slots Q (F0 m pc ls (.int n :: rest)) := by
  refine va_newq hx hb hown hclink hover hK hP hD hS hA hn hN hbytes hcells hslots hdg (fun q cA H1 hK1 h1 h2 h3 => ?_)
  obtain ⟨-, kA, comp, -, -, -, e1⟩ := hK1.2 3 (cA, .object RX1) rfl
  obtain ⟨-, kA2, comp2, -, -, -, e2⟩ := hK.2 2 (k 2, .object RX1) rfl
  have e3 : cA = k 2 := Option.some.inj (e1.symm.trans e2)
  subst e3
  exact kk q H1 h1 h2 h3
theorem cl_vN {wr : va_W} {X : va_W → Prop} (hr : va_Run p l e R s m args below meth c H locs cells slots mc ms (F0 m pc ls st0) rest (va_Qv (fun _ : Unit => True) (PoN D (va_A wc H.size) X) (va_A wc H.size) a) (va_A wc H.size)) (hP : va_P D vwCl ws H) (hD : va_D A0 ws) (hS : va_S A0 H0 H locs) (hA : ∀ q, H0.size ≤ q → A0 q)
    (isC isR : List Nat) (hC : isC.map (fun i => ws[i]?) = wc.map some) (hR : isR.map (fun i => ws[i]?) = wr.map some) (hn : va_nd isR = true) (hdis : isR.all (fun i => !isC.contains i) = true)
    (kk : ∀ (w : va_W), X w → ∀ (H1 : Heap) (locs1 : List Loc), va_P D vwCl (wr ++ w) H1 → va_D A0 (wr ++ w) → va_S A0 H0 H1 locs1 → W p l e R s m args below meth c H1 locs1 (cells + mc) (slots + ms) Q (F0 m (pc + 3) ls rest)) : W p l e R s m args below meth c H locs cells slots Q (F0 m pc ls st0) := by
  have hF := va_free (wc := wc) hD hS hA isC hC
  refine va_callv hr hS (fun q _ h => hF q h) hF (fun u t H1 locs1 ht hvm hw hB hz hk hS1 => ?_)
  obtain ⟨w, hX, hP1, hD1⟩ : ∃ w, X w ∧ va_P D vwCl w t.heap ∧ va_D (va_A wc H.size) w := hB
  rw [ht] at hP1
  obtain ⟨h1, h2⟩ := va_join hP hD isC isR hC hR hn (fun i hi hc => by have h3 := List.all_eq_true.mp hdis i hi; rw [List.contains_iff_mem.mpr hc] at h3; cases h3) hk hF hP1 hD1
  exact kk w hX H1 locs1 h1 h2 hS1
theorem rt_vN {X : va_W → Prop} (hx : p.tables.exec = Jvm.exec) (hb : c.code = cc) (hr : meth.sig.returnType = none) (hlocks : meth.locks = false) (hS : va_S A s.heap H locs) (hd : decode cc pc = .ok (.return_, 1)) (hX : X wn) (hP : va_P D vwCl wn H) (hD : va_D A wn) :
    W p l e R s m args below meth c H locs cells slots (MQ below (va_Qv (fun _ : Unit => True) (PoN D A X) A) args s cells slots A) (F0 m pc ls []) :=
  W.vret hx hb hr (fun t ht hW => ⟨⟨(), rfl, trivial, wn, hX, by show va_P D vwCl wn t.heap; rw [ht]; exact hP, hD⟩, hS.F ht⟩) hS.2.2 hd
end NEW

set_option maxHeartbeats 4000000 in
set_option maxRecDepth 100000 in
theorem c_X1_init (l : Launch) (D : va_G) (k : Nat → ClassId) (a0 : Nat)  : MVN l yX1_init wsX1_init ({ frames := 1, cells := 7, slots := 69, locals := 12 }) D k [.ref a0] ([(a0, .inr (1, [.null, .null, .null, .null, .null, .null, .null, .int 0, .int 0, .int 0]))]) (fun w => ∃ b : Nat → Nat, b 0 = a0 ∧ w = wSt k b zS) := by
  intro sz
  refine Met.ofW (cc := cX1_init) (maxL := 1) (ret := none) (by decide) rfl ?_
  intro p e s m args below meth c s₁ B hml hv
  obtain ⟨rfl, hN, hsz, hP, hK, hD0⟩ := hv
  have hx := B.exec
  have hb := B.bytes
  have hr := B.returns
  have hts := atoms_spec (ws := wsX1_init) B.pre
  have hown : s.vm.findClass RX1 = some m.cls := findClass_of_methodNamed B.named
  have hlocks := B.notSynchronized
  have hin : meth.name = "<init>" := (name_of_methodNamed B.named B.method).1
  subst hsz
  have hD := hD0.self (sz := s.heap.size)
  generalize hAe : va_A ([(a0, .inr (1, [.null, .null, .null, .null, .null, .null, .null, .int 0, .int 0, .int 0]))]) s.heap.size = A at hD ⊢
  have hA : ∀ q : Nat, s.heap.size ≤ q → A q := fun q h => by rw [← hAe]; exact Or.inr h
  have hS : va_S A s.heap s.heap [] := va_S.rf
  have hl := lv_entry ([.ref a0]) (n := 1) (Nat.le_of_ble_eq_true rfl)
  rw [lg_entry_eq]
  generalize (lg_sl ([.ref a0]) ++ List.replicate (1 - (lg_sl ([.ref a0])).length) Slot.unset).toArray = ls at hl ⊢
  have hl : lv_has ls 1 [(0, .ref a0)] := hl
  obtain ⟨H, hHe⟩ : ∃ H, H = s.heap := ⟨_, rfl⟩
  have hP : va_P D vwCl ([(a0, .inr (1, [.null, .null, .null, .null, .null, .null, .null, .int 0, .int 0, .int 0]))]) H := by rw [hHe]; exact hP
  have hS : va_S A s.heap H [] := by rw [hHe]; exact hS
  rw [← hHe]
  refine absQ (fun Q hQ => ?_)
  refine lv_aload_n hx hb dX1_init_0 rfl (lv_at hl 0 rfl) ?_
  refine W.objInit hx hb hown (hts _ (List.mem_of_getElem? (i := 1) rfl)) (hts _ (List.mem_of_getElem? (i := 2) rfl)) (hts _ (List.mem_of_getElem? (i := 3) rfl)) rfl (by rw [hml]; exact hl.1) rfl dX1_init_1 (Nat.le_of_ble_eq_true rfl) (Nat.le_of_ble_eq_true rfl) ?_
  refine W.eq (g2 := F0 m 4 ls []) rfl ?_
  refine lv_aload_n hx hb dX1_init_4 rfl (lv_at hl 0 rfl) ?_
  refine lv_bipush (v := 9) hx hb dX1_init_5 (by decide) ?_
  refine nw_i (k := k) hx hb (hts _ (List.mem_of_getElem? (i := 4) rfl)) hK hP hD hS hA 9 (by decide) rfl (Nat.le_of_ble_eq_true rfl) (Nat.le_of_ble_eq_true rfl) (Nat.le_of_ble_eq_true rfl) dX1_init_7 (fun n_1 H hP hD hS => ?_)
  refine W.widen (k := 1) (n := 9) (Nat.le_of_ble_eq_true rfl) (Nat.le_of_ble_eq_true rfl) ?_
  have hP : va_P D vwCl ([(a0, .inr (1, [.null, .null, .null, .null, .null, .null, .null, .int 0, .int 0, .int 0]))] ++ ([(n_1, .inl (k 0, 9, .inl (fun _ => 0)))])) H := hP
  have hD : va_D A ([(a0, .inr (1, [.null, .null, .null, .null, .null, .null, .null, .int 0, .int 0, .int 0]))] ++ ([(n_1, .inl (k 0, 9, .inl (fun _ => 0)))])) := hD
  refine va_putF (D := D) (ci := 1) (v := .ref n_1) (ty := tyX1 0) (C := RX1) (T := TX1) (N := 10) hx hb hts (fun _ h9 => (List.mem_cons_of_mem _ (List.mem_append_right _ h9))) tyX1 tyX1_ok nmX1 hown hK hP hD hS 0 rfl rfl 0 (by decide) (hts _ (List.mem_of_getElem? (i := 5) rfl)) (fun _ h9 => h9) rfl hin rfl (tyX1_ok 0 (by decide)) rfl rfl (Nat.le_of_ble_eq_true rfl) dX1_init_9 (fun H locs hP hD hS => ?_)
  have hP : va_P D vwCl ([(a0, .inr (1, [.ref n_1, .null, .null, .null, .null, .null, .null, .int 0, .int 0, .int 0]))] ++ ([(n_1, .inl (k 0, 9, .inl (fun _ => 0)))])) H := hP
  have hD : va_D A ([(a0, .inr (1, [.ref n_1, .null, .null, .null, .null, .null, .null, .int 0, .int 0, .int 0]))] ++ ([(n_1, .inl (k 0, 9, .inl (fun _ => 0)))])) := hD
  refine lv_aload_n hx hb dX1_init_12 rfl (lv_at hl 0 rfl) ?_
  refine lv_bipush (v := 9) hx hb dX1_init_13 (by decide) ?_
  refine nw_i (k := k) hx hb (hts _ (List.mem_of_getElem? (i := 4) rfl)) hK hP hD hS hA 9 (by decide) rfl (Nat.le_of_ble_eq_true rfl) (Nat.le_of_ble_eq_true rfl) (Nat.le_of_ble_eq_true rfl) dX1_init_15 (fun n_2 H hP hD hS => ?_)
  refine W.widen (k := 2) (n := 18) (Nat.le_of_ble_eq_true rfl) (Nat.le_of_ble_eq_true rfl) ?_
  have hP : va_P D vwCl ([(a0, .inr (1, [.ref n_1, .null, .null, .null, .null, .null, .null, .int 0, .int 0, .int 0]))] ++ ([(n_1, .inl (k 0, 9, .inl (fun _ => 0)))] ++ ([(n_2, .inl (k 0, 9, .inl (fun _ => 0)))]))) H := hP
  have hD : va_D A ([(a0, .inr (1, [.ref n_1, .null, .null, .null, .null, .null, .null, .int 0, .int 0, .int 0]))] ++ ([(n_1, .inl (k 0, 9, .inl (fun _ => 0)))] ++ ([(n_2, .inl (k 0, 9, .inl (fun _ => 0)))]))) := hD
  refine va_putF (D := D) (ci := 1) (v := .ref n_2) (ty := tyX1 1) (C := RX1) (T := TX1) (N := 10) hx hb hts (fun _ h9 => (List.mem_cons_of_mem _ (List.mem_append_right _ h9))) tyX1 tyX1_ok nmX1 hown hK hP hD hS 0 rfl rfl 1 (by decide) (hts _ (List.mem_of_getElem? (i := 6) rfl)) (fun _ h9 => h9) rfl hin rfl (tyX1_ok 1 (by decide)) rfl rfl (Nat.le_of_ble_eq_true rfl) dX1_init_17 (fun H locs hP hD hS => ?_)
  have hP : va_P D vwCl ([(a0, .inr (1, [.ref n_1, .ref n_2, .null, .null, .null, .null, .null, .int 0, .int 0, .int 0]))] ++ ([(n_1, .inl (k 0, 9, .inl (fun _ => 0)))] ++ ([(n_2, .inl (k 0, 9, .inl (fun _ => 0)))]))) H := hP
  have hD : va_D A ([(a0, .inr (1, [.ref n_1, .ref n_2, .null, .null, .null, .null, .null, .int 0, .int 0, .int 0]))] ++ ([(n_1, .inl (k 0, 9, .inl (fun _ => 0)))] ++ ([(n_2, .inl (k 0, 9, .inl (fun _ => 0)))]))) := hD
  refine lv_aload_n hx hb dX1_init_20 rfl (lv_at hl 0 rfl) ?_
  refine lv_bipush (v := 9) hx hb dX1_init_21 (by decide) ?_
  refine nw_i (k := k) hx hb (hts _ (List.mem_of_getElem? (i := 4) rfl)) hK hP hD hS hA 9 (by decide) rfl (Nat.le_of_ble_eq_true rfl) (Nat.le_of_ble_eq_true rfl) (Nat.le_of_ble_eq_true rfl) dX1_init_23 (fun n_3 H hP hD hS => ?_)
  refine W.widen (k := 3) (n := 27) (Nat.le_of_ble_eq_true rfl) (Nat.le_of_ble_eq_true rfl) ?_
  have hP : va_P D vwCl ([(a0, .inr (1, [.ref n_1, .ref n_2, .null, .null, .null, .null, .null, .int 0, .int 0, .int 0]))] ++ ([(n_1, .inl (k 0, 9, .inl (fun _ => 0)))] ++ ([(n_2, .inl (k 0, 9, .inl (fun _ => 0)))] ++ ([(n_3, .inl (k 0, 9, .inl (fun _ => 0)))])))) H := hP
  have hD : va_D A ([(a0, .inr (1, [.ref n_1, .ref n_2, .null, .null, .null, .null, .null, .int 0, .int 0, .int 0]))] ++ ([(n_1, .inl (k 0, 9, .inl (fun _ => 0)))] ++ ([(n_2, .inl (k 0, 9, .inl (fun _ => 0)))] ++ ([(n_3, .inl (k 0, 9, .inl (fun _ => 0)))])))) := hD
  refine va_putF (D := D) (ci := 1) (v := .ref n_3) (ty := tyX1 2) (C := RX1) (T := TX1) (N := 10) hx hb hts (fun _ h9 => (List.mem_cons_of_mem _ (List.mem_append_right _ h9))) tyX1 tyX1_ok nmX1 hown hK hP hD hS 0 rfl rfl 2 (by decide) (hts _ (List.mem_of_getElem? (i := 7) rfl)) (fun _ h9 => h9) rfl hin rfl (tyX1_ok 2 (by decide)) rfl rfl (Nat.le_of_ble_eq_true rfl) dX1_init_25 (fun H locs hP hD hS => ?_)
  have hP : va_P D vwCl ([(a0, .inr (1, [.ref n_1, .ref n_2, .ref n_3, .null, .null, .null, .null, .int 0, .int 0, .int 0]))] ++ ([(n_1, .inl (k 0, 9, .inl (fun _ => 0)))] ++ ([(n_2, .inl (k 0, 9, .inl (fun _ => 0)))] ++ ([(n_3, .inl (k 0, 9, .inl (fun _ => 0)))])))) H := hP
  have hD : va_D A ([(a0, .inr (1, [.ref n_1, .ref n_2, .ref n_3, .null, .null, .null, .null, .int 0, .int 0, .int 0]))] ++ ([(n_1, .inl (k 0, 9, .inl (fun _ => 0)))] ++ ([(n_2, .inl (k 0, 9, .inl (fun _ => 0)))] ++ ([(n_3, .inl (k 0, 9, .inl (fun _ => 0)))])))) := hD
  refine lv_aload_n hx hb dX1_init_28 rfl (lv_at hl 0 rfl) ?_
  refine lv_bipush (v := 9) hx hb dX1_init_29 (by decide) ?_
  refine nw_i (k := k) hx hb (hts _ (List.mem_of_getElem? (i := 4) rfl)) hK hP hD hS hA 9 (by decide) rfl (Nat.le_of_ble_eq_true rfl) (Nat.le_of_ble_eq_true rfl) (Nat.le_of_ble_eq_true rfl) dX1_init_31 (fun n_4 H hP hD hS => ?_)
  refine W.widen (k := 4) (n := 36) (Nat.le_of_ble_eq_true rfl) (Nat.le_of_ble_eq_true rfl) ?_
  have hP : va_P D vwCl ([(a0, .inr (1, [.ref n_1, .ref n_2, .ref n_3, .null, .null, .null, .null, .int 0, .int 0, .int 0]))] ++ ([(n_1, .inl (k 0, 9, .inl (fun _ => 0)))] ++ ([(n_2, .inl (k 0, 9, .inl (fun _ => 0)))] ++ ([(n_3, .inl (k 0, 9, .inl (fun _ => 0)))] ++ ([(n_4, .inl (k 0, 9, .inl (fun _ => 0)))]))))) H := hP
  have hD : va_D A ([(a0, .inr (1, [.ref n_1, .ref n_2, .ref n_3, .null, .null, .null, .null, .int 0, .int 0, .int 0]))] ++ ([(n_1, .inl (k 0, 9, .inl (fun _ => 0)))] ++ ([(n_2, .inl (k 0, 9, .inl (fun _ => 0)))] ++ ([(n_3, .inl (k 0, 9, .inl (fun _ => 0)))] ++ ([(n_4, .inl (k 0, 9, .inl (fun _ => 0)))]))))) := hD
  refine va_putF (D := D) (ci := 1) (v := .ref n_4) (ty := tyX1 3) (C := RX1) (T := TX1) (N := 10) hx hb hts (fun _ h9 => (List.mem_cons_of_mem _ (List.mem_append_right _ h9))) tyX1 tyX1_ok nmX1 hown hK hP hD hS 0 rfl rfl 3 (by decide) (hts _ (List.mem_of_getElem? (i := 8) rfl)) (fun _ h9 => h9) rfl hin rfl (tyX1_ok 3 (by decide)) rfl rfl (Nat.le_of_ble_eq_true rfl) dX1_init_33 (fun H locs hP hD hS => ?_)
  have hP : va_P D vwCl ([(a0, .inr (1, [.ref n_1, .ref n_2, .ref n_3, .ref n_4, .null, .null, .null, .int 0, .int 0, .int 0]))] ++ ([(n_1, .inl (k 0, 9, .inl (fun _ => 0)))] ++ ([(n_2, .inl (k 0, 9, .inl (fun _ => 0)))] ++ ([(n_3, .inl (k 0, 9, .inl (fun _ => 0)))] ++ ([(n_4, .inl (k 0, 9, .inl (fun _ => 0)))]))))) H := hP
  have hD : va_D A ([(a0, .inr (1, [.ref n_1, .ref n_2, .ref n_3, .ref n_4, .null, .null, .null, .int 0, .int 0, .int 0]))] ++ ([(n_1, .inl (k 0, 9, .inl (fun _ => 0)))] ++ ([(n_2, .inl (k 0, 9, .inl (fun _ => 0)))] ++ ([(n_3, .inl (k 0, 9, .inl (fun _ => 0)))] ++ ([(n_4, .inl (k 0, 9, .inl (fun _ => 0)))]))))) := hD
  refine lv_aload_n hx hb dX1_init_36 rfl (lv_at hl 0 rfl) ?_
  refine lv_bipush (v := 9) hx hb dX1_init_37 (by decide) ?_
  refine nw_i (k := k) hx hb (hts _ (List.mem_of_getElem? (i := 4) rfl)) hK hP hD hS hA 9 (by decide) rfl (Nat.le_of_ble_eq_true rfl) (Nat.le_of_ble_eq_true rfl) (Nat.le_of_ble_eq_true rfl) dX1_init_39 (fun n_5 H hP hD hS => ?_)
  refine W.widen (k := 5) (n := 45) (Nat.le_of_ble_eq_true rfl) (Nat.le_of_ble_eq_true rfl) ?_
  have hP : va_P D vwCl ([(a0, .inr (1, [.ref n_1, .ref n_2, .ref n_3, .ref n_4, .null, .null, .null, .int 0, .int 0, .int 0]))] ++ ([(n_1, .inl (k 0, 9, .inl (fun _ => 0)))] ++ ([(n_2, .inl (k 0, 9, .inl (fun _ => 0)))] ++ ([(n_3, .inl (k 0, 9, .inl (fun _ => 0)))] ++ ([(n_4, .inl (k 0, 9, .inl (fun _ => 0)))] ++ ([(n_5, .inl (k 0, 9, .inl (fun _ => 0)))])))))) H := hP
  have hD : va_D A ([(a0, .inr (1, [.ref n_1, .ref n_2, .ref n_3, .ref n_4, .null, .null, .null, .int 0, .int 0, .int 0]))] ++ ([(n_1, .inl (k 0, 9, .inl (fun _ => 0)))] ++ ([(n_2, .inl (k 0, 9, .inl (fun _ => 0)))] ++ ([(n_3, .inl (k 0, 9, .inl (fun _ => 0)))] ++ ([(n_4, .inl (k 0, 9, .inl (fun _ => 0)))] ++ ([(n_5, .inl (k 0, 9, .inl (fun _ => 0)))])))))) := hD
  refine va_putF (D := D) (ci := 1) (v := .ref n_5) (ty := tyX1 4) (C := RX1) (T := TX1) (N := 10) hx hb hts (fun _ h9 => (List.mem_cons_of_mem _ (List.mem_append_right _ h9))) tyX1 tyX1_ok nmX1 hown hK hP hD hS 0 rfl rfl 4 (by decide) (hts _ (List.mem_of_getElem? (i := 9) rfl)) (fun _ h9 => h9) rfl hin rfl (tyX1_ok 4 (by decide)) rfl rfl (Nat.le_of_ble_eq_true rfl) dX1_init_41 (fun H locs hP hD hS => ?_)
  have hP : va_P D vwCl ([(a0, .inr (1, [.ref n_1, .ref n_2, .ref n_3, .ref n_4, .ref n_5, .null, .null, .int 0, .int 0, .int 0]))] ++ ([(n_1, .inl (k 0, 9, .inl (fun _ => 0)))] ++ ([(n_2, .inl (k 0, 9, .inl (fun _ => 0)))] ++ ([(n_3, .inl (k 0, 9, .inl (fun _ => 0)))] ++ ([(n_4, .inl (k 0, 9, .inl (fun _ => 0)))] ++ ([(n_5, .inl (k 0, 9, .inl (fun _ => 0)))])))))) H := hP
  have hD : va_D A ([(a0, .inr (1, [.ref n_1, .ref n_2, .ref n_3, .ref n_4, .ref n_5, .null, .null, .int 0, .int 0, .int 0]))] ++ ([(n_1, .inl (k 0, 9, .inl (fun _ => 0)))] ++ ([(n_2, .inl (k 0, 9, .inl (fun _ => 0)))] ++ ([(n_3, .inl (k 0, 9, .inl (fun _ => 0)))] ++ ([(n_4, .inl (k 0, 9, .inl (fun _ => 0)))] ++ ([(n_5, .inl (k 0, 9, .inl (fun _ => 0)))])))))) := hD
  refine lv_aload_n hx hb dX1_init_44 rfl (lv_at hl 0 rfl) ?_
  refine lv_bipush (v := 12) hx hb dX1_init_45 (by decide) ?_
  refine nw_i (k := k) hx hb (hts _ (List.mem_of_getElem? (i := 4) rfl)) hK hP hD hS hA 12 (by decide) rfl (Nat.le_of_ble_eq_true rfl) (Nat.le_of_ble_eq_true rfl) (Nat.le_of_ble_eq_true rfl) dX1_init_47 (fun n_6 H hP hD hS => ?_)
  refine W.widen (k := 6) (n := 57) (Nat.le_of_ble_eq_true rfl) (Nat.le_of_ble_eq_true rfl) ?_
  have hP : va_P D vwCl ([(a0, .inr (1, [.ref n_1, .ref n_2, .ref n_3, .ref n_4, .ref n_5, .null, .null, .int 0, .int 0, .int 0]))] ++ ([(n_1, .inl (k 0, 9, .inl (fun _ => 0)))] ++ ([(n_2, .inl (k 0, 9, .inl (fun _ => 0)))] ++ ([(n_3, .inl (k 0, 9, .inl (fun _ => 0)))] ++ ([(n_4, .inl (k 0, 9, .inl (fun _ => 0)))] ++ ([(n_5, .inl (k 0, 9, .inl (fun _ => 0)))] ++ ([(n_6, .inl (k 0, 12, .inl (fun _ => 0)))]))))))) H := hP
  have hD : va_D A ([(a0, .inr (1, [.ref n_1, .ref n_2, .ref n_3, .ref n_4, .ref n_5, .null, .null, .int 0, .int 0, .int 0]))] ++ ([(n_1, .inl (k 0, 9, .inl (fun _ => 0)))] ++ ([(n_2, .inl (k 0, 9, .inl (fun _ => 0)))] ++ ([(n_3, .inl (k 0, 9, .inl (fun _ => 0)))] ++ ([(n_4, .inl (k 0, 9, .inl (fun _ => 0)))] ++ ([(n_5, .inl (k 0, 9, .inl (fun _ => 0)))] ++ ([(n_6, .inl (k 0, 12, .inl (fun _ => 0)))]))))))) := hD
  refine va_putF (D := D) (ci := 1) (v := .ref n_6) (ty := tyX1 5) (C := RX1) (T := TX1) (N := 10) hx hb hts (fun _ h9 => (List.mem_cons_of_mem _ (List.mem_append_right _ h9))) tyX1 tyX1_ok nmX1 hown hK hP hD hS 0 rfl rfl 5 (by decide) (hts _ (List.mem_of_getElem? (i := 10) rfl)) (fun _ h9 => h9) rfl hin rfl (tyX1_ok 5 (by decide)) rfl rfl (Nat.le_of_ble_eq_true rfl) dX1_init_49 (fun H locs hP hD hS => ?_)
  have hP : va_P D vwCl ([(a0, .inr (1, [.ref n_1, .ref n_2, .ref n_3, .ref n_4, .ref n_5, .ref n_6, .null, .int 0, .int 0, .int 0]))] ++ ([(n_1, .inl (k 0, 9, .inl (fun _ => 0)))] ++ ([(n_2, .inl (k 0, 9, .inl (fun _ => 0)))] ++ ([(n_3, .inl (k 0, 9, .inl (fun _ => 0)))] ++ ([(n_4, .inl (k 0, 9, .inl (fun _ => 0)))] ++ ([(n_5, .inl (k 0, 9, .inl (fun _ => 0)))] ++ ([(n_6, .inl (k 0, 12, .inl (fun _ => 0)))]))))))) H := hP
  have hD : va_D A ([(a0, .inr (1, [.ref n_1, .ref n_2, .ref n_3, .ref n_4, .ref n_5, .ref n_6, .null, .int 0, .int 0, .int 0]))] ++ ([(n_1, .inl (k 0, 9, .inl (fun _ => 0)))] ++ ([(n_2, .inl (k 0, 9, .inl (fun _ => 0)))] ++ ([(n_3, .inl (k 0, 9, .inl (fun _ => 0)))] ++ ([(n_4, .inl (k 0, 9, .inl (fun _ => 0)))] ++ ([(n_5, .inl (k 0, 9, .inl (fun _ => 0)))] ++ ([(n_6, .inl (k 0, 12, .inl (fun _ => 0)))]))))))) := hD
  refine lv_aload_n hx hb dX1_init_52 rfl (lv_at hl 0 rfl) ?_
  refine lv_bipush (v := 12) hx hb dX1_init_53 (by decide) ?_
  refine nw_i (k := k) hx hb (hts _ (List.mem_of_getElem? (i := 4) rfl)) hK hP hD hS hA 12 (by decide) rfl (Nat.le_of_ble_eq_true rfl) (Nat.le_of_ble_eq_true rfl) (Nat.le_of_ble_eq_true rfl) dX1_init_55 (fun n_7 H hP hD hS => ?_)
  refine W.widen (k := 7) (n := 69) (Nat.le_of_ble_eq_true rfl) (Nat.le_of_ble_eq_true rfl) ?_
  have hP : va_P D vwCl ([(a0, .inr (1, [.ref n_1, .ref n_2, .ref n_3, .ref n_4, .ref n_5, .ref n_6, .null, .int 0, .int 0, .int 0]))] ++ ([(n_1, .inl (k 0, 9, .inl (fun _ => 0)))] ++ ([(n_2, .inl (k 0, 9, .inl (fun _ => 0)))] ++ ([(n_3, .inl (k 0, 9, .inl (fun _ => 0)))] ++ ([(n_4, .inl (k 0, 9, .inl (fun _ => 0)))] ++ ([(n_5, .inl (k 0, 9, .inl (fun _ => 0)))] ++ ([(n_6, .inl (k 0, 12, .inl (fun _ => 0)))] ++ ([(n_7, .inl (k 0, 12, .inl (fun _ => 0)))])))))))) H := hP
  have hD : va_D A ([(a0, .inr (1, [.ref n_1, .ref n_2, .ref n_3, .ref n_4, .ref n_5, .ref n_6, .null, .int 0, .int 0, .int 0]))] ++ ([(n_1, .inl (k 0, 9, .inl (fun _ => 0)))] ++ ([(n_2, .inl (k 0, 9, .inl (fun _ => 0)))] ++ ([(n_3, .inl (k 0, 9, .inl (fun _ => 0)))] ++ ([(n_4, .inl (k 0, 9, .inl (fun _ => 0)))] ++ ([(n_5, .inl (k 0, 9, .inl (fun _ => 0)))] ++ ([(n_6, .inl (k 0, 12, .inl (fun _ => 0)))] ++ ([(n_7, .inl (k 0, 12, .inl (fun _ => 0)))])))))))) := hD
  refine va_putF (D := D) (ci := 1) (v := .ref n_7) (ty := tyX1 6) (C := RX1) (T := TX1) (N := 10) hx hb hts (fun _ h9 => (List.mem_cons_of_mem _ (List.mem_append_right _ h9))) tyX1 tyX1_ok nmX1 hown hK hP hD hS 0 rfl rfl 6 (by decide) (hts _ (List.mem_of_getElem? (i := 11) rfl)) (fun _ h9 => h9) rfl hin rfl (tyX1_ok 6 (by decide)) rfl rfl (Nat.le_of_ble_eq_true rfl) dX1_init_57 (fun H locs hP hD hS => ?_)
  have hP : va_P D vwCl ([(a0, .inr (1, [.ref n_1, .ref n_2, .ref n_3, .ref n_4, .ref n_5, .ref n_6, .ref n_7, .int 0, .int 0, .int 0]))] ++ ([(n_1, .inl (k 0, 9, .inl (fun _ => 0)))] ++ ([(n_2, .inl (k 0, 9, .inl (fun _ => 0)))] ++ ([(n_3, .inl (k 0, 9, .inl (fun _ => 0)))] ++ ([(n_4, .inl (k 0, 9, .inl (fun _ => 0)))] ++ ([(n_5, .inl (k 0, 9, .inl (fun _ => 0)))] ++ ([(n_6, .inl (k 0, 12, .inl (fun _ => 0)))] ++ ([(n_7, .inl (k 0, 12, .inl (fun _ => 0)))])))))))) H := hP
  have hD : va_D A ([(a0, .inr (1, [.ref n_1, .ref n_2, .ref n_3, .ref n_4, .ref n_5, .ref n_6, .ref n_7, .int 0, .int 0, .int 0]))] ++ ([(n_1, .inl (k 0, 9, .inl (fun _ => 0)))] ++ ([(n_2, .inl (k 0, 9, .inl (fun _ => 0)))] ++ ([(n_3, .inl (k 0, 9, .inl (fun _ => 0)))] ++ ([(n_4, .inl (k 0, 9, .inl (fun _ => 0)))] ++ ([(n_5, .inl (k 0, 9, .inl (fun _ => 0)))] ++ ([(n_6, .inl (k 0, 12, .inl (fun _ => 0)))] ++ ([(n_7, .inl (k 0, 12, .inl (fun _ => 0)))])))))))) := hD
  subst hQ
  refine W.widen (k := 7) (n := 69) (Nat.le_of_ble_eq_true rfl) (Nat.le_of_ble_eq_true rfl) ?_
  exact rt_vN (wn := wSt k (ad8 a0 n_1 n_2 n_3 n_4 n_5 n_6 n_7) zS) hx hb hr hlocks hS dX1_init_60 ⟨ad8 a0 n_1 n_2 n_3 n_4 n_5 n_6 n_7, rfl, rfl⟩ hP hD

set_option maxHeartbeats 4000000 in
set_option maxRecDepth 100000 in
theorem c_X0_init (l : Launch) (D : va_G) (k : Nat → ClassId) (a0 : Nat)  : MVN l yX0_init wsX0_init ({ frames := 1, cells := 2, slots := 18, locals := 12 }) D k [.ref a0] ([(a0, .inr (0, [.null, .null, .int 0]))]) (fun w => ∃ b : Nat → Nat, b 0 = a0 ∧ w = wRw k b (fun _ => 0) (fun _ => 0) 0) := by
  intro sz
  refine Met.ofW (cc := cX0_init) (maxL := 1) (ret := none) (by decide) rfl ?_
  intro p e s m args below meth c s₁ B hml hv
  obtain ⟨rfl, hN, hsz, hP, hK, hD0⟩ := hv
  have hx := B.exec
  have hb := B.bytes
  have hr := B.returns
  have hts := atoms_spec (ws := wsX0_init) B.pre
  have hown : s.vm.findClass RX0 = some m.cls := findClass_of_methodNamed B.named
  have hlocks := B.notSynchronized
  have hin : meth.name = "<init>" := (name_of_methodNamed B.named B.method).1
  subst hsz
  have hD := hD0.self (sz := s.heap.size)
  generalize hAe : va_A ([(a0, .inr (0, [.null, .null, .int 0]))]) s.heap.size = A at hD ⊢
  have hA : ∀ q : Nat, s.heap.size ≤ q → A q := fun q h => by rw [← hAe]; exact Or.inr h
  have hS : va_S A s.heap s.heap [] := va_S.rf
  have hl := lv_entry ([.ref a0]) (n := 1) (Nat.le_of_ble_eq_true rfl)
  rw [lg_entry_eq]
  generalize (lg_sl ([.ref a0]) ++ List.replicate (1 - (lg_sl ([.ref a0])).length) Slot.unset).toArray = ls at hl ⊢
  have hl : lv_has ls 1 [(0, .ref a0)] := hl
  obtain ⟨H, hHe⟩ : ∃ H, H = s.heap := ⟨_, rfl⟩
  have hP : va_P D vwCl ([(a0, .inr (0, [.null, .null, .int 0]))]) H := by rw [hHe]; exact hP
  have hS : va_S A s.heap H [] := by rw [hHe]; exact hS
  rw [← hHe]
  refine absQ (fun Q hQ => ?_)
  refine lv_aload_n hx hb dX0_init_0 rfl (lv_at hl 0 rfl) ?_
  refine W.objInit hx hb hown (hts _ (List.mem_of_getElem? (i := 1) rfl)) (hts _ (List.mem_of_getElem? (i := 2) rfl)) (hts _ (List.mem_of_getElem? (i := 3) rfl)) rfl (by rw [hml]; exact hl.1) rfl dX0_init_1 (Nat.le_of_ble_eq_true rfl) (Nat.le_of_ble_eq_true rfl) ?_
  refine W.eq (g2 := F0 m 4 ls []) rfl ?_
  refine lv_aload_n hx hb dX0_init_4 rfl (lv_at hl 0 rfl) ?_
  refine lv_bipush (v := 9) hx hb dX0_init_5 (by decide) ?_
  refine nw_i (k := k) hx hb (hts _ (List.mem_of_getElem? (i := 4) rfl)) hK hP hD hS hA 9 (by decide) rfl (Nat.le_of_ble_eq_true rfl) (Nat.le_of_ble_eq_true rfl) (Nat.le_of_ble_eq_true rfl) dX0_init_7 (fun n_1 H hP hD hS => ?_)
  refine W.widen (k := 1) (n := 9) (Nat.le_of_ble_eq_true rfl) (Nat.le_of_ble_eq_true rfl) ?_
  have hP : va_P D vwCl ([(a0, .inr (0, [.null, .null, .int 0]))] ++ ([(n_1, .inl (k 0, 9, .inl (fun _ => 0)))])) H := hP
  have hD : va_D A ([(a0, .inr (0, [.null, .null, .int 0]))] ++ ([(n_1, .inl (k 0, 9, .inl (fun _ => 0)))])) := hD
  refine va_putF (D := D) (ci := 0) (v := .ref n_1) (ty := tyX0 0) (C := RX0) (T := TX0) (N := 3) hx hb hts (fun _ h9 => (List.mem_cons_of_mem _ (List.mem_append_right _ h9))) tyX0 tyX0_ok nmX0 hown hK hP hD hS 0 rfl rfl 0 (by decide) (hts _ (List.mem_of_getElem? (i := 5) rfl)) (fun _ h9 => h9) rfl hin rfl (tyX0_ok 0 (by decide)) rfl rfl (Nat.le_of_ble_eq_true rfl) dX0_init_9 (fun H locs hP hD hS => ?_)
  have hP : va_P D vwCl ([(a0, .inr (0, [.ref n_1, .null, .int 0]))] ++ ([(n_1, .inl (k 0, 9, .inl (fun _ => 0)))])) H := hP
  have hD : va_D A ([(a0, .inr (0, [.ref n_1, .null, .int 0]))] ++ ([(n_1, .inl (k 0, 9, .inl (fun _ => 0)))])) := hD
  refine lv_aload_n hx hb dX0_init_12 rfl (lv_at hl 0 rfl) ?_
  refine lv_bipush (v := 9) hx hb dX0_init_13 (by decide) ?_
  refine nw_i (k := k) hx hb (hts _ (List.mem_of_getElem? (i := 4) rfl)) hK hP hD hS hA 9 (by decide) rfl (Nat.le_of_ble_eq_true rfl) (Nat.le_of_ble_eq_true rfl) (Nat.le_of_ble_eq_true rfl) dX0_init_15 (fun n_2 H hP hD hS => ?_)
  refine W.widen (k := 2) (n := 18) (Nat.le_of_ble_eq_true rfl) (Nat.le_of_ble_eq_true rfl) ?_
  have hP : va_P D vwCl ([(a0, .inr (0, [.ref n_1, .null, .int 0]))] ++ ([(n_1, .inl (k 0, 9, .inl (fun _ => 0)))] ++ ([(n_2, .inl (k 0, 9, .inl (fun _ => 0)))]))) H := hP
  have hD : va_D A ([(a0, .inr (0, [.ref n_1, .null, .int 0]))] ++ ([(n_1, .inl (k 0, 9, .inl (fun _ => 0)))] ++ ([(n_2, .inl (k 0, 9, .inl (fun _ => 0)))]))) := hD
  refine va_putF (D := D) (ci := 0) (v := .ref n_2) (ty := tyX0 1) (C := RX0) (T := TX0) (N := 3) hx hb hts (fun _ h9 => (List.mem_cons_of_mem _ (List.mem_append_right _ h9))) tyX0 tyX0_ok nmX0 hown hK hP hD hS 0 rfl rfl 1 (by decide) (hts _ (List.mem_of_getElem? (i := 6) rfl)) (fun _ h9 => h9) rfl hin rfl (tyX0_ok 1 (by decide)) rfl rfl (Nat.le_of_ble_eq_true rfl) dX0_init_17 (fun H locs hP hD hS => ?_)
  have hP : va_P D vwCl ([(a0, .inr (0, [.ref n_1, .ref n_2, .int 0]))] ++ ([(n_1, .inl (k 0, 9, .inl (fun _ => 0)))] ++ ([(n_2, .inl (k 0, 9, .inl (fun _ => 0)))]))) H := hP
  have hD : va_D A ([(a0, .inr (0, [.ref n_1, .ref n_2, .int 0]))] ++ ([(n_1, .inl (k 0, 9, .inl (fun _ => 0)))] ++ ([(n_2, .inl (k 0, 9, .inl (fun _ => 0)))]))) := hD
  subst hQ
  refine W.widen (k := 2) (n := 18) (Nat.le_of_ble_eq_true rfl) (Nat.le_of_ble_eq_true rfl) ?_
  exact rt_vN (wn := wRw k (ad4 a0 n_1 n_2 0) (fun _ => 0) (fun _ => 0) 0) hx hb hr hlocks hS dX0_init_20 ⟨ad4 a0 n_1 n_2 0, rfl, rfl⟩ hP hD
