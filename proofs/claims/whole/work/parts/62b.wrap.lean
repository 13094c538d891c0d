/-! The law's wrappers: a method called, its answer put into the row out, or what it throws told by a number -/
theorem mo_WH {l : Launch} {y : MethodName} {ws ws' : List Cond} {rm : Room} {Pc : Array Value → State → Prop} {Qc : Array Value → State → Outcome → State → Prop} {mc ms : Nat} {free : Addr → Prop} {cc : ByteArray} {maxL : Nat} {ret : Option FieldType} {hh : List (Nat × Nat × Nat × Nat)}
    (hy : plainName y.cls = true) (hw : ws = Cond.codeWith y cc maxL ret hh :: ws')
    (body : ∀ p e s m args below meth c s₁, BodyLoose p l y (headSpec ws rm) cc maxL ret e s m args below meth c s₁ → c.maxLocals = maxL → c.exceptionTable.toList = tableOf hh → Pc args s →
      W p l e (headSpec ws rm).room s m args below meth c s.heap [] 0 0 (MQ below Qc args s mc ms free) (entryFrame m args maxL)) : Met l y ws rm Pc Qc mc ms free := by
  refine MetFree.of_bodyS (code := cc) (maxLocals := maxL) (ret := ret) hy ?_ ?_
  · intro args s m h hn
    obtain ⟨m9, meth, c, hn9, h1, h2, h3, h4, -, h5, h6, -⟩ := Cond.codeWith_spec (atoms_spec (ws := ws) h _ (by rw [hw]; exact List.mem_cons_self))
    cases hn.symm.trans hn9
    exact ⟨meth, c, h1, h2, h3, h4, h5, h6⟩
  · intro p e s m args below meth c s₁ B hml hP _
    have hh0 : s₁.heap = s.heap := by rw [B.state]; rfl
    obtain ⟨t, a1, o, b1, b2, b3⟩ := body p e s m args below meth c s₁ B hml (vx_table (x := y) B (atoms_spec (ws := ws) B.pre _ (by rw [hw]; exact List.mem_cons_self))) hP s₁ hh0 (Stand.of_body B)
    exact ⟨t, o, a1, b1, b2, ⟨b3.1, b3.2⟩⟩
/-- the row out -/
abbrev oC (k : Nat → ClassId) (ou : Nat) (g : Nat → Int64) : va_W := [(ou, .inl (k 3, 1, .inr (.inl g)))]
/-- the room of a wrapper -/
abbrev RW : Room := { frames := 40, cells := 1, slots := 6, locals := 900 }
theorem va_PL {D : va_G} {cl : List vw_C} {a b : va_W} {H : Heap} (h : va_P D cl (a ++ b) H) : va_P D cl a H := fun k q hk => h k q (by rw [List.getElem?_append_left (List.getElem?_eq_some_iff.mp hk).1]; exact hk)
theorem va_PR {D : va_G} {cl : List vw_C} {a b : va_W} {H : Heap} (h : va_P D cl (a ++ b) H) : va_P D cl b H := fun k q hk => h (a.length + k) q (by rw [List.getElem?_append_right (by omega), show a.length + k - a.length = k by omega]; exact hk)
theorem va_DL {A : Nat → Prop} {a b : va_W} (h : va_D A (a ++ b)) : va_D A a := ⟨fun i j p q hi hj => h.1 i j p q (by rw [List.getElem?_append_left (List.getElem?_eq_some_iff.mp hi).1]; exact hi) (by rw [List.getElem?_append_left (List.getElem?_eq_some_iff.mp hj).1]; exact hj), fun k q hk => h.2 k q (by rw [List.getElem?_append_left (List.getElem?_eq_some_iff.mp hk).1]; exact hk)⟩
theorem va_DR {A : Nat → Prop} {a b : va_W} (h : va_D A (a ++ b)) : va_D A b := by
  have e : ∀ (i : Nat) (p : Nat × va_E), b[i]? = some p → (a ++ b)[a.length + i]? = some p := fun i p hi => by rw [List.getElem?_append_right (by omega), show a.length + i - a.length = i by omega]; exact hi
  exact ⟨fun i j p q hi hj hpq => by have := h.1 _ _ p q (e i p hi) (e j q hj) hpq; omega, fun k q hk => h.2 _ q (e k q hk)⟩
theorem va_DX {A : Nat → Prop} {a b : va_W} (h : va_D A (a ++ b)) : ∀ (i j : Nat) (p q : Nat × va_E), a[i]? = some p → b[j]? = some q → p.1 ≠ q.1 := by
  intro i j p q hi hj hpq
  have hl := (List.getElem?_eq_some_iff.mp hi).1
  have := h.1 i (a.length + j) p q (by rw [List.getElem?_append_left hl]; exact hi) (by rw [List.getElem?_append_right (by omega), show a.length + j - a.length = j by omega]; exact hj) hpq
  omega
/-- what a call may change lies in the caller's part -/
theorem fr_app {A0 : Nat → Prop} {wc wr : va_W} {H0 H : Heap} {locs : List Loc} (hD : va_D A0 (wc ++ wr)) (hS : va_S A0 H0 H locs) (hA : ∀ q, H0.size ≤ q → A0 q) : ∀ q, va_A wc H.size q → A0 q := by
  rintro q (⟨k, e, h⟩ | h)
  · exact (va_DL hD).2 k (q, e) h
  · exact hA q (Nat.le_trans hS.1 h)
theorem jn_app {A0 : Nat → Prop} {D : va_G} {cl : List vw_C} {wc wr w1 : va_W} {H H1 : Heap} (hP : va_P D cl (wc ++ wr) H) (hD : va_D A0 (wc ++ wr)) (hk : ∀ q : Nat, q < H.size → ¬ va_A wc H.size q → H1[q]? = H[q]?) (hF : ∀ q, va_A wc H.size q → A0 q) (hP1 : va_P D cl w1 H1) (hD1 : va_D (va_A wc H.size) w1) : va_P D cl (w1 ++ wr) H1 ∧ va_D A0 (w1 ++ wr) := by
  have apart : ∀ (k : Nat) (q : Nat × va_E), wr[k]? = some q → q.1 < H.size ∧ ¬ va_A wc H.size q.1 := by
    intro k q hq
    have hl := (va_PR hP k q hq).lt
    refine ⟨hl, fun h => ?_⟩
    rcases h with ⟨k2, e, h⟩ | h
    · exact va_DX hD k2 k (q.1, e) q h hq rfl
    · omega
  refine ⟨hP1.app (fun k q hq => ?_), va_D.app (hD1.weaken (fun k q _ h => hF q.1 h)) (va_DR hD) (fun i j x y hx hy hxy => ?_)⟩
  · obtain ⟨g1, g2⟩ := apart k q hq
    exact (va_PR hP k q hq).kept (hk q.1 g1 g2)
  · exact (apart j y hy).2 (by rw [← hxy]; exact hD1.2 i x hx)
section WRAP
variable {p : Program} {l : Launch} {e : Env} {R : Room} {s : State} {m : MethodId} {args : Array Value} {below : List Frame} {meth : Method} {c : Code} {H : Heap} {locs : List Loc} {cells slots : Nat} {Q : State → Prop}
variable {pc : Nat} {ls : Array Slot} {rest st0 : List Value} {a : Array Value} {A0 : Nat → Prop} {H0 : Heap} {mc ms : Nat} {D : va_G} {wr wc wc' : va_W}

theorem cl_iA {r : Int32} (hr : va_Run p l e R s m args below meth c H locs cells slots mc ms (F0 m pc ls st0) rest (va_Qi (fun r' (_ : Unit) => r' = r) (PoD D (va_A wc H.size) wc') (va_A wc H.size) a) (va_A wc H.size)) (hP : va_P D vwCl (wc ++ wr) H) (hD : va_D A0 (wc ++ wr)) (hS : va_S A0 H0 H locs) (hA : ∀ q, H0.size ≤ q → A0 q)
    (kk : ∀ (H1 : Heap) (locs1 : List Loc), va_P D vwCl (wc' ++ wr) H1 → va_D A0 (wc' ++ wr) → va_S A0 H0 H1 locs1 → W p l e R s m args below meth c H1 locs1 (cells + mc) (slots + ms) Q (F0 m (pc + 3) ls (.int r :: rest))) : W p l e R s m args below meth c H locs cells slots Q (F0 m pc ls st0) := by
  have hF := fr_app hD hS hA
  refine va_calli hr hS (fun q _ h => hF q h) hF (fun r' u t H1 locs1 ht hvm hw hB hz hk hS1 => ?_)
  subst hw
  obtain ⟨hP1, hD1⟩ : va_P D vwCl wc' t.heap ∧ va_D (va_A wc H.size) wc' := hB
  rw [ht] at hP1
  obtain ⟨h1, h2⟩ := jn_app hP hD hk hF hP1 hD1
  exact kk H1 locs1 h1 h2 hS1

theorem cl_lA {r : Int64} (hr : va_Run p l e R s m args below meth c H locs cells slots mc ms (F0 m pc ls st0) rest (va_Ql (fun r' (_ : Unit) => r' = r) (PoD D (va_A wc H.size) wc') (va_A wc H.size) a) (va_A wc H.size)) (hP : va_P D vwCl (wc ++ wr) H) (hD : va_D A0 (wc ++ wr)) (hS : va_S A0 H0 H locs) (hA : ∀ q, H0.size ≤ q → A0 q)
    (kk : ∀ (H1 : Heap) (locs1 : List Loc), va_P D vwCl (wc' ++ wr) H1 → va_D A0 (wc' ++ wr) → va_S A0 H0 H1 locs1 → W p l e R s m args below meth c H1 locs1 (cells + mc) (slots + ms) Q (F0 m (pc + 3) ls (.long r :: rest))) : W p l e R s m args below meth c H locs cells slots Q (F0 m pc ls st0) := by
  have hF := fr_app hD hS hA
  refine va_calll hr hS (fun q _ h => hF q h) hF (fun r' u t H1 locs1 ht hvm hw hB hz hk hS1 => ?_)
  subst hw
  obtain ⟨hP1, hD1⟩ : va_P D vwCl wc' t.heap ∧ va_D (va_A wc H.size) wc' := hB
  rw [ht] at hP1
  obtain ⟨h1, h2⟩ := jn_app hP hD hk hF hP1 hD1
  exact kk H1 locs1 h1 h2 hS1

theorem cl_dA {r : UInt64} (hr : va_Run p l e R s m args below meth c H locs cells slots mc ms (F0 m pc ls st0) rest (va_Qd (fun r' (_ : Unit) => r' = r) (PoD D (va_A wc H.size) wc') (va_A wc H.size) a) (va_A wc H.size)) (hP : va_P D vwCl (wc ++ wr) H) (hD : va_D A0 (wc ++ wr)) (hS : va_S A0 H0 H locs) (hA : ∀ q, H0.size ≤ q → A0 q)
    (kk : ∀ (H1 : Heap) (locs1 : List Loc), va_P D vwCl (wc' ++ wr) H1 → va_D A0 (wc' ++ wr) → va_S A0 H0 H1 locs1 → W p l e R s m args below meth c H1 locs1 (cells + mc) (slots + ms) Q (F0 m (pc + 3) ls (.double r :: rest))) : W p l e R s m args below meth c H locs cells slots Q (F0 m pc ls st0) := by
  have hF := fr_app hD hS hA
  refine va_calld hr hS (fun q _ h => hF q h) hF (fun r' u t H1 locs1 ht hvm hw hB hz hk hS1 => ?_)
  subst hw
  obtain ⟨hP1, hD1⟩ : va_P D vwCl wc' t.heap ∧ va_D (va_A wc H.size) wc' := hB
  rw [ht] at hP1
  obtain ⟨h1, h2⟩ := jn_app hP hD hk hF hP1 hD1
  exact kk H1 locs1 h1 h2 hS1

end WRAP

set_option maxHeartbeats 1000000 in
set_option maxRecDepth 100000 in
theorem w_cover (l : Launch) (D : va_G) (k : Nat → ClassId) (x0 ou : Nat) (p0 p1 : Int32) (ws ws' : va_W) (fs : List Value) (g : Nat → Int64) (r : Int32) (rmc : Room) (hM : MYi l yX4_cover wsX4_cover rmc D k [.ref x0, .int p0, .int p1] ws r ws') (h0 : ws[0]? = some (x0, .inr (4, fs))) (hr1 : rmc.frames + 1 ≤ 40) (hr2 : rmc.locals ≤ 850) (hr3 : rmc.cells = 0) (hr4 : rmc.slots = 0) :
    MYi l yL_cover wsL_cover RW D k [.ref x0, .int p0, .int p1, .ref ou] (ws ++ oC k ou g) 0 (ws' ++ oC k ou (vp_updL g 0 r.toInt64)) := by
  intro sz
  refine mo_WH (cc := cL_cover) (maxL := 5) (ret := (some .int)) (by decide) rfl ?_
  intro p e s m args below meth c s₁ B hml htab hv
  obtain ⟨rfl, hX, hZ, hN, hsz, hP, hK, hD0⟩ := hv
  have hx := B.exec
  have hb := B.bytes
  have hr := B.returns
  have hts := atoms_spec (ws := wsL_cover) B.pre
  have hown : s.vm.findClass RL = some m.cls := findClass_of_methodNamed B.named
  have hlocks := B.notSynchronized
  subst hsz
  have hD := hD0.self (sz := s.heap.size)
  generalize hAe : va_A (ws ++ oC k ou g) s.heap.size = A at hD hZ ⊢
  have hA : ∀ q : Nat, s.heap.size ≤ q → A q := fun q h => by rw [← hAe]; exact Or.inr h
  have hS : va_S A s.heap s.heap [] := va_S.rf
  have hl := lv_entry ([.ref x0, .int p0, .int p1, .ref ou]) (n := 5) (Nat.le_of_ble_eq_true rfl)
  rw [lg_entry_eq]
  generalize (lg_sl ([.ref x0, .int p0, .int p1, .ref ou]) ++ List.replicate (5 - (lg_sl ([.ref x0, .int p0, .int p1, .ref ou])).length) Slot.unset).toArray = ls at hl ⊢
  have hl : lv_has ls 5 [(0, .ref x0), (1, .int p0), (2, .int p1), (3, .ref ou)] := hl
  obtain ⟨H, hHe⟩ : ∃ H, H = s.heap := ⟨_, rfl⟩
  have hP : va_P D vwCl (ws ++ oC k ou g) H := by rw [hHe]; exact hP
  have hS : va_S A s.heap H [] := by rw [hHe]; exact hS
  have hZ : XZ A s H := by rw [hHe]; exact hZ
  rw [← hHe]
  refine absQ (fun Q hQ => ?_)
  refine lv_aload_n hx hb dL_cover_0 rfl (lv_at hl 3 rfl) ?_
  refine lv_iconst (v := 0) hx hb dL_cover_1 (by decide) ?_
  refine lv_aload_n hx hb dL_cover_2 rfl (lv_at hl 0 rfl) ?_
  refine lv_iload_n hx hb dL_cover_3 rfl (lv_at hl 1 rfl) ?_
  refine lv_iload_n hx hb dL_cover_4 rfl (lv_at hl 2 rfl) ?_
  have hPc := va_PL hP
  have hDc := va_DL hD
  refine cl_iA (va_runV (As := [.int p0, .int p1]) (rest := [.int 0, .ref ou]) ⟨hx, hb, hml, hown, hts⟩ (hM H.size) (cwV 2 hts gL_cover_X4_cover rfl rfl rfl (by decide +kernel) ⟨hr1, by show 8 + (4 + 11) + rmc.locals ≤ 900; omega⟩) ⟨xpr_blind, va_recv hK hPc (ci := 4) (q0 := 0) rfl h0, xpr_at hX hZ (fr_app hD hS hA) hN hPc hK hDc⟩ rfl rfl hl.1 rfl (lv_room (Nat.le_of_ble_eq_true rfl)) dL_cover_5 ⟨by rw [hr3]; exact Nat.zero_le _, by rw [hr4]; exact Nat.zero_le _⟩) hP hD hS hA (fun H locs hP hD hS => ?_)
  clear hPc hDc
  refine W.widen (k := 1) (n := 6) (by rw [hr3]; exact Nat.zero_le _) (by rw [hr4]; exact Nat.zero_le _) ?_
  refine lv_i2l hx hb dL_cover_8 rfl ?_
  have ho : (ws' ++ oC k ou g)[ws'.length]? = some (ou, .inl (k 3, 1, .inr (.inl g))) := by rw [List.getElem?_append_right (Nat.le_refl _), Nat.sub_self]; rfl
  have hse : (ws' ++ oC k ou g).set ws'.length (ou, .inl (k 3, 1, .inr (.inl (vp_updL g 0 r.toInt64)))) = ws' ++ oC k ou (vp_updL g 0 r.toInt64) := by rw [List.set_append_right _ _ (Nat.le_refl _), Nat.sub_self]; rfl
  refine ar_lst hx hb hK hP hD hS ws'.length ho 0 rfl (show vp_in (nI 0) 1 from vp_in_nI (by decide) (by decide)) dL_cover_9 hse (fun H locs hP hD hS => ?_)
  refine lv_goto (tgt := 21) hx hb dL_cover_10 (by decide) ?_
  refine lv_iconst (v := 0) hx hb dL_cover_21 (by decide) ?_
  subst hQ
  exact rt_iD hx hb hr hlocks hS dL_cover_22 hP hD rfl

set_option maxHeartbeats 1000000 in
set_option maxRecDepth 100000 in
theorem w_cover_t1 (l : Launch) (D : va_G) (k : Nat → ClassId) (x0 ou : Nat) (p0 p1 : Int32) (ws ws' : va_W) (fs : List Value) (g : Nat → Int64) (rmc : Room) (ads : List Nat) (hM : MX l yX4_cover wsX4_cover rmc D k [.ref x0, .int p0, .int p1] ws "java/lang/IndexOutOfBoundsException" ws') (h0 : ws[0]? = some (x0, .inr (4, fs))) (hr1 : rmc.frames + 1 ≤ 40) (hr2 : rmc.locals ≤ 850) (hr3 : rmc.cells = 1) (hr4 : rmc.slots = 6) (ha1 : ws'.map (fun q => q.1) = ads) (ha2 : ws.map (fun q => q.1) = ads) :
    MYi l yL_cover wsL_cover RW D k [.ref x0, .int p0, .int p1, .ref ou] (ws ++ oC k ou g) 1 (ws' ++ oC k ou g) := by
  intro sz
  refine mo_WH (cc := cL_cover) (maxL := 5) (ret := (some .int)) (by decide) rfl ?_
  intro p e s m args below meth c s₁ B hml htab hv
  obtain ⟨rfl, hX, hZ, hN, hsz, hP, hK, hD0⟩ := hv
  have hx := B.exec
  have hb := B.bytes
  have hr := B.returns
  have hts := atoms_spec (ws := wsL_cover) B.pre
  have hown : s.vm.findClass RL = some m.cls := findClass_of_methodNamed B.named
  have hlocks := B.notSynchronized
  subst hsz
  have hD := hD0.self (sz := s.heap.size)
  generalize hAe : va_A (ws ++ oC k ou g) s.heap.size = A at hD hZ ⊢
  have hA : ∀ q : Nat, s.heap.size ≤ q → A q := fun q h => by rw [← hAe]; exact Or.inr h
  have hS : va_S A s.heap s.heap [] := va_S.rf
  have hl := lv_entry ([.ref x0, .int p0, .int p1, .ref ou]) (n := 5) (Nat.le_of_ble_eq_true rfl)
  rw [lg_entry_eq]
  generalize (lg_sl ([.ref x0, .int p0, .int p1, .ref ou]) ++ List.replicate (5 - (lg_sl ([.ref x0, .int p0, .int p1, .ref ou])).length) Slot.unset).toArray = ls at hl ⊢
  have hl : lv_has ls 5 [(0, .ref x0), (1, .int p0), (2, .int p1), (3, .ref ou)] := hl
  obtain ⟨H, hHe⟩ : ∃ H, H = s.heap := ⟨_, rfl⟩
  have hP : va_P D vwCl (ws ++ oC k ou g) H := by rw [hHe]; exact hP
  have hS : va_S A s.heap H [] := by rw [hHe]; exact hS
  have hZ : XZ A s H := by rw [hHe]; exact hZ
  rw [← hHe]
  refine absQ (fun Q hQ => ?_)
  refine lv_aload_n hx hb dL_cover_0 rfl (lv_at hl 3 rfl) ?_
  refine lv_iconst (v := 0) hx hb dL_cover_1 (by decide) ?_
  refine lv_aload_n hx hb dL_cover_2 rfl (lv_at hl 0 rfl) ?_
  refine lv_iload_n hx hb dL_cover_3 rfl (lv_at hl 1 rfl) ?_
  refine lv_iload_n hx hb dL_cover_4 rfl (lv_at hl 2 rfl) ?_
  have hPc := va_PL hP
  have hDc := va_DL hD
  have hF := fr_app hD hS hA
  refine vx_calli (vx_runV (As := [.int p0, .int p1]) (rest := [.int 0, .ref ou]) ⟨hx, hb, hml, hown, hts⟩ (hM H.size) (cwV 2 hts gL_cover_X4_cover rfl rfl rfl (by decide +kernel) ⟨hr1, by show 8 + (4 + 11) + rmc.locals ≤ 900; omega⟩) ⟨xpr_blind, va_recv hK hPc (ci := 4) (q0 := 0) rfl h0, xpr_at hX hZ hF hN hPc hK hDc⟩ rfl rfl hl.1 rfl (lv_room (Nat.le_of_ble_eq_true rfl)) dL_cover_5 ⟨by rw [hr3]; exact Nat.le_refl _, by rw [hr4]; exact Nat.le_refl _⟩) hS (fun q _ h => hF q h) hF (fun q _ h => hF q h) (fun E ce q9 u t H1 locs ht hvm _ hB hz hk hS hc1 hc2 hc3 => ?_) (fun r u t H1 locs ht hvm hf => hf.elim)
  obtain ⟨rfl, hP1⟩ := hB
  rw [ht] at hP1
  have hD1 : va_D (va_A ws H.size) ws' := (hDc.self (sz := H.size)).addr (ha1.trans ha2.symm)
  obtain ⟨hP, hD⟩ := jn_app hP hD hk hF hP1 hD1
  refine vx_catch (name := "java/lang/IndexOutOfBoundsException") hown [] { startPc := 0, endPc := 10, handlerPc := 13, catchType := 13 } [{ startPc := 0, endPc := 10, handlerPc := 17, catchType := 15 }] htab (fun z hz => nomatch hz) (by decide) (by decide) (hts _ (List.mem_of_getElem? (i := 1) rfl)) (va_Nw.use rfl hX.1.1) hc1 hc2 hc3 ?_
  refine W.widen (k := 1) (n := 6) (by rw [hr3]; exact Nat.le_refl _) (by rw [hr4]; exact Nat.le_refl _) ?_
  refine lv_astore (lv' := [(4, .ref q9), (0, .ref x0), (1, .int p0), (2, .int p1), (3, .ref ou)]) hx hb dL_cover_13 hl (by decide) rfl (fun ls hl => ?_)
  refine lv_iconst (v := 1) hx hb dL_cover_15 (by decide) ?_
  subst hQ
  exact rt_iD hx hb hr hlocks hS dL_cover_16 hP hD rfl

set_option maxHeartbeats 1000000 in
set_option maxRecDepth 100000 in
theorem w_cover_t2 (l : Launch) (D : va_G) (k : Nat → ClassId) (x0 ou : Nat) (p0 p1 : Int32) (ws ws' : va_W) (fs : List Value) (g : Nat → Int64) (rmc : Room) (ads : List Nat) (hM : MX l yX4_cover wsX4_cover rmc D k [.ref x0, .int p0, .int p1] ws "java/lang/IllegalArgumentException" ws') (h0 : ws[0]? = some (x0, .inr (4, fs))) (hr1 : rmc.frames + 1 ≤ 40) (hr2 : rmc.locals ≤ 850) (hr3 : rmc.cells = 1) (hr4 : rmc.slots = 6) (ha1 : ws'.map (fun q => q.1) = ads) (ha2 : ws.map (fun q => q.1) = ads) :
    MYi l yL_cover wsL_cover RW D k [.ref x0, .int p0, .int p1, .ref ou] (ws ++ oC k ou g) 2 (ws' ++ oC k ou g) := by
  intro sz
  refine mo_WH (cc := cL_cover) (maxL := 5) (ret := (some .int)) (by decide) rfl ?_
  intro p e s m args below meth c s₁ B hml htab hv
  obtain ⟨rfl, hX, hZ, hN, hsz, hP, hK, hD0⟩ := hv
  have hx := B.exec
  have hb := B.bytes
  have hr := B.returns
  have hts := atoms_spec (ws := wsL_cover) B.pre
  have hown : s.vm.findClass RL = some m.cls := findClass_of_methodNamed B.named
  have hlocks := B.notSynchronized
  subst hsz
  have hD := hD0.self (sz := s.heap.size)
  generalize hAe : va_A (ws ++ oC k ou g) s.heap.size = A at hD hZ ⊢
  have hA : ∀ q : Nat, s.heap.size ≤ q → A q := fun q h => by rw [← hAe]; exact Or.inr h
  have hS : va_S A s.heap s.heap [] := va_S.rf
  have hl := lv_entry ([.ref x0, .int p0, .int p1, .ref ou]) (n := 5) (Nat.le_of_ble_eq_true rfl)
  rw [lg_entry_eq]
  generalize (lg_sl ([.ref x0, .int p0, .int p1, .ref ou]) ++ List.replicate (5 - (lg_sl ([.ref x0, .int p0, .int p1, .ref ou])).length) Slot.unset).toArray = ls at hl ⊢
  have hl : lv_has ls 5 [(0, .ref x0), (1, .int p0), (2, .int p1), (3, .ref ou)] := hl
  obtain ⟨H, hHe⟩ : ∃ H, H = s.heap := ⟨_, rfl⟩
  have hP : va_P D vwCl (ws ++ oC k ou g) H := by rw [hHe]; exact hP
  have hS : va_S A s.heap H [] := by rw [hHe]; exact hS
  have hZ : XZ A s H := by rw [hHe]; exact hZ
  rw [← hHe]
  refine absQ (fun Q hQ => ?_)
  refine lv_aload_n hx hb dL_cover_0 rfl (lv_at hl 3 rfl) ?_
  refine lv_iconst (v := 0) hx hb dL_cover_1 (by decide) ?_
  refine lv_aload_n hx hb dL_cover_2 rfl (lv_at hl 0 rfl) ?_
  refine lv_iload_n hx hb dL_cover_3 rfl (lv_at hl 1 rfl) ?_
  refine lv_iload_n hx hb dL_cover_4 rfl (lv_at hl 2 rfl) ?_
  have hPc := va_PL hP
  have hDc := va_DL hD
  have hF := fr_app hD hS hA
  refine vx_calli (vx_runV (As := [.int p0, .int p1]) (rest := [.int 0, .ref ou]) ⟨hx, hb, hml, hown, hts⟩ (hM H.size) (cwV 2 hts gL_cover_X4_cover rfl rfl rfl (by decide +kernel) ⟨hr1, by show 8 + (4 + 11) + rmc.locals ≤ 900; omega⟩) ⟨xpr_blind, va_recv hK hPc (ci := 4) (q0 := 0) rfl h0, xpr_at hX hZ hF hN hPc hK hDc⟩ rfl rfl hl.1 rfl (lv_room (Nat.le_of_ble_eq_true rfl)) dL_cover_5 ⟨by rw [hr3]; exact Nat.le_refl _, by rw [hr4]; exact Nat.le_refl _⟩) hS (fun q _ h => hF q h) hF (fun q _ h => hF q h) (fun E ce q9 u t H1 locs ht hvm _ hB hz hk hS hc1 hc2 hc3 => ?_) (fun r u t H1 locs ht hvm hf => hf.elim)
  obtain ⟨rfl, hP1⟩ := hB
  rw [ht] at hP1
  have hD1 : va_D (va_A ws H.size) ws' := (hDc.self (sz := H.size)).addr (ha1.trans ha2.symm)
  obtain ⟨hP, hD⟩ := jn_app hP hD hk hF hP1 hD1
  refine vx_catch (name := "java/lang/IllegalArgumentException") hown [{ startPc := 0, endPc := 10, handlerPc := 13, catchType := 13 }] { startPc := 0, endPc := 10, handlerPc := 17, catchType := 15 } [] htab (fun z hz => (List.mem_cons.mp hz).elim (fun e9 => by subst e9; exact Or.inr ⟨by decide, "java/lang/IndexOutOfBoundsException", hts _ (List.mem_of_getElem? (i := 1) rfl), hX.2.1⟩) (fun h9 => nomatch h9)) (by decide) (by decide) (hts _ (List.mem_of_getElem? (i := 2) rfl)) (va_Nw.use rfl hX.1.2.1) hc1 hc2 hc3 ?_
  refine W.widen (k := 1) (n := 6) (by rw [hr3]; exact Nat.le_refl _) (by rw [hr4]; exact Nat.le_refl _) ?_
  refine lv_astore (lv' := [(4, .ref q9), (0, .ref x0), (1, .int p0), (2, .int p1), (3, .ref ou)]) hx hb dL_cover_17 hl (by decide) rfl (fun ls hl => ?_)
  refine lv_iconst (v := 2) hx hb dL_cover_19 (by decide) ?_
  subst hQ
  exact rt_iD hx hb hr hlocks hS dL_cover_20 hP hD rfl

set_option maxHeartbeats 1000000 in
set_option maxRecDepth 100000 in
theorem w_join (l : Launch) (D : va_G) (k : Nat → ClassId) (x0 ou : Nat) (p0 p1 : Int32) (ws ws' : va_W) (fs : List Value) (g : Nat → Int64) (r : Int32) (rmc : Room) (hM : MYi l yX4_join wsX4_join rmc D k [.ref x0, .int p0, .int p1] ws r ws') (h0 : ws[0]? = some (x0, .inr (4, fs))) (hr1 : rmc.frames + 1 ≤ 40) (hr2 : rmc.locals ≤ 850) (hr3 : rmc.cells = 0) (hr4 : rmc.slots = 0) :
    MYi l yL_join wsL_join RW D k [.ref x0, .int p0, .int p1, .ref ou] (ws ++ oC k ou g) 0 (ws' ++ oC k ou (vp_updL g 0 r.toInt64)) := by
  intro sz
  refine mo_WH (cc := cL_join) (maxL := 5) (ret := (some .int)) (by decide) rfl ?_
  intro p e s m args below meth c s₁ B hml htab hv
  obtain ⟨rfl, hX, hZ, hN, hsz, hP, hK, hD0⟩ := hv
  have hx := B.exec
  have hb := B.bytes
  have hr := B.returns
  have hts := atoms_spec (ws := wsL_join) B.pre
  have hown : s.vm.findClass RL = some m.cls := findClass_of_methodNamed B.named
  have hlocks := B.notSynchronized
  subst hsz
  have hD := hD0.self (sz := s.heap.size)
  generalize hAe : va_A (ws ++ oC k ou g) s.heap.size = A at hD hZ ⊢
  have hA : ∀ q : Nat, s.heap.size ≤ q → A q := fun q h => by rw [← hAe]; exact Or.inr h
  have hS : va_S A s.heap s.heap [] := va_S.rf
  have hl := lv_entry ([.ref x0, .int p0, .int p1, .ref ou]) (n := 5) (Nat.le_of_ble_eq_true rfl)
  rw [lg_entry_eq]
  generalize (lg_sl ([.ref x0, .int p0, .int p1, .ref ou]) ++ List.replicate (5 - (lg_sl ([.ref x0, .int p0, .int p1, .ref ou])).length) Slot.unset).toArray = ls at hl ⊢
  have hl : lv_has ls 5 [(0, .ref x0), (1, .int p0), (2, .int p1), (3, .ref ou)] := hl
  obtain ⟨H, hHe⟩ : ∃ H, H = s.heap := ⟨_, rfl⟩
  have hP : va_P D vwCl (ws ++ oC k ou g) H := by rw [hHe]; exact hP
  have hS : va_S A s.heap H [] := by rw [hHe]; exact hS
  have hZ : XZ A s H := by rw [hHe]; exact hZ
  rw [← hHe]
  refine absQ (fun Q hQ => ?_)
  refine lv_aload_n hx hb dL_join_0 rfl (lv_at hl 3 rfl) ?_
  refine lv_iconst (v := 0) hx hb dL_join_1 (by decide) ?_
  refine lv_aload_n hx hb dL_join_2 rfl (lv_at hl 0 rfl) ?_
  refine lv_iload_n hx hb dL_join_3 rfl (lv_at hl 1 rfl) ?_
  refine lv_iload_n hx hb dL_join_4 rfl (lv_at hl 2 rfl) ?_
  have hPc := va_PL hP
  have hDc := va_DL hD
  refine cl_iA (va_runV (As := [.int p0, .int p1]) (rest := [.int 0, .ref ou]) ⟨hx, hb, hml, hown, hts⟩ (hM H.size) (cwV 2 hts gL_join_X4_join rfl rfl rfl (by decide +kernel) ⟨hr1, by show 8 + (3 + 11) + rmc.locals ≤ 900; omega⟩) ⟨xpr_blind, va_recv hK hPc (ci := 4) (q0 := 0) rfl h0, xpr_at hX hZ (fr_app hD hS hA) hN hPc hK hDc⟩ rfl rfl hl.1 rfl (lv_room (Nat.le_of_ble_eq_true rfl)) dL_join_5 ⟨by rw [hr3]; exact Nat.zero_le _, by rw [hr4]; exact Nat.zero_le _⟩) hP hD hS hA (fun H locs hP hD hS => ?_)
  clear hPc hDc
  refine W.widen (k := 1) (n := 6) (by rw [hr3]; exact Nat.zero_le _) (by rw [hr4]; exact Nat.zero_le _) ?_
  refine lv_i2l hx hb dL_join_8 rfl ?_
  have ho : (ws' ++ oC k ou g)[ws'.length]? = some (ou, .inl (k 3, 1, .inr (.inl g))) := by rw [List.getElem?_append_right (Nat.le_refl _), Nat.sub_self]; rfl
  have hse : (ws' ++ oC k ou g).set ws'.length (ou, .inl (k 3, 1, .inr (.inl (vp_updL g 0 r.toInt64)))) = ws' ++ oC k ou (vp_updL g 0 r.toInt64) := by rw [List.set_append_right _ _ (Nat.le_refl _), Nat.sub_self]; rfl
  refine ar_lst hx hb hK hP hD hS ws'.length ho 0 rfl (show vp_in (nI 0) 1 from vp_in_nI (by decide) (by decide)) dL_join_9 hse (fun H locs hP hD hS => ?_)
  refine lv_goto (tgt := 21) hx hb dL_join_10 (by decide) ?_
  refine lv_iconst (v := 0) hx hb dL_join_21 (by decide) ?_
  subst hQ
  exact rt_iD hx hb hr hlocks hS dL_join_22 hP hD rfl

set_option maxHeartbeats 1000000 in
set_option maxRecDepth 100000 in
theorem w_join_t1 (l : Launch) (D : va_G) (k : Nat → ClassId) (x0 ou : Nat) (p0 p1 : Int32) (ws ws' : va_W) (fs : List Value) (g : Nat → Int64) (rmc : Room) (ads : List Nat) (hM : MX l yX4_join wsX4_join rmc D k [.ref x0, .int p0, .int p1] ws "java/lang/IndexOutOfBoundsException" ws') (h0 : ws[0]? = some (x0, .inr (4, fs))) (hr1 : rmc.frames + 1 ≤ 40) (hr2 : rmc.locals ≤ 850) (hr3 : rmc.cells = 1) (hr4 : rmc.slots = 6) (ha1 : ws'.map (fun q => q.1) = ads) (ha2 : ws.map (fun q => q.1) = ads) :
    MYi l yL_join wsL_join RW D k [.ref x0, .int p0, .int p1, .ref ou] (ws ++ oC k ou g) 1 (ws' ++ oC k ou g) := by
  intro sz
  refine mo_WH (cc := cL_join) (maxL := 5) (ret := (some .int)) (by decide) rfl ?_
  intro p e s m args below meth c s₁ B hml htab hv
  obtain ⟨rfl, hX, hZ, hN, hsz, hP, hK, hD0⟩ := hv
  have hx := B.exec
  have hb := B.bytes
  have hr := B.returns
  have hts := atoms_spec (ws := wsL_join) B.pre
  have hown : s.vm.findClass RL = some m.cls := findClass_of_methodNamed B.named
  have hlocks := B.notSynchronized
  subst hsz
  have hD := hD0.self (sz := s.heap.size)
  generalize hAe : va_A (ws ++ oC k ou g) s.heap.size = A at hD hZ ⊢
  have hA : ∀ q : Nat, s.heap.size ≤ q → A q := fun q h => by rw [← hAe]; exact Or.inr h
  have hS : va_S A s.heap s.heap [] := va_S.rf
  have hl := lv_entry ([.ref x0, .int p0, .int p1, .ref ou]) (n := 5) (Nat.le_of_ble_eq_true rfl)
  rw [lg_entry_eq]
  generalize (lg_sl ([.ref x0, .int p0, .int p1, .ref ou]) ++ List.replicate (5 - (lg_sl ([.ref x0, .int p0, .int p1, .ref ou])).length) Slot.unset).toArray = ls at hl ⊢
  have hl : lv_has ls 5 [(0, .ref x0), (1, .int p0), (2, .int p1), (3, .ref ou)] := hl
  obtain ⟨H, hHe⟩ : ∃ H, H = s.heap := ⟨_, rfl⟩
  have hP : va_P D vwCl (ws ++ oC k ou g) H := by rw [hHe]; exact hP
  have hS : va_S A s.heap H [] := by rw [hHe]; exact hS
  have hZ : XZ A s H := by rw [hHe]; exact hZ
  rw [← hHe]
  refine absQ (fun Q hQ => ?_)
  refine lv_aload_n hx hb dL_join_0 rfl (lv_at hl 3 rfl) ?_
  refine lv_iconst (v := 0) hx hb dL_join_1 (by decide) ?_
  refine lv_aload_n hx hb dL_join_2 rfl (lv_at hl 0 rfl) ?_
  refine lv_iload_n hx hb dL_join_3 rfl (lv_at hl 1 rfl) ?_
  refine lv_iload_n hx hb dL_join_4 rfl (lv_at hl 2 rfl) ?_
  have hPc := va_PL hP
  have hDc := va_DL hD
  have hF := fr_app hD hS hA
  refine vx_calli (vx_runV (As := [.int p0, .int p1]) (rest := [.int 0, .ref ou]) ⟨hx, hb, hml, hown, hts⟩ (hM H.size) (cwV 2 hts gL_join_X4_join rfl rfl rfl (by decide +kernel) ⟨hr1, by show 8 + (3 + 11) + rmc.locals ≤ 900; omega⟩) ⟨xpr_blind, va_recv hK hPc (ci := 4) (q0 := 0) rfl h0, xpr_at hX hZ hF hN hPc hK hDc⟩ rfl rfl hl.1 rfl (lv_room (Nat.le_of_ble_eq_true rfl)) dL_join_5 ⟨by rw [hr3]; exact Nat.le_refl _, by rw [hr4]; exact Nat.le_refl _⟩) hS (fun q _ h => hF q h) hF (fun q _ h => hF q h) (fun E ce q9 u t H1 locs ht hvm _ hB hz hk hS hc1 hc2 hc3 => ?_) (fun r u t H1 locs ht hvm hf => hf.elim)
  obtain ⟨rfl, hP1⟩ := hB
  rw [ht] at hP1
  have hD1 : va_D (va_A ws H.size) ws' := (hDc.self (sz := H.size)).addr (ha1.trans ha2.symm)
  obtain ⟨hP, hD⟩ := jn_app hP hD hk hF hP1 hD1
  refine vx_catch (name := "java/lang/IndexOutOfBoundsException") hown [] { startPc := 0, endPc := 10, handlerPc := 13, catchType := 13 } [{ startPc := 0, endPc := 10, handlerPc := 17, catchType := 15 }] htab (fun z hz => nomatch hz) (by decide) (by decide) (hts _ (List.mem_of_getElem? (i := 1) rfl)) (va_Nw.use rfl hX.1.1) hc1 hc2 hc3 ?_
  refine W.widen (k := 1) (n := 6) (by rw [hr3]; exact Nat.le_refl _) (by rw [hr4]; exact Nat.le_refl _) ?_
  refine lv_astore (lv' := [(4, .ref q9), (0, .ref x0), (1, .int p0), (2, .int p1), (3, .ref ou)]) hx hb dL_join_13 hl (by decide) rfl (fun ls hl => ?_)
  refine lv_iconst (v := 1) hx hb dL_join_15 (by decide) ?_
  subst hQ
  exact rt_iD hx hb hr hlocks hS dL_join_16 hP hD rfl

set_option maxHeartbeats 1000000 in
set_option maxRecDepth 100000 in
theorem w_join_t2 (l : Launch) (D : va_G) (k : Nat → ClassId) (x0 ou : Nat) (p0 p1 : Int32) (ws ws' : va_W) (fs : List Value) (g : Nat → Int64) (rmc : Room) (ads : List Nat) (hM : MX l yX4_join wsX4_join rmc D k [.ref x0, .int p0, .int p1] ws "java/lang/IllegalArgumentException" ws') (h0 : ws[0]? = some (x0, .inr (4, fs))) (hr1 : rmc.frames + 1 ≤ 40) (hr2 : rmc.locals ≤ 850) (hr3 : rmc.cells = 1) (hr4 : rmc.slots = 6) (ha1 : ws'.map (fun q => q.1) = ads) (ha2 : ws.map (fun q => q.1) = ads) :
    MYi l yL_join wsL_join RW D k [.ref x0, .int p0, .int p1, .ref ou] (ws ++ oC k ou g) 2 (ws' ++ oC k ou g) := by
  intro sz
  refine mo_WH (cc := cL_join) (maxL := 5) (ret := (some .int)) (by decide) rfl ?_
  intro p e s m args below meth c s₁ B hml htab hv
  obtain ⟨rfl, hX, hZ, hN, hsz, hP, hK, hD0⟩ := hv
  have hx := B.exec
  have hb := B.bytes
  have hr := B.returns
  have hts := atoms_spec (ws := wsL_join) B.pre
  have hown : s.vm.findClass RL = some m.cls := findClass_of_methodNamed B.named
  have hlocks := B.notSynchronized
  subst hsz
  have hD := hD0.self (sz := s.heap.size)
  generalize hAe : va_A (ws ++ oC k ou g) s.heap.size = A at hD hZ ⊢
  have hA : ∀ q : Nat, s.heap.size ≤ q → A q := fun q h => by rw [← hAe]; exact Or.inr h
  have hS : va_S A s.heap s.heap [] := va_S.rf
  have hl := lv_entry ([.ref x0, .int p0, .int p1, .ref ou]) (n := 5) (Nat.le_of_ble_eq_true rfl)
  rw [lg_entry_eq]
  generalize (lg_sl ([.ref x0, .int p0, .int p1, .ref ou]) ++ List.replicate (5 - (lg_sl ([.ref x0, .int p0, .int p1, .ref ou])).length) Slot.unset).toArray = ls at hl ⊢
  have hl : lv_has ls 5 [(0, .ref x0), (1, .int p0), (2, .int p1), (3, .ref ou)] := hl
  obtain ⟨H, hHe⟩ : ∃ H, H = s.heap := ⟨_, rfl⟩
  have hP : va_P D vwCl (ws ++ oC k ou g) H := by rw [hHe]; exact hP
  have hS : va_S A s.heap H [] := by rw [hHe]; exact hS
  have hZ : XZ A s H := by rw [hHe]; exact hZ
  rw [← hHe]
  refine absQ (fun Q hQ => ?_)
  refine lv_aload_n hx hb dL_join_0 rfl (lv_at hl 3 rfl) ?_
  refine lv_iconst (v := 0) hx hb dL_join_1 (by decide) ?_
  refine lv_aload_n hx hb dL_join_2 rfl (lv_at hl 0 rfl) ?_
  refine lv_iload_n hx hb dL_join_3 rfl (lv_at hl 1 rfl) ?_
  refine lv_iload_n hx hb dL_join_4 rfl (lv_at hl 2 rfl) ?_
  have hPc := va_PL hP
  have hDc := va_DL hD
  have hF := fr_app hD hS hA
  refine vx_calli (vx_runV (As := [.int p0, .int p1]) (rest := [.int 0, .ref ou]) ⟨hx, hb, hml, hown, hts⟩ (hM H.size) (cwV 2 hts gL_join_X4_join rfl rfl rfl (by decide +kernel) ⟨hr1, by show 8 + (3 + 11) + rmc.locals ≤ 900; omega⟩) ⟨xpr_blind, va_recv hK hPc (ci := 4) (q0 := 0) rfl h0, xpr_at hX hZ hF hN hPc hK hDc⟩ rfl rfl hl.1 rfl (lv_room (Nat.le_of_ble_eq_true rfl)) dL_join_5 ⟨by rw [hr3]; exact Nat.le_refl _, by rw [hr4]; exact Nat.le_refl _⟩) hS (fun q _ h => hF q h) hF (fun q _ h => hF q h) (fun E ce q9 u t H1 locs ht hvm _ hB hz hk hS hc1 hc2 hc3 => ?_) (fun r u t H1 locs ht hvm hf => hf.elim)
  obtain ⟨rfl, hP1⟩ := hB
  rw [ht] at hP1
  have hD1 : va_D (va_A ws H.size) ws' := (hDc.self (sz := H.size)).addr (ha1.trans ha2.symm)
  obtain ⟨hP, hD⟩ := jn_app hP hD hk hF hP1 hD1
  refine vx_catch (name := "java/lang/IllegalArgumentException") hown [{ startPc := 0, endPc := 10, handlerPc := 13, catchType := 13 }] { startPc := 0, endPc := 10, handlerPc := 17, catchType := 15 } [] htab (fun z hz => (List.mem_cons.mp hz).elim (fun e9 => by subst e9; exact Or.inr ⟨by decide, "java/lang/IndexOutOfBoundsException", hts _ (List.mem_of_getElem? (i := 1) rfl), hX.2.1⟩) (fun h9 => nomatch h9)) (by decide) (by decide) (hts _ (List.mem_of_getElem? (i := 2) rfl)) (va_Nw.use rfl hX.1.2.1) hc1 hc2 hc3 ?_
  refine W.widen (k := 1) (n := 6) (by rw [hr3]; exact Nat.le_refl _) (by rw [hr4]; exact Nat.le_refl _) ?_
  refine lv_astore (lv' := [(4, .ref q9), (0, .ref x0), (1, .int p0), (2, .int p1), (3, .ref ou)]) hx hb dL_join_17 hl (by decide) rfl (fun ls hl => ?_)
  refine lv_iconst (v := 2) hx hb dL_join_19 (by decide) ?_
  subst hQ
  exact rt_iD hx hb hr hlocks hS dL_join_20 hP hD rfl

set_option maxHeartbeats 1000000 in
set_option maxRecDepth 100000 in
theorem w_mark (l : Launch) (D : va_G) (k : Nat → ClassId) (x0 ou : Nat) (p0 p1 : Int32) (ws ws' : va_W) (fs : List Value) (g : Nat → Int64) (r : Int32) (rmc : Room) (hM : MYi l yX4_mark wsX4_mark rmc D k [.ref x0, .int p0, .int p1] ws r ws') (h0 : ws[0]? = some (x0, .inr (4, fs))) (hr1 : rmc.frames + 1 ≤ 40) (hr2 : rmc.locals ≤ 850) (hr3 : rmc.cells = 0) (hr4 : rmc.slots = 0) :
    MYi l yL_mark wsL_mark RW D k [.ref x0, .int p0, .int p1, .ref ou] (ws ++ oC k ou g) 0 (ws' ++ oC k ou (vp_updL g 0 r.toInt64)) := by
  intro sz
  refine mo_WH (cc := cL_mark) (maxL := 5) (ret := (some .int)) (by decide) rfl ?_
  intro p e s m args below meth c s₁ B hml htab hv
  obtain ⟨rfl, hX, hZ, hN, hsz, hP, hK, hD0⟩ := hv
  have hx := B.exec
  have hb := B.bytes
  have hr := B.returns
  have hts := atoms_spec (ws := wsL_mark) B.pre
  have hown : s.vm.findClass RL = some m.cls := findClass_of_methodNamed B.named
  have hlocks := B.notSynchronized
  subst hsz
  have hD := hD0.self (sz := s.heap.size)
  generalize hAe : va_A (ws ++ oC k ou g) s.heap.size = A at hD hZ ⊢
  have hA : ∀ q : Nat, s.heap.size ≤ q → A q := fun q h => by rw [← hAe]; exact Or.inr h
  have hS : va_S A s.heap s.heap [] := va_S.rf
  have hl := lv_entry ([.ref x0, .int p0, .int p1, .ref ou]) (n := 5) (Nat.le_of_ble_eq_true rfl)
  rw [lg_entry_eq]
  generalize (lg_sl ([.ref x0, .int p0, .int p1, .ref ou]) ++ List.replicate (5 - (lg_sl ([.ref x0, .int p0, .int p1, .ref ou])).length) Slot.unset).toArray = ls at hl ⊢
  have hl : lv_has ls 5 [(0, .ref x0), (1, .int p0), (2, .int p1), (3, .ref ou)] := hl
  obtain ⟨H, hHe⟩ : ∃ H, H = s.heap := ⟨_, rfl⟩
  have hP : va_P D vwCl (ws ++ oC k ou g) H := by rw [hHe]; exact hP
  have hS : va_S A s.heap H [] := by rw [hHe]; exact hS
  have hZ : XZ A s H := by rw [hHe]; exact hZ
  rw [← hHe]
  refine absQ (fun Q hQ => ?_)
  refine lv_aload_n hx hb dL_mark_0 rfl (lv_at hl 3 rfl) ?_
  refine lv_iconst (v := 0) hx hb dL_mark_1 (by decide) ?_
  refine lv_aload_n hx hb dL_mark_2 rfl (lv_at hl 0 rfl) ?_
  refine lv_iload_n hx hb dL_mark_3 rfl (lv_at hl 1 rfl) ?_
  refine lv_iload_n hx hb dL_mark_4 rfl (lv_at hl 2 rfl) ?_
  have hPc := va_PL hP
  have hDc := va_DL hD
  refine cl_iA (va_runV (As := [.int p0, .int p1]) (rest := [.int 0, .ref ou]) ⟨hx, hb, hml, hown, hts⟩ (hM H.size) (cwV 2 hts gL_mark_X4_mark rfl rfl rfl (by decide +kernel) ⟨hr1, by show 8 + (4 + 11) + rmc.locals ≤ 900; omega⟩) ⟨xpr_blind, va_recv hK hPc (ci := 4) (q0 := 0) rfl h0, xpr_at hX hZ (fr_app hD hS hA) hN hPc hK hDc⟩ rfl rfl hl.1 rfl (lv_room (Nat.le_of_ble_eq_true rfl)) dL_mark_5 ⟨by rw [hr3]; exact Nat.zero_le _, by rw [hr4]; exact Nat.zero_le _⟩) hP hD hS hA (fun H locs hP hD hS => ?_)
  clear hPc hDc
  refine W.widen (k := 1) (n := 6) (by rw [hr3]; exact Nat.zero_le _) (by rw [hr4]; exact Nat.zero_le _) ?_
  refine lv_i2l hx hb dL_mark_8 rfl ?_
  have ho : (ws' ++ oC k ou g)[ws'.length]? = some (ou, .inl (k 3, 1, .inr (.inl g))) := by rw [List.getElem?_append_right (Nat.le_refl _), Nat.sub_self]; rfl
  have hse : (ws' ++ oC k ou g).set ws'.length (ou, .inl (k 3, 1, .inr (.inl (vp_updL g 0 r.toInt64)))) = ws' ++ oC k ou (vp_updL g 0 r.toInt64) := by rw [List.set_append_right _ _ (Nat.le_refl _), Nat.sub_self]; rfl
  refine ar_lst hx hb hK hP hD hS ws'.length ho 0 rfl (show vp_in (nI 0) 1 from vp_in_nI (by decide) (by decide)) dL_mark_9 hse (fun H locs hP hD hS => ?_)
  refine lv_goto (tgt := 21) hx hb dL_mark_10 (by decide) ?_
  refine lv_iconst (v := 0) hx hb dL_mark_21 (by decide) ?_
  subst hQ
  exact rt_iD hx hb hr hlocks hS dL_mark_22 hP hD rfl

set_option maxHeartbeats 1000000 in
set_option maxRecDepth 100000 in
theorem w_mark_t1 (l : Launch) (D : va_G) (k : Nat → ClassId) (x0 ou : Nat) (p0 p1 : Int32) (ws ws' : va_W) (fs : List Value) (g : Nat → Int64) (rmc : Room) (ads : List Nat) (hM : MX l yX4_mark wsX4_mark rmc D k [.ref x0, .int p0, .int p1] ws "java/lang/IndexOutOfBoundsException" ws') (h0 : ws[0]? = some (x0, .inr (4, fs))) (hr1 : rmc.frames + 1 ≤ 40) (hr2 : rmc.locals ≤ 850) (hr3 : rmc.cells = 1) (hr4 : rmc.slots = 6) (ha1 : ws'.map (fun q => q.1) = ads) (ha2 : ws.map (fun q => q.1) = ads) :
    MYi l yL_mark wsL_mark RW D k [.ref x0, .int p0, .int p1, .ref ou] (ws ++ oC k ou g) 1 (ws' ++ oC k ou g) := by
  intro sz
  refine mo_WH (cc := cL_mark) (maxL := 5) (ret := (some .int)) (by decide) rfl ?_
  intro p e s m args below meth c s₁ B hml htab hv
  obtain ⟨rfl, hX, hZ, hN, hsz, hP, hK, hD0⟩ := hv
  have hx := B.exec
  have hb := B.bytes
  have hr := B.returns
  have hts := atoms_spec (ws := wsL_mark) B.pre
  have hown : s.vm.findClass RL = some m.cls := findClass_of_methodNamed B.named
  have hlocks := B.notSynchronized
  subst hsz
  have hD := hD0.self (sz := s.heap.size)
  generalize hAe : va_A (ws ++ oC k ou g) s.heap.size = A at hD hZ ⊢
  have hA : ∀ q : Nat, s.heap.size ≤ q → A q := fun q h => by rw [← hAe]; exact Or.inr h
  have hS : va_S A s.heap s.heap [] := va_S.rf
  have hl := lv_entry ([.ref x0, .int p0, .int p1, .ref ou]) (n := 5) (Nat.le_of_ble_eq_true rfl)
  rw [lg_entry_eq]
  generalize (lg_sl ([.ref x0, .int p0, .int p1, .ref ou]) ++ List.replicate (5 - (lg_sl ([.ref x0, .int p0, .int p1, .ref ou])).length) Slot.unset).toArray = ls at hl ⊢
  have hl : lv_has ls 5 [(0, .ref x0), (1, .int p0), (2, .int p1), (3, .ref ou)] := hl
  obtain ⟨H, hHe⟩ : ∃ H, H = s.heap := ⟨_, rfl⟩
  have hP : va_P D vwCl (ws ++ oC k ou g) H := by rw [hHe]; exact hP
  have hS : va_S A s.heap H [] := by rw [hHe]; exact hS
  have hZ : XZ A s H := by rw [hHe]; exact hZ
  rw [← hHe]
  refine absQ (fun Q hQ => ?_)
  refine lv_aload_n hx hb dL_mark_0 rfl (lv_at hl 3 rfl) ?_
  refine lv_iconst (v := 0) hx hb dL_mark_1 (by decide) ?_
  refine lv_aload_n hx hb dL_mark_2 rfl (lv_at hl 0 rfl) ?_
  refine lv_iload_n hx hb dL_mark_3 rfl (lv_at hl 1 rfl) ?_
  refine lv_iload_n hx hb dL_mark_4 rfl (lv_at hl 2 rfl) ?_
  have hPc := va_PL hP
  have hDc := va_DL hD
  have hF := fr_app hD hS hA
  refine vx_calli (vx_runV (As := [.int p0, .int p1]) (rest := [.int 0, .ref ou]) ⟨hx, hb, hml, hown, hts⟩ (hM H.size) (cwV 2 hts gL_mark_X4_mark rfl rfl rfl (by decide +kernel) ⟨hr1, by show 8 + (4 + 11) + rmc.locals ≤ 900; omega⟩) ⟨xpr_blind, va_recv hK hPc (ci := 4) (q0 := 0) rfl h0, xpr_at hX hZ hF hN hPc hK hDc⟩ rfl rfl hl.1 rfl (lv_room (Nat.le_of_ble_eq_true rfl)) dL_mark_5 ⟨by rw [hr3]; exact Nat.le_refl _, by rw [hr4]; exact Nat.le_refl _⟩) hS (fun q _ h => hF q h) hF (fun q _ h => hF q h) (fun E ce q9 u t H1 locs ht hvm _ hB hz hk hS hc1 hc2 hc3 => ?_) (fun r u t H1 locs ht hvm hf => hf.elim)
  obtain ⟨rfl, hP1⟩ := hB
  rw [ht] at hP1
  have hD1 : va_D (va_A ws H.size) ws' := (hDc.self (sz := H.size)).addr (ha1.trans ha2.symm)
  obtain ⟨hP, hD⟩ := jn_app hP hD hk hF hP1 hD1
  refine vx_catch (name := "java/lang/IndexOutOfBoundsException") hown [] { startPc := 0, endPc := 10, handlerPc := 13, catchType := 13 } [{ startPc := 0, endPc := 10, handlerPc := 17, catchType := 15 }] htab (fun z hz => nomatch hz) (by decide) (by decide) (hts _ (List.mem_of_getElem? (i := 1) rfl)) (va_Nw.use rfl hX.1.1) hc1 hc2 hc3 ?_
  refine W.widen (k := 1) (n := 6) (by rw [hr3]; exact Nat.le_refl _) (by rw [hr4]; exact Nat.le_refl _) ?_
  refine lv_astore (lv' := [(4, .ref q9), (0, .ref x0), (1, .int p0), (2, .int p1), (3, .ref ou)]) hx hb dL_mark_13 hl (by decide) rfl (fun ls hl => ?_)
  refine lv_iconst (v := 1) hx hb dL_mark_15 (by decide) ?_
  subst hQ
  exact rt_iD hx hb hr hlocks hS dL_mark_16 hP hD rfl

set_option maxHeartbeats 1000000 in
set_option maxRecDepth 100000 in
theorem w_mark_t2 (l : Launch) (D : va_G) (k : Nat → ClassId) (x0 ou : Nat) (p0 p1 : Int32) (ws ws' : va_W) (fs : List Value) (g : Nat → Int64) (rmc : Room) (ads : List Nat) (hM : MX l yX4_mark wsX4_mark rmc D k [.ref x0, .int p0, .int p1] ws "java/lang/IllegalArgumentException" ws') (h0 : ws[0]? = some (x0, .inr (4, fs))) (hr1 : rmc.frames + 1 ≤ 40) (hr2 : rmc.locals ≤ 850) (hr3 : rmc.cells = 1) (hr4 : rmc.slots = 6) (ha1 : ws'.map (fun q => q.1) = ads) (ha2 : ws.map (fun q => q.1) = ads) :
    MYi l yL_mark wsL_mark RW D k [.ref x0, .int p0, .int p1, .ref ou] (ws ++ oC k ou g) 2 (ws' ++ oC k ou g) := by
  intro sz
  refine mo_WH (cc := cL_mark) (maxL := 5) (ret := (some .int)) (by decide) rfl ?_
  intro p e s m args below meth c s₁ B hml htab hv
  obtain ⟨rfl, hX, hZ, hN, hsz, hP, hK, hD0⟩ := hv
  have hx := B.exec
  have hb := B.bytes
  have hr := B.returns
  have hts := atoms_spec (ws := wsL_mark) B.pre
  have hown : s.vm.findClass RL = some m.cls := findClass_of_methodNamed B.named
  have hlocks := B.notSynchronized
  subst hsz
  have hD := hD0.self (sz := s.heap.size)
  generalize hAe : va_A (ws ++ oC k ou g) s.heap.size = A at hD hZ ⊢
  have hA : ∀ q : Nat, s.heap.size ≤ q → A q := fun q h => by rw [← hAe]; exact Or.inr h
  have hS : va_S A s.heap s.heap [] := va_S.rf
  have hl := lv_entry ([.ref x0, .int p0, .int p1, .ref ou]) (n := 5) (Nat.le_of_ble_eq_true rfl)
  rw [lg_entry_eq]
  generalize (lg_sl ([.ref x0, .int p0, .int p1, .ref ou]) ++ List.replicate (5 - (lg_sl ([.ref x0, .int p0, .int p1, .ref ou])).length) Slot.unset).toArray = ls at hl ⊢
  have hl : lv_has ls 5 [(0, .ref x0), (1, .int p0), (2, .int p1), (3, .ref ou)] := hl
  obtain ⟨H, hHe⟩ : ∃ H, H = s.heap := ⟨_, rfl⟩
  have hP : va_P D vwCl (ws ++ oC k ou g) H := by rw [hHe]; exact hP
  have hS : va_S A s.heap H [] := by rw [hHe]; exact hS
  have hZ : XZ A s H := by rw [hHe]; exact hZ
  rw [← hHe]
  refine absQ (fun Q hQ => ?_)
  refine lv_aload_n hx hb dL_mark_0 rfl (lv_at hl 3 rfl) ?_
  refine lv_iconst (v := 0) hx hb dL_mark_1 (by decide) ?_
  refine lv_aload_n hx hb dL_mark_2 rfl (lv_at hl 0 rfl) ?_
  refine lv_iload_n hx hb dL_mark_3 rfl (lv_at hl 1 rfl) ?_
  refine lv_iload_n hx hb dL_mark_4 rfl (lv_at hl 2 rfl) ?_
  have hPc := va_PL hP
  have hDc := va_DL hD
  have hF := fr_app hD hS hA
  refine vx_calli (vx_runV (As := [.int p0, .int p1]) (rest := [.int 0, .ref ou]) ⟨hx, hb, hml, hown, hts⟩ (hM H.size) (cwV 2 hts gL_mark_X4_mark rfl rfl rfl (by decide +kernel) ⟨hr1, by show 8 + (4 + 11) + rmc.locals ≤ 900; omega⟩) ⟨xpr_blind, va_recv hK hPc (ci := 4) (q0 := 0) rfl h0, xpr_at hX hZ hF hN hPc hK hDc⟩ rfl rfl hl.1 rfl (lv_room (Nat.le_of_ble_eq_true rfl)) dL_mark_5 ⟨by rw [hr3]; exact Nat.le_refl _, by rw [hr4]; exact Nat.le_refl _⟩) hS (fun q _ h => hF q h) hF (fun q _ h => hF q h) (fun E ce q9 u t H1 locs ht hvm _ hB hz hk hS hc1 hc2 hc3 => ?_) (fun r u t H1 locs ht hvm hf => hf.elim)
  obtain ⟨rfl, hP1⟩ := hB
  rw [ht] at hP1
  have hD1 : va_D (va_A ws H.size) ws' := (hDc.self (sz := H.size)).addr (ha1.trans ha2.symm)
  obtain ⟨hP, hD⟩ := jn_app hP hD hk hF hP1 hD1
  refine vx_catch (name := "java/lang/IllegalArgumentException") hown [{ startPc := 0, endPc := 10, handlerPc := 13, catchType := 13 }] { startPc := 0, endPc := 10, handlerPc := 17, catchType := 15 } [] htab (fun z hz => (List.mem_cons.mp hz).elim (fun e9 => by subst e9; exact Or.inr ⟨by decide, "java/lang/IndexOutOfBoundsException", hts _ (List.mem_of_getElem? (i := 1) rfl), hX.2.1⟩) (fun h9 => nomatch h9)) (by decide) (by decide) (hts _ (List.mem_of_getElem? (i := 2) rfl)) (va_Nw.use rfl hX.1.2.1) hc1 hc2 hc3 ?_
  refine W.widen (k := 1) (n := 6) (by rw [hr3]; exact Nat.le_refl _) (by rw [hr4]; exact Nat.le_refl _) ?_
  refine lv_astore (lv' := [(4, .ref q9), (0, .ref x0), (1, .int p0), (2, .int p1), (3, .ref ou)]) hx hb dL_mark_17 hl (by decide) rfl (fun ls hl => ?_)
  refine lv_iconst (v := 2) hx hb dL_mark_19 (by decide) ?_
  subst hQ
  exact rt_iD hx hb hr hlocks hS dL_mark_20 hP hD rfl

set_option maxHeartbeats 1000000 in
set_option maxRecDepth 100000 in
theorem w_bar (l : Launch) (D : va_G) (k : Nat → ClassId) (x0 ou : Nat) (p0 p1 : Int32) (ws ws' : va_W) (fs : List Value) (g : Nat → Int64) (r : Int32) (rmc : Room) (hM : MYi l yX4_bar wsX4_bar rmc D k [.ref x0, .int p0, .int p1] ws r ws') (h0 : ws[0]? = some (x0, .inr (4, fs))) (hr1 : rmc.frames + 1 ≤ 40) (hr2 : rmc.locals ≤ 850) (hr3 : rmc.cells = 0) (hr4 : rmc.slots = 0) :
    MYi l yL_bar wsL_bar RW D k [.ref x0, .int p0, .int p1, .ref ou] (ws ++ oC k ou g) 0 (ws' ++ oC k ou (vp_updL g 0 r.toInt64)) := by
  intro sz
  refine mo_WH (cc := cL_bar) (maxL := 5) (ret := (some .int)) (by decide) rfl ?_
  intro p e s m args below meth c s₁ B hml htab hv
  obtain ⟨rfl, hX, hZ, hN, hsz, hP, hK, hD0⟩ := hv
  have hx := B.exec
  have hb := B.bytes
  have hr := B.returns
  have hts := atoms_spec (ws := wsL_bar) B.pre
  have hown : s.vm.findClass RL = some m.cls := findClass_of_methodNamed B.named
  have hlocks := B.notSynchronized
  subst hsz
  have hD := hD0.self (sz := s.heap.size)
  generalize hAe : va_A (ws ++ oC k ou g) s.heap.size = A at hD hZ ⊢
  have hA : ∀ q : Nat, s.heap.size ≤ q → A q := fun q h => by rw [← hAe]; exact Or.inr h
  have hS : va_S A s.heap s.heap [] := va_S.rf
  have hl := lv_entry ([.ref x0, .int p0, .int p1, .ref ou]) (n := 5) (Nat.le_of_ble_eq_true rfl)
  rw [lg_entry_eq]
  generalize (lg_sl ([.ref x0, .int p0, .int p1, .ref ou]) ++ List.replicate (5 - (lg_sl ([.ref x0, .int p0, .int p1, .ref ou])).length) Slot.unset).toArray = ls at hl ⊢
  have hl : lv_has ls 5 [(0, .ref x0), (1, .int p0), (2, .int p1), (3, .ref ou)] := hl
  obtain ⟨H, hHe⟩ : ∃ H, H = s.heap := ⟨_, rfl⟩
  have hP : va_P D vwCl (ws ++ oC k ou g) H := by rw [hHe]; exact hP
  have hS : va_S A s.heap H [] := by rw [hHe]; exact hS
  have hZ : XZ A s H := by rw [hHe]; exact hZ
  rw [← hHe]
  refine absQ (fun Q hQ => ?_)
  refine lv_aload_n hx hb dL_bar_0 rfl (lv_at hl 3 rfl) ?_
  refine lv_iconst (v := 0) hx hb dL_bar_1 (by decide) ?_
  refine lv_aload_n hx hb dL_bar_2 rfl (lv_at hl 0 rfl) ?_
  refine lv_iload_n hx hb dL_bar_3 rfl (lv_at hl 1 rfl) ?_
  refine lv_iload_n hx hb dL_bar_4 rfl (lv_at hl 2 rfl) ?_
  have hPc := va_PL hP
  have hDc := va_DL hD
  refine cl_iA (va_runV (As := [.int p0, .int p1]) (rest := [.int 0, .ref ou]) ⟨hx, hb, hml, hown, hts⟩ (hM H.size) (cwV 2 hts gL_bar_X4_bar rfl rfl rfl (by decide +kernel) ⟨hr1, by show 8 + (3 + 11) + rmc.locals ≤ 900; omega⟩) ⟨xpr_blind, va_recv hK hPc (ci := 4) (q0 := 0) rfl h0, xpr_at hX hZ (fr_app hD hS hA) hN hPc hK hDc⟩ rfl rfl hl.1 rfl (lv_room (Nat.le_of_ble_eq_true rfl)) dL_bar_5 ⟨by rw [hr3]; exact Nat.zero_le _, by rw [hr4]; exact Nat.zero_le _⟩) hP hD hS hA (fun H locs hP hD hS => ?_)
  clear hPc hDc
  refine W.widen (k := 1) (n := 6) (by rw [hr3]; exact Nat.zero_le _) (by rw [hr4]; exact Nat.zero_le _) ?_
  refine lv_i2l hx hb dL_bar_8 rfl ?_
  have ho : (ws' ++ oC k ou g)[ws'.length]? = some (ou, .inl (k 3, 1, .inr (.inl g))) := by rw [List.getElem?_append_right (Nat.le_refl _), Nat.sub_self]; rfl
  have hse : (ws' ++ oC k ou g).set ws'.length (ou, .inl (k 3, 1, .inr (.inl (vp_updL g 0 r.toInt64)))) = ws' ++ oC k ou (vp_updL g 0 r.toInt64) := by rw [List.set_append_right _ _ (Nat.le_refl _), Nat.sub_self]; rfl
  refine ar_lst hx hb hK hP hD hS ws'.length ho 0 rfl (show vp_in (nI 0) 1 from vp_in_nI (by decide) (by decide)) dL_bar_9 hse (fun H locs hP hD hS => ?_)
  refine lv_goto (tgt := 21) hx hb dL_bar_10 (by decide) ?_
  refine lv_iconst (v := 0) hx hb dL_bar_21 (by decide) ?_
  subst hQ
  exact rt_iD hx hb hr hlocks hS dL_bar_22 hP hD rfl

set_option maxHeartbeats 1000000 in
set_option maxRecDepth 100000 in
theorem w_bar_t1 (l : Launch) (D : va_G) (k : Nat → ClassId) (x0 ou : Nat) (p0 p1 : Int32) (ws ws' : va_W) (fs : List Value) (g : Nat → Int64) (rmc : Room) (ads : List Nat) (hM : MX l yX4_bar wsX4_bar rmc D k [.ref x0, .int p0, .int p1] ws "java/lang/IndexOutOfBoundsException" ws') (h0 : ws[0]? = some (x0, .inr (4, fs))) (hr1 : rmc.frames + 1 ≤ 40) (hr2 : rmc.locals ≤ 850) (hr3 : rmc.cells = 1) (hr4 : rmc.slots = 6) (ha1 : ws'.map (fun q => q.1) = ads) (ha2 : ws.map (fun q => q.1) = ads) :
    MYi l yL_bar wsL_bar RW D k [.ref x0, .int p0, .int p1, .ref ou] (ws ++ oC k ou g) 1 (ws' ++ oC k ou g) := by
  intro sz
  refine mo_WH (cc := cL_bar) (maxL := 5) (ret := (some .int)) (by decide) rfl ?_
  intro p e s m args below meth c s₁ B hml htab hv
  obtain ⟨rfl, hX, hZ, hN, hsz, hP, hK, hD0⟩ := hv
  have hx := B.exec
  have hb := B.bytes
  have hr := B.returns
  have hts := atoms_spec (ws := wsL_bar) B.pre
  have hown : s.vm.findClass RL = some m.cls := findClass_of_methodNamed B.named
  have hlocks := B.notSynchronized
  subst hsz
  have hD := hD0.self (sz := s.heap.size)
  generalize hAe : va_A (ws ++ oC k ou g) s.heap.size = A at hD hZ ⊢
  have hA : ∀ q : Nat, s.heap.size ≤ q → A q := fun q h => by rw [← hAe]; exact Or.inr h
  have hS : va_S A s.heap s.heap [] := va_S.rf
  have hl := lv_entry ([.ref x0, .int p0, .int p1, .ref ou]) (n := 5) (Nat.le_of_ble_eq_true rfl)
  rw [lg_entry_eq]
  generalize (lg_sl ([.ref x0, .int p0, .int p1, .ref ou]) ++ List.replicate (5 - (lg_sl ([.ref x0, .int p0, .int p1, .ref ou])).length) Slot.unset).toArray = ls at hl ⊢
  have hl : lv_has ls 5 [(0, .ref x0), (1, .int p0), (2, .int p1), (3, .ref ou)] := hl
  obtain ⟨H, hHe⟩ : ∃ H, H = s.heap := ⟨_, rfl⟩
  have hP : va_P D vwCl (ws ++ oC k ou g) H := by rw [hHe]; exact hP
  have hS : va_S A s.heap H [] := by rw [hHe]; exact hS
  have hZ : XZ A s H := by rw [hHe]; exact hZ
  rw [← hHe]
  refine absQ (fun Q hQ => ?_)
  refine lv_aload_n hx hb dL_bar_0 rfl (lv_at hl 3 rfl) ?_
  refine lv_iconst (v := 0) hx hb dL_bar_1 (by decide) ?_
  refine lv_aload_n hx hb dL_bar_2 rfl (lv_at hl 0 rfl) ?_
  refine lv_iload_n hx hb dL_bar_3 rfl (lv_at hl 1 rfl) ?_
  refine lv_iload_n hx hb dL_bar_4 rfl (lv_at hl 2 rfl) ?_
  have hPc := va_PL hP
  have hDc := va_DL hD
  have hF := fr_app hD hS hA
  refine vx_calli (vx_runV (As := [.int p0, .int p1]) (rest := [.int 0, .ref ou]) ⟨hx, hb, hml, hown, hts⟩ (hM H.size) (cwV 2 hts gL_bar_X4_bar rfl rfl rfl (by decide +kernel) ⟨hr1, by show 8 + (3 + 11) + rmc.locals ≤ 900; omega⟩) ⟨xpr_blind, va_recv hK hPc (ci := 4) (q0 := 0) rfl h0, xpr_at hX hZ hF hN hPc hK hDc⟩ rfl rfl hl.1 rfl (lv_room (Nat.le_of_ble_eq_true rfl)) dL_bar_5 ⟨by rw [hr3]; exact Nat.le_refl _, by rw [hr4]; exact Nat.le_refl _⟩) hS (fun q _ h => hF q h) hF (fun q _ h => hF q h) (fun E ce q9 u t H1 locs ht hvm _ hB hz hk hS hc1 hc2 hc3 => ?_) (fun r u t H1 locs ht hvm hf => hf.elim)
  obtain ⟨rfl, hP1⟩ := hB
  rw [ht] at hP1
  have hD1 : va_D (va_A ws H.size) ws' := (hDc.self (sz := H.size)).addr (ha1.trans ha2.symm)
  obtain ⟨hP, hD⟩ := jn_app hP hD hk hF hP1 hD1
  refine vx_catch (name := "java/lang/IndexOutOfBoundsException") hown [] { startPc := 0, endPc := 10, handlerPc := 13, catchType := 13 } [{ startPc := 0, endPc := 10, handlerPc := 17, catchType := 15 }] htab (fun z hz => nomatch hz) (by decide) (by decide) (hts _ (List.mem_of_getElem? (i := 1) rfl)) (va_Nw.use rfl hX.1.1) hc1 hc2 hc3 ?_
  refine W.widen (k := 1) (n := 6) (by rw [hr3]; exact Nat.le_refl _) (by rw [hr4]; exact Nat.le_refl _) ?_
  refine lv_astore (lv' := [(4, .ref q9), (0, .ref x0), (1, .int p0), (2, .int p1), (3, .ref ou)]) hx hb dL_bar_13 hl (by decide) rfl (fun ls hl => ?_)
  refine lv_iconst (v := 1) hx hb dL_bar_15 (by decide) ?_
  subst hQ
  exact rt_iD hx hb hr hlocks hS dL_bar_16 hP hD rfl

set_option maxHeartbeats 1000000 in
set_option maxRecDepth 100000 in
theorem w_bar_t2 (l : Launch) (D : va_G) (k : Nat → ClassId) (x0 ou : Nat) (p0 p1 : Int32) (ws ws' : va_W) (fs : List Value) (g : Nat → Int64) (rmc : Room) (ads : List Nat) (hM : MX l yX4_bar wsX4_bar rmc D k [.ref x0, .int p0, .int p1] ws "java/lang/IllegalArgumentException" ws') (h0 : ws[0]? = some (x0, .inr (4, fs))) (hr1 : rmc.frames + 1 ≤ 40) (hr2 : rmc.locals ≤ 850) (hr3 : rmc.cells = 1) (hr4 : rmc.slots = 6) (ha1 : ws'.map (fun q => q.1) = ads) (ha2 : ws.map (fun q => q.1) = ads) :
    MYi l yL_bar wsL_bar RW D k [.ref x0, .int p0, .int p1, .ref ou] (ws ++ oC k ou g) 2 (ws' ++ oC k ou g) := by
  intro sz
  refine mo_WH (cc := cL_bar) (maxL := 5) (ret := (some .int)) (by decide) rfl ?_
  intro p e s m args below meth c s₁ B hml htab hv
  obtain ⟨rfl, hX, hZ, hN, hsz, hP, hK, hD0⟩ := hv
  have hx := B.exec
  have hb := B.bytes
  have hr := B.returns
  have hts := atoms_spec (ws := wsL_bar) B.pre
  have hown : s.vm.findClass RL = some m.cls := findClass_of_methodNamed B.named
  have hlocks := B.notSynchronized
  subst hsz
  have hD := hD0.self (sz := s.heap.size)
  generalize hAe : va_A (ws ++ oC k ou g) s.heap.size = A at hD hZ ⊢
  have hA : ∀ q : Nat, s.heap.size ≤ q → A q := fun q h => by rw [← hAe]; exact Or.inr h
  have hS : va_S A s.heap s.heap [] := va_S.rf
  have hl := lv_entry ([.ref x0, .int p0, .int p1, .ref ou]) (n := 5) (Nat.le_of_ble_eq_true rfl)
  rw [lg_entry_eq]
  generalize (lg_sl ([.ref x0, .int p0, .int p1, .ref ou]) ++ List.replicate (5 - (lg_sl ([.ref x0, .int p0, .int p1, .ref ou])).length) Slot.unset).toArray = ls at hl ⊢
  have hl : lv_has ls 5 [(0, .ref x0), (1, .int p0), (2, .int p1), (3, .ref ou)] := hl
  obtain ⟨H, hHe⟩ : ∃ H, H = s.heap := ⟨_, rfl⟩
  have hP : va_P D vwCl (ws ++ oC k ou g) H := by rw [hHe]; exact hP
  have hS : va_S A s.heap H [] := by rw [hHe]; exact hS
  have hZ : XZ A s H := by rw [hHe]; exact hZ
  rw [← hHe]
  refine absQ (fun Q hQ => ?_)
  refine lv_aload_n hx hb dL_bar_0 rfl (lv_at hl 3 rfl) ?_
  refine lv_iconst (v := 0) hx hb dL_bar_1 (by decide) ?_
  refine lv_aload_n hx hb dL_bar_2 rfl (lv_at hl 0 rfl) ?_
  refine lv_iload_n hx hb dL_bar_3 rfl (lv_at hl 1 rfl) ?_
  refine lv_iload_n hx hb dL_bar_4 rfl (lv_at hl 2 rfl) ?_
  have hPc := va_PL hP
  have hDc := va_DL hD
  have hF := fr_app hD hS hA
  refine vx_calli (vx_runV (As := [.int p0, .int p1]) (rest := [.int 0, .ref ou]) ⟨hx, hb, hml, hown, hts⟩ (hM H.size) (cwV 2 hts gL_bar_X4_bar rfl rfl rfl (by decide +kernel) ⟨hr1, by show 8 + (3 + 11) + rmc.locals ≤ 900; omega⟩) ⟨xpr_blind, va_recv hK hPc (ci := 4) (q0 := 0) rfl h0, xpr_at hX hZ hF hN hPc hK hDc⟩ rfl rfl hl.1 rfl (lv_room (Nat.le_of_ble_eq_true rfl)) dL_bar_5 ⟨by rw [hr3]; exact Nat.le_refl _, by rw [hr4]; exact Nat.le_refl _⟩) hS (fun q _ h => hF q h) hF (fun q _ h => hF q h) (fun E ce q9 u t H1 locs ht hvm _ hB hz hk hS hc1 hc2 hc3 => ?_) (fun r u t H1 locs ht hvm hf => hf.elim)
  obtain ⟨rfl, hP1⟩ := hB
  rw [ht] at hP1
  have hD1 : va_D (va_A ws H.size) ws' := (hDc.self (sz := H.size)).addr (ha1.trans ha2.symm)
  obtain ⟨hP, hD⟩ := jn_app hP hD hk hF hP1 hD1
  refine vx_catch (name := "java/lang/IllegalArgumentException") hown [{ startPc := 0, endPc := 10, handlerPc := 13, catchType := 13 }] { startPc := 0, endPc := 10, handlerPc := 17, catchType := 15 } [] htab (fun z hz => (List.mem_cons.mp hz).elim (fun e9 => by subst e9; exact Or.inr ⟨by decide, "java/lang/IndexOutOfBoundsException", hts _ (List.mem_of_getElem? (i := 1) rfl), hX.2.1⟩) (fun h9 => nomatch h9)) (by decide) (by decide) (hts _ (List.mem_of_getElem? (i := 2) rfl)) (va_Nw.use rfl hX.1.2.1) hc1 hc2 hc3 ?_
  refine W.widen (k := 1) (n := 6) (by rw [hr3]; exact Nat.le_refl _) (by rw [hr4]; exact Nat.le_refl _) ?_
  refine lv_astore (lv' := [(4, .ref q9), (0, .ref x0), (1, .int p0), (2, .int p1), (3, .ref ou)]) hx hb dL_bar_17 hl (by decide) rfl (fun ls hl => ?_)
  refine lv_iconst (v := 2) hx hb dL_bar_19 (by decide) ?_
  subst hQ
  exact rt_iD hx hb hr hlocks hS dL_bar_20 hP hD rfl

set_option maxHeartbeats 1000000 in
set_option maxRecDepth 100000 in
theorem w_append (l : Launch) (D : va_G) (k : Nat → ClassId) (x0 ou : Nat) (p0 : Int32) (ws ws' : va_W) (fs : List Value) (g : Nat → Int64) (r : Int32) (rmc : Room) (hM : MYi l yX4_append wsX4_append rmc D k [.ref x0, .int p0] ws r ws') (h0 : ws[0]? = some (x0, .inr (4, fs))) (hr1 : rmc.frames + 1 ≤ 40) (hr2 : rmc.locals ≤ 850) (hr3 : rmc.cells = 0) (hr4 : rmc.slots = 0) :
    MYi l yL_append wsL_append RW D k [.ref x0, .int p0, .ref ou] (ws ++ oC k ou g) 0 (ws' ++ oC k ou (vp_updL g 0 r.toInt64)) := by
  intro sz
  refine mo_WH (cc := cL_append) (maxL := 4) (ret := (some .int)) (by decide) rfl ?_
  intro p e s m args below meth c s₁ B hml htab hv
  obtain ⟨rfl, hX, hZ, hN, hsz, hP, hK, hD0⟩ := hv
  have hx := B.exec
  have hb := B.bytes
  have hr := B.returns
  have hts := atoms_spec (ws := wsL_append) B.pre
  have hown : s.vm.findClass RL = some m.cls := findClass_of_methodNamed B.named
  have hlocks := B.notSynchronized
  subst hsz
  have hD := hD0.self (sz := s.heap.size)
  generalize hAe : va_A (ws ++ oC k ou g) s.heap.size = A at hD hZ ⊢
  have hA : ∀ q : Nat, s.heap.size ≤ q → A q := fun q h => by rw [← hAe]; exact Or.inr h
  have hS : va_S A s.heap s.heap [] := va_S.rf
  have hl := lv_entry ([.ref x0, .int p0, .ref ou]) (n := 4) (Nat.le_of_ble_eq_true rfl)
  rw [lg_entry_eq]
  generalize (lg_sl ([.ref x0, .int p0, .ref ou]) ++ List.replicate (4 - (lg_sl ([.ref x0, .int p0, .ref ou])).length) Slot.unset).toArray = ls at hl ⊢
  have hl : lv_has ls 4 [(0, .ref x0), (1, .int p0), (2, .ref ou)] := hl
  obtain ⟨H, hHe⟩ : ∃ H, H = s.heap := ⟨_, rfl⟩
  have hP : va_P D vwCl (ws ++ oC k ou g) H := by rw [hHe]; exact hP
  have hS : va_S A s.heap H [] := by rw [hHe]; exact hS
  have hZ : XZ A s H := by rw [hHe]; exact hZ
  rw [← hHe]
  refine absQ (fun Q hQ => ?_)
  refine lv_aload_n hx hb dL_append_0 rfl (lv_at hl 2 rfl) ?_
  refine lv_iconst (v := 0) hx hb dL_append_1 (by decide) ?_
  refine lv_aload_n hx hb dL_append_2 rfl (lv_at hl 0 rfl) ?_
  refine lv_iload_n hx hb dL_append_3 rfl (lv_at hl 1 rfl) ?_
  have hPc := va_PL hP
  have hDc := va_DL hD
  refine cl_iA (va_runV (As := [.int p0]) (rest := [.int 0, .ref ou]) ⟨hx, hb, hml, hown, hts⟩ (hM H.size) (cwV 1 hts gL_append_X4_append rfl rfl rfl (by decide +kernel) ⟨hr1, by show 8 + (2 + 11) + rmc.locals ≤ 900; omega⟩) ⟨xpr_blind, va_recv hK hPc (ci := 4) (q0 := 0) rfl h0, xpr_at hX hZ (fr_app hD hS hA) hN hPc hK hDc⟩ rfl rfl hl.1 rfl (lv_room (Nat.le_of_ble_eq_true rfl)) dL_append_4 ⟨by rw [hr3]; exact Nat.zero_le _, by rw [hr4]; exact Nat.zero_le _⟩) hP hD hS hA (fun H locs hP hD hS => ?_)
  clear hPc hDc
  refine W.widen (k := 1) (n := 6) (by rw [hr3]; exact Nat.zero_le _) (by rw [hr4]; exact Nat.zero_le _) ?_
  refine lv_i2l hx hb dL_append_7 rfl ?_
  have ho : (ws' ++ oC k ou g)[ws'.length]? = some (ou, .inl (k 3, 1, .inr (.inl g))) := by rw [List.getElem?_append_right (Nat.le_refl _), Nat.sub_self]; rfl
  have hse : (ws' ++ oC k ou g).set ws'.length (ou, .inl (k 3, 1, .inr (.inl (vp_updL g 0 r.toInt64)))) = ws' ++ oC k ou (vp_updL g 0 r.toInt64) := by rw [List.set_append_right _ _ (Nat.le_refl _), Nat.sub_self]; rfl
  refine ar_lst hx hb hK hP hD hS ws'.length ho 0 rfl (show vp_in (nI 0) 1 from vp_in_nI (by decide) (by decide)) dL_append_8 hse (fun H locs hP hD hS => ?_)
  refine lv_goto (tgt := 18) hx hb dL_append_9 (by decide) ?_
  refine lv_iconst (v := 0) hx hb dL_append_18 (by decide) ?_
  subst hQ
  exact rt_iD hx hb hr hlocks hS dL_append_19 hP hD rfl

set_option maxHeartbeats 1000000 in
set_option maxRecDepth 100000 in
theorem w_append_t1 (l : Launch) (D : va_G) (k : Nat → ClassId) (x0 ou : Nat) (p0 : Int32) (ws ws' : va_W) (fs : List Value) (g : Nat → Int64) (rmc : Room) (ads : List Nat) (hM : MX l yX4_append wsX4_append rmc D k [.ref x0, .int p0] ws "java/lang/IllegalArgumentException" ws') (h0 : ws[0]? = some (x0, .inr (4, fs))) (hr1 : rmc.frames + 1 ≤ 40) (hr2 : rmc.locals ≤ 850) (hr3 : rmc.cells = 1) (hr4 : rmc.slots = 6) (ha1 : ws'.map (fun q => q.1) = ads) (ha2 : ws.map (fun q => q.1) = ads) :
    MYi l yL_append wsL_append RW D k [.ref x0, .int p0, .ref ou] (ws ++ oC k ou g) 1 (ws' ++ oC k ou g) := by
  intro sz
  refine mo_WH (cc := cL_append) (maxL := 4) (ret := (some .int)) (by decide) rfl ?_
  intro p e s m args below meth c s₁ B hml htab hv
  obtain ⟨rfl, hX, hZ, hN, hsz, hP, hK, hD0⟩ := hv
  have hx := B.exec
  have hb := B.bytes
  have hr := B.returns
  have hts := atoms_spec (ws := wsL_append) B.pre
  have hown : s.vm.findClass RL = some m.cls := findClass_of_methodNamed B.named
  have hlocks := B.notSynchronized
  subst hsz
  have hD := hD0.self (sz := s.heap.size)
  generalize hAe : va_A (ws ++ oC k ou g) s.heap.size = A at hD hZ ⊢
  have hA : ∀ q : Nat, s.heap.size ≤ q → A q := fun q h => by rw [← hAe]; exact Or.inr h
  have hS : va_S A s.heap s.heap [] := va_S.rf
  have hl := lv_entry ([.ref x0, .int p0, .ref ou]) (n := 4) (Nat.le_of_ble_eq_true rfl)
  rw [lg_entry_eq]
  generalize (lg_sl ([.ref x0, .int p0, .ref ou]) ++ List.replicate (4 - (lg_sl ([.ref x0, .int p0, .ref ou])).length) Slot.unset).toArray = ls at hl ⊢
  have hl : lv_has ls 4 [(0, .ref x0), (1, .int p0), (2, .ref ou)] := hl
  obtain ⟨H, hHe⟩ : ∃ H, H = s.heap := ⟨_, rfl⟩
  have hP : va_P D vwCl (ws ++ oC k ou g) H := by rw [hHe]; exact hP
  have hS : va_S A s.heap H [] := by rw [hHe]; exact hS
  have hZ : XZ A s H := by rw [hHe]; exact hZ
  rw [← hHe]
  refine absQ (fun Q hQ => ?_)
  refine lv_aload_n hx hb dL_append_0 rfl (lv_at hl 2 rfl) ?_
  refine lv_iconst (v := 0) hx hb dL_append_1 (by decide) ?_
  refine lv_aload_n hx hb dL_append_2 rfl (lv_at hl 0 rfl) ?_
  refine lv_iload_n hx hb dL_append_3 rfl (lv_at hl 1 rfl) ?_
  have hPc := va_PL hP
  have hDc := va_DL hD
  have hF := fr_app hD hS hA
  refine vx_calli (vx_runV (As := [.int p0]) (rest := [.int 0, .ref ou]) ⟨hx, hb, hml, hown, hts⟩ (hM H.size) (cwV 1 hts gL_append_X4_append rfl rfl rfl (by decide +kernel) ⟨hr1, by show 8 + (2 + 11) + rmc.locals ≤ 900; omega⟩) ⟨xpr_blind, va_recv hK hPc (ci := 4) (q0 := 0) rfl h0, xpr_at hX hZ hF hN hPc hK hDc⟩ rfl rfl hl.1 rfl (lv_room (Nat.le_of_ble_eq_true rfl)) dL_append_4 ⟨by rw [hr3]; exact Nat.le_refl _, by rw [hr4]; exact Nat.le_refl _⟩) hS (fun q _ h => hF q h) hF (fun q _ h => hF q h) (fun E ce q9 u t H1 locs ht hvm _ hB hz hk hS hc1 hc2 hc3 => ?_) (fun r u t H1 locs ht hvm hf => hf.elim)
  obtain ⟨rfl, hP1⟩ := hB
  rw [ht] at hP1
  have hD1 : va_D (va_A ws H.size) ws' := (hDc.self (sz := H.size)).addr (ha1.trans ha2.symm)
  obtain ⟨hP, hD⟩ := jn_app hP hD hk hF hP1 hD1
  refine vx_catch (name := "java/lang/IllegalArgumentException") hown [] { startPc := 0, endPc := 9, handlerPc := 12, catchType := 15 } [{ startPc := 0, endPc := 9, handlerPc := 15, catchType := 30 }] htab (fun z hz => nomatch hz) (by decide) (by decide) (hts _ (List.mem_of_getElem? (i := 1) rfl)) (va_Nw.use rfl hX.1.2.1) hc1 hc2 hc3 ?_
  refine W.widen (k := 1) (n := 6) (by rw [hr3]; exact Nat.le_refl _) (by rw [hr4]; exact Nat.le_refl _) ?_
  refine lv_astore_n (lv' := [(3, .ref q9), (0, .ref x0), (1, .int p0), (2, .ref ou)]) hx hb dL_append_12 rfl hl (by decide) rfl (fun ls hl => ?_)
  refine lv_iconst (v := 1) hx hb dL_append_13 (by decide) ?_
  subst hQ
  exact rt_iD hx hb hr hlocks hS dL_append_14 hP hD rfl

set_option maxHeartbeats 1000000 in
set_option maxRecDepth 100000 in
theorem w_append_t2 (l : Launch) (D : va_G) (k : Nat → ClassId) (x0 ou : Nat) (p0 : Int32) (ws ws' : va_W) (fs : List Value) (g : Nat → Int64) (rmc : Room) (ads : List Nat) (hM : MX l yX4_append wsX4_append rmc D k [.ref x0, .int p0] ws "java/lang/IllegalStateException" ws') (h0 : ws[0]? = some (x0, .inr (4, fs))) (hr1 : rmc.frames + 1 ≤ 40) (hr2 : rmc.locals ≤ 850) (hr3 : rmc.cells = 1) (hr4 : rmc.slots = 6) (ha1 : ws'.map (fun q => q.1) = ads) (ha2 : ws.map (fun q => q.1) = ads) :
    MYi l yL_append wsL_append RW D k [.ref x0, .int p0, .ref ou] (ws ++ oC k ou g) 2 (ws' ++ oC k ou g) := by
  intro sz
  refine mo_WH (cc := cL_append) (maxL := 4) (ret := (some .int)) (by decide) rfl ?_
  intro p e s m args below meth c s₁ B hml htab hv
  obtain ⟨rfl, hX, hZ, hN, hsz, hP, hK, hD0⟩ := hv
  have hx := B.exec
  have hb := B.bytes
  have hr := B.returns
  have hts := atoms_spec (ws := wsL_append) B.pre
  have hown : s.vm.findClass RL = some m.cls := findClass_of_methodNamed B.named
  have hlocks := B.notSynchronized
  subst hsz
  have hD := hD0.self (sz := s.heap.size)
  generalize hAe : va_A (ws ++ oC k ou g) s.heap.size = A at hD hZ ⊢
  have hA : ∀ q : Nat, s.heap.size ≤ q → A q := fun q h => by rw [← hAe]; exact Or.inr h
  have hS : va_S A s.heap s.heap [] := va_S.rf
  have hl := lv_entry ([.ref x0, .int p0, .ref ou]) (n := 4) (Nat.le_of_ble_eq_true rfl)
  rw [lg_entry_eq]
  generalize (lg_sl ([.ref x0, .int p0, .ref ou]) ++ List.replicate (4 - (lg_sl ([.ref x0, .int p0, .ref ou])).length) Slot.unset).toArray = ls at hl ⊢
  have hl : lv_has ls 4 [(0, .ref x0), (1, .int p0), (2, .ref ou)] := hl
  obtain ⟨H, hHe⟩ : ∃ H, H = s.heap := ⟨_, rfl⟩
  have hP : va_P D vwCl (ws ++ oC k ou g) H := by rw [hHe]; exact hP
  have hS : va_S A s.heap H [] := by rw [hHe]; exact hS
  have hZ : XZ A s H := by rw [hHe]; exact hZ
  rw [← hHe]
  refine absQ (fun Q hQ => ?_)
  refine lv_aload_n hx hb dL_append_0 rfl (lv_at hl 2 rfl) ?_
  refine lv_iconst (v := 0) hx hb dL_append_1 (by decide) ?_
  refine lv_aload_n hx hb dL_append_2 rfl (lv_at hl 0 rfl) ?_
  refine lv_iload_n hx hb dL_append_3 rfl (lv_at hl 1 rfl) ?_
  have hPc := va_PL hP
  have hDc := va_DL hD
  have hF := fr_app hD hS hA
  refine vx_calli (vx_runV (As := [.int p0]) (rest := [.int 0, .ref ou]) ⟨hx, hb, hml, hown, hts⟩ (hM H.size) (cwV 1 hts gL_append_X4_append rfl rfl rfl (by decide +kernel) ⟨hr1, by show 8 + (2 + 11) + rmc.locals ≤ 900; omega⟩) ⟨xpr_blind, va_recv hK hPc (ci := 4) (q0 := 0) rfl h0, xpr_at hX hZ hF hN hPc hK hDc⟩ rfl rfl hl.1 rfl (lv_room (Nat.le_of_ble_eq_true rfl)) dL_append_4 ⟨by rw [hr3]; exact Nat.le_refl _, by rw [hr4]; exact Nat.le_refl _⟩) hS (fun q _ h => hF q h) hF (fun q _ h => hF q h) (fun E ce q9 u t H1 locs ht hvm _ hB hz hk hS hc1 hc2 hc3 => ?_) (fun r u t H1 locs ht hvm hf => hf.elim)
  obtain ⟨rfl, hP1⟩ := hB
  rw [ht] at hP1
  have hD1 : va_D (va_A ws H.size) ws' := (hDc.self (sz := H.size)).addr (ha1.trans ha2.symm)
  obtain ⟨hP, hD⟩ := jn_app hP hD hk hF hP1 hD1
  refine vx_catch (name := "java/lang/IllegalStateException") hown [{ startPc := 0, endPc := 9, handlerPc := 12, catchType := 15 }] { startPc := 0, endPc := 9, handlerPc := 15, catchType := 30 } [] htab (fun z hz => (List.mem_cons.mp hz).elim (fun e9 => by subst e9; exact Or.inr ⟨by decide, "java/lang/IllegalArgumentException", hts _ (List.mem_of_getElem? (i := 1) rfl), hX.2.2.1⟩) (fun h9 => nomatch h9)) (by decide) (by decide) (hts _ (List.mem_of_getElem? (i := 2) rfl)) (va_Nw.use rfl hX.1.2.2.1) hc1 hc2 hc3 ?_
  refine W.widen (k := 1) (n := 6) (by rw [hr3]; exact Nat.le_refl _) (by rw [hr4]; exact Nat.le_refl _) ?_
  refine lv_astore_n (lv' := [(3, .ref q9), (0, .ref x0), (1, .int p0), (2, .ref ou)]) hx hb dL_append_15 rfl hl (by decide) rfl (fun ls hl => ?_)
  refine lv_iconst (v := 2) hx hb dL_append_16 (by decide) ?_
  subst hQ
  exact rt_iD hx hb hr hlocks hS dL_append_17 hP hD rfl

set_option maxHeartbeats 1000000 in
set_option maxRecDepth 100000 in
theorem w_load (l : Launch) (D : va_G) (k : Nat → ClassId) (x0 ou : Nat) (ws ws' : va_W) (fs : List Value) (g : Nat → Int64) (r : Int32) (rmc : Room) (hM : MYi l yX4_load wsX4_load rmc D k [.ref x0] ws r ws') (h0 : ws[0]? = some (x0, .inr (4, fs))) (hr1 : rmc.frames + 1 ≤ 40) (hr2 : rmc.locals ≤ 850) (hr3 : rmc.cells = 0) (hr4 : rmc.slots = 0) :
    MYi l yL_load wsL_load RW D k [.ref x0, .ref ou] (ws ++ oC k ou g) 0 (ws' ++ oC k ou (vp_updL g 0 r.toInt64)) := by
  intro sz
  refine mo_WH (cc := cL_load) (maxL := 3) (ret := (some .int)) (by decide) rfl ?_
  intro p e s m args below meth c s₁ B hml htab hv
  obtain ⟨rfl, hX, hZ, hN, hsz, hP, hK, hD0⟩ := hv
  have hx := B.exec
  have hb := B.bytes
  have hr := B.returns
  have hts := atoms_spec (ws := wsL_load) B.pre
  have hown : s.vm.findClass RL = some m.cls := findClass_of_methodNamed B.named
  have hlocks := B.notSynchronized
  subst hsz
  have hD := hD0.self (sz := s.heap.size)
  generalize hAe : va_A (ws ++ oC k ou g) s.heap.size = A at hD hZ ⊢
  have hA : ∀ q : Nat, s.heap.size ≤ q → A q := fun q h => by rw [← hAe]; exact Or.inr h
  have hS : va_S A s.heap s.heap [] := va_S.rf
  have hl := lv_entry ([.ref x0, .ref ou]) (n := 3) (Nat.le_of_ble_eq_true rfl)
  rw [lg_entry_eq]
  generalize (lg_sl ([.ref x0, .ref ou]) ++ List.replicate (3 - (lg_sl ([.ref x0, .ref ou])).length) Slot.unset).toArray = ls at hl ⊢
  have hl : lv_has ls 3 [(0, .ref x0), (1, .ref ou)] := hl
  obtain ⟨H, hHe⟩ : ∃ H, H = s.heap := ⟨_, rfl⟩
  have hP : va_P D vwCl (ws ++ oC k ou g) H := by rw [hHe]; exact hP
  have hS : va_S A s.heap H [] := by rw [hHe]; exact hS
  have hZ : XZ A s H := by rw [hHe]; exact hZ
  rw [← hHe]
  refine absQ (fun Q hQ => ?_)
  refine lv_aload_n hx hb dL_load_0 rfl (lv_at hl 1 rfl) ?_
  refine lv_iconst (v := 0) hx hb dL_load_1 (by decide) ?_
  refine lv_aload_n hx hb dL_load_2 rfl (lv_at hl 0 rfl) ?_
  have hPc := va_PL hP
  have hDc := va_DL hD
  refine cl_iA (va_runV (As := []) (rest := [.int 0, .ref ou]) ⟨hx, hb, hml, hown, hts⟩ (hM H.size) (cwV 0 hts gL_load_X4_load rfl rfl rfl (by decide +kernel) ⟨hr1, by show 8 + (1 + 11) + rmc.locals ≤ 900; omega⟩) ⟨xpr_blind, va_recv hK hPc (ci := 4) (q0 := 0) rfl h0, xpr_at hX hZ (fr_app hD hS hA) hN hPc hK hDc⟩ rfl rfl hl.1 rfl (lv_room (Nat.le_of_ble_eq_true rfl)) dL_load_3 ⟨by rw [hr3]; exact Nat.zero_le _, by rw [hr4]; exact Nat.zero_le _⟩) hP hD hS hA (fun H locs hP hD hS => ?_)
  clear hPc hDc
  refine W.widen (k := 1) (n := 6) (by rw [hr3]; exact Nat.zero_le _) (by rw [hr4]; exact Nat.zero_le _) ?_
  refine lv_i2l hx hb dL_load_6 rfl ?_
  have ho : (ws' ++ oC k ou g)[ws'.length]? = some (ou, .inl (k 3, 1, .inr (.inl g))) := by rw [List.getElem?_append_right (Nat.le_refl _), Nat.sub_self]; rfl
  have hse : (ws' ++ oC k ou g).set ws'.length (ou, .inl (k 3, 1, .inr (.inl (vp_updL g 0 r.toInt64)))) = ws' ++ oC k ou (vp_updL g 0 r.toInt64) := by rw [List.set_append_right _ _ (Nat.le_refl _), Nat.sub_self]; rfl
  refine ar_lst hx hb hK hP hD hS ws'.length ho 0 rfl (show vp_in (nI 0) 1 from vp_in_nI (by decide) (by decide)) dL_load_7 hse (fun H locs hP hD hS => ?_)
  refine lv_goto (tgt := 14) hx hb dL_load_8 (by decide) ?_
  refine lv_iconst (v := 0) hx hb dL_load_14 (by decide) ?_
  subst hQ
  exact rt_iD hx hb hr hlocks hS dL_load_15 hP hD rfl

set_option maxHeartbeats 1000000 in
set_option maxRecDepth 100000 in
theorem w_load_t1 (l : Launch) (D : va_G) (k : Nat → ClassId) (x0 ou : Nat) (ws ws' : va_W) (fs : List Value) (g : Nat → Int64) (rmc : Room) (ads : List Nat) (hM : MX l yX4_load wsX4_load rmc D k [.ref x0] ws "java/lang/IllegalArgumentException" ws') (h0 : ws[0]? = some (x0, .inr (4, fs))) (hr1 : rmc.frames + 1 ≤ 40) (hr2 : rmc.locals ≤ 850) (hr3 : rmc.cells = 1) (hr4 : rmc.slots = 6) (ha1 : ws'.map (fun q => q.1) = ads) (ha2 : ws.map (fun q => q.1) = ads) :
    MYi l yL_load wsL_load RW D k [.ref x0, .ref ou] (ws ++ oC k ou g) 1 (ws' ++ oC k ou g) := by
  intro sz
  refine mo_WH (cc := cL_load) (maxL := 3) (ret := (some .int)) (by decide) rfl ?_
  intro p e s m args below meth c s₁ B hml htab hv
  obtain ⟨rfl, hX, hZ, hN, hsz, hP, hK, hD0⟩ := hv
  have hx := B.exec
  have hb := B.bytes
  have hr := B.returns
  have hts := atoms_spec (ws := wsL_load) B.pre
  have hown : s.vm.findClass RL = some m.cls := findClass_of_methodNamed B.named
  have hlocks := B.notSynchronized
  subst hsz
  have hD := hD0.self (sz := s.heap.size)
  generalize hAe : va_A (ws ++ oC k ou g) s.heap.size = A at hD hZ ⊢
  have hA : ∀ q : Nat, s.heap.size ≤ q → A q := fun q h => by rw [← hAe]; exact Or.inr h
  have hS : va_S A s.heap s.heap [] := va_S.rf
  have hl := lv_entry ([.ref x0, .ref ou]) (n := 3) (Nat.le_of_ble_eq_true rfl)
  rw [lg_entry_eq]
  generalize (lg_sl ([.ref x0, .ref ou]) ++ List.replicate (3 - (lg_sl ([.ref x0, .ref ou])).length) Slot.unset).toArray = ls at hl ⊢
  have hl : lv_has ls 3 [(0, .ref x0), (1, .ref ou)] := hl
  obtain ⟨H, hHe⟩ : ∃ H, H = s.heap := ⟨_, rfl⟩
  have hP : va_P D vwCl (ws ++ oC k ou g) H := by rw [hHe]; exact hP
  have hS : va_S A s.heap H [] := by rw [hHe]; exact hS
  have hZ : XZ A s H := by rw [hHe]; exact hZ
  rw [← hHe]
  refine absQ (fun Q hQ => ?_)
  refine lv_aload_n hx hb dL_load_0 rfl (lv_at hl 1 rfl) ?_
  refine lv_iconst (v := 0) hx hb dL_load_1 (by decide) ?_
  refine lv_aload_n hx hb dL_load_2 rfl (lv_at hl 0 rfl) ?_
  have hPc := va_PL hP
  have hDc := va_DL hD
  have hF := fr_app hD hS hA
  refine vx_calli (vx_runV (As := []) (rest := [.int 0, .ref ou]) ⟨hx, hb, hml, hown, hts⟩ (hM H.size) (cwV 0 hts gL_load_X4_load rfl rfl rfl (by decide +kernel) ⟨hr1, by show 8 + (1 + 11) + rmc.locals ≤ 900; omega⟩) ⟨xpr_blind, va_recv hK hPc (ci := 4) (q0 := 0) rfl h0, xpr_at hX hZ hF hN hPc hK hDc⟩ rfl rfl hl.1 rfl (lv_room (Nat.le_of_ble_eq_true rfl)) dL_load_3 ⟨by rw [hr3]; exact Nat.le_refl _, by rw [hr4]; exact Nat.le_refl _⟩) hS (fun q _ h => hF q h) hF (fun q _ h => hF q h) (fun E ce q9 u t H1 locs ht hvm _ hB hz hk hS hc1 hc2 hc3 => ?_) (fun r u t H1 locs ht hvm hf => hf.elim)
  obtain ⟨rfl, hP1⟩ := hB
  rw [ht] at hP1
  have hD1 : va_D (va_A ws H.size) ws' := (hDc.self (sz := H.size)).addr (ha1.trans ha2.symm)
  obtain ⟨hP, hD⟩ := jn_app hP hD hk hF hP1 hD1
  refine vx_catch (name := "java/lang/IllegalArgumentException") hown [] { startPc := 0, endPc := 8, handlerPc := 11, catchType := 15 } [] htab (fun z hz => nomatch hz) (by decide) (by decide) (hts _ (List.mem_of_getElem? (i := 1) rfl)) (va_Nw.use rfl hX.1.2.1) hc1 hc2 hc3 ?_
  refine W.widen (k := 1) (n := 6) (by rw [hr3]; exact Nat.le_refl _) (by rw [hr4]; exact Nat.le_refl _) ?_
  refine lv_astore_n (lv' := [(2, .ref q9), (0, .ref x0), (1, .ref ou)]) hx hb dL_load_11 rfl hl (by decide) rfl (fun ls hl => ?_)
  refine lv_iconst (v := 1) hx hb dL_load_12 (by decide) ?_
  subst hQ
  exact rt_iD hx hb hr hlocks hS dL_load_13 hP hD rfl

set_option maxHeartbeats 1000000 in
set_option maxRecDepth 100000 in
theorem w_keep (l : Launch) (D : va_G) (k : Nat → ClassId) (x0 ou : Nat) (p0 : Int32) (ws ws' : va_W) (fs : List Value) (g : Nat → Int64) (r : Int32) (rmc : Room) (hM : MYi l yX4_keep wsX4_keep rmc D k [.ref x0, .int p0] ws r ws') (h0 : ws[0]? = some (x0, .inr (4, fs))) (hr1 : rmc.frames + 1 ≤ 40) (hr2 : rmc.locals ≤ 850) (hr3 : rmc.cells = 0) (hr4 : rmc.slots = 0) :
    MYi l yL_keep wsL_keep RW D k [.ref x0, .int p0, .ref ou] (ws ++ oC k ou g) 0 (ws' ++ oC k ou (vp_updL g 0 r.toInt64)) := by
  intro sz
  refine mo_WH (cc := cL_keep) (maxL := 4) (ret := (some .int)) (by decide) rfl ?_
  intro p e s m args below meth c s₁ B hml htab hv
  obtain ⟨rfl, hX, hZ, hN, hsz, hP, hK, hD0⟩ := hv
  have hx := B.exec
  have hb := B.bytes
  have hr := B.returns
  have hts := atoms_spec (ws := wsL_keep) B.pre
  have hown : s.vm.findClass RL = some m.cls := findClass_of_methodNamed B.named
  have hlocks := B.notSynchronized
  subst hsz
  have hD := hD0.self (sz := s.heap.size)
  generalize hAe : va_A (ws ++ oC k ou g) s.heap.size = A at hD hZ ⊢
  have hA : ∀ q : Nat, s.heap.size ≤ q → A q := fun q h => by rw [← hAe]; exact Or.inr h
  have hS : va_S A s.heap s.heap [] := va_S.rf
  have hl := lv_entry ([.ref x0, .int p0, .ref ou]) (n := 4) (Nat.le_of_ble_eq_true rfl)
  rw [lg_entry_eq]
  generalize (lg_sl ([.ref x0, .int p0, .ref ou]) ++ List.replicate (4 - (lg_sl ([.ref x0, .int p0, .ref ou])).length) Slot.unset).toArray = ls at hl ⊢
  have hl : lv_has ls 4 [(0, .ref x0), (1, .int p0), (2, .ref ou)] := hl
  obtain ⟨H, hHe⟩ : ∃ H, H = s.heap := ⟨_, rfl⟩
  have hP : va_P D vwCl (ws ++ oC k ou g) H := by rw [hHe]; exact hP
  have hS : va_S A s.heap H [] := by rw [hHe]; exact hS
  have hZ : XZ A s H := by rw [hHe]; exact hZ
  rw [← hHe]
  refine absQ (fun Q hQ => ?_)
  refine lv_aload_n hx hb dL_keep_0 rfl (lv_at hl 2 rfl) ?_
  refine lv_iconst (v := 0) hx hb dL_keep_1 (by decide) ?_
  refine lv_aload_n hx hb dL_keep_2 rfl (lv_at hl 0 rfl) ?_
  refine lv_iload_n hx hb dL_keep_3 rfl (lv_at hl 1 rfl) ?_
  have hPc := va_PL hP
  have hDc := va_DL hD
  refine cl_iA (va_runV (As := [.int p0]) (rest := [.int 0, .ref ou]) ⟨hx, hb, hml, hown, hts⟩ (hM H.size) (cwV 1 hts gL_keep_X4_keep rfl rfl rfl (by decide +kernel) ⟨hr1, by show 8 + (2 + 11) + rmc.locals ≤ 900; omega⟩) ⟨xpr_blind, va_recv hK hPc (ci := 4) (q0 := 0) rfl h0, xpr_at hX hZ (fr_app hD hS hA) hN hPc hK hDc⟩ rfl rfl hl.1 rfl (lv_room (Nat.le_of_ble_eq_true rfl)) dL_keep_4 ⟨by rw [hr3]; exact Nat.zero_le _, by rw [hr4]; exact Nat.zero_le _⟩) hP hD hS hA (fun H locs hP hD hS => ?_)
  clear hPc hDc
  refine W.widen (k := 1) (n := 6) (by rw [hr3]; exact Nat.zero_le _) (by rw [hr4]; exact Nat.zero_le _) ?_
  refine lv_i2l hx hb dL_keep_7 rfl ?_
  have ho : (ws' ++ oC k ou g)[ws'.length]? = some (ou, .inl (k 3, 1, .inr (.inl g))) := by rw [List.getElem?_append_right (Nat.le_refl _), Nat.sub_self]; rfl
  have hse : (ws' ++ oC k ou g).set ws'.length (ou, .inl (k 3, 1, .inr (.inl (vp_updL g 0 r.toInt64)))) = ws' ++ oC k ou (vp_updL g 0 r.toInt64) := by rw [List.set_append_right _ _ (Nat.le_refl _), Nat.sub_self]; rfl
  refine ar_lst hx hb hK hP hD hS ws'.length ho 0 rfl (show vp_in (nI 0) 1 from vp_in_nI (by decide) (by decide)) dL_keep_8 hse (fun H locs hP hD hS => ?_)
  refine lv_goto (tgt := 15) hx hb dL_keep_9 (by decide) ?_
  refine lv_iconst (v := 0) hx hb dL_keep_15 (by decide) ?_
  subst hQ
  exact rt_iD hx hb hr hlocks hS dL_keep_16 hP hD rfl

set_option maxHeartbeats 1000000 in
set_option maxRecDepth 100000 in
theorem w_keep_t1 (l : Launch) (D : va_G) (k : Nat → ClassId) (x0 ou : Nat) (p0 : Int32) (ws ws' : va_W) (fs : List Value) (g : Nat → Int64) (rmc : Room) (ads : List Nat) (hM : MX l yX4_keep wsX4_keep rmc D k [.ref x0, .int p0] ws "java/lang/IllegalArgumentException" ws') (h0 : ws[0]? = some (x0, .inr (4, fs))) (hr1 : rmc.frames + 1 ≤ 40) (hr2 : rmc.locals ≤ 850) (hr3 : rmc.cells = 1) (hr4 : rmc.slots = 6) (ha1 : ws'.map (fun q => q.1) = ads) (ha2 : ws.map (fun q => q.1) = ads) :
    MYi l yL_keep wsL_keep RW D k [.ref x0, .int p0, .ref ou] (ws ++ oC k ou g) 1 (ws' ++ oC k ou g) := by
  intro sz
  refine mo_WH (cc := cL_keep) (maxL := 4) (ret := (some .int)) (by decide) rfl ?_
  intro p e s m args below meth c s₁ B hml htab hv
  obtain ⟨rfl, hX, hZ, hN, hsz, hP, hK, hD0⟩ := hv
  have hx := B.exec
  have hb := B.bytes
  have hr := B.returns
  have hts := atoms_spec (ws := wsL_keep) B.pre
  have hown : s.vm.findClass RL = some m.cls := findClass_of_methodNamed B.named
  have hlocks := B.notSynchronized
  subst hsz
  have hD := hD0.self (sz := s.heap.size)
  generalize hAe : va_A (ws ++ oC k ou g) s.heap.size = A at hD hZ ⊢
  have hA : ∀ q : Nat, s.heap.size ≤ q → A q := fun q h => by rw [← hAe]; exact Or.inr h
  have hS : va_S A s.heap s.heap [] := va_S.rf
  have hl := lv_entry ([.ref x0, .int p0, .ref ou]) (n := 4) (Nat.le_of_ble_eq_true rfl)
  rw [lg_entry_eq]
  generalize (lg_sl ([.ref x0, .int p0, .ref ou]) ++ List.replicate (4 - (lg_sl ([.ref x0, .int p0, .ref ou])).length) Slot.unset).toArray = ls at hl ⊢
  have hl : lv_has ls 4 [(0, .ref x0), (1, .int p0), (2, .ref ou)] := hl
  obtain ⟨H, hHe⟩ : ∃ H, H = s.heap := ⟨_, rfl⟩
  have hP : va_P D vwCl (ws ++ oC k ou g) H := by rw [hHe]; exact hP
  have hS : va_S A s.heap H [] := by rw [hHe]; exact hS
  have hZ : XZ A s H := by rw [hHe]; exact hZ
  rw [← hHe]
  refine absQ (fun Q hQ => ?_)
  refine lv_aload_n hx hb dL_keep_0 rfl (lv_at hl 2 rfl) ?_
  refine lv_iconst (v := 0) hx hb dL_keep_1 (by decide) ?_
  refine lv_aload_n hx hb dL_keep_2 rfl (lv_at hl 0 rfl) ?_
  refine lv_iload_n hx hb dL_keep_3 rfl (lv_at hl 1 rfl) ?_
  have hPc := va_PL hP
  have hDc := va_DL hD
  have hF := fr_app hD hS hA
  refine vx_calli (vx_runV (As := [.int p0]) (rest := [.int 0, .ref ou]) ⟨hx, hb, hml, hown, hts⟩ (hM H.size) (cwV 1 hts gL_keep_X4_keep rfl rfl rfl (by decide +kernel) ⟨hr1, by show 8 + (2 + 11) + rmc.locals ≤ 900; omega⟩) ⟨xpr_blind, va_recv hK hPc (ci := 4) (q0 := 0) rfl h0, xpr_at hX hZ hF hN hPc hK hDc⟩ rfl rfl hl.1 rfl (lv_room (Nat.le_of_ble_eq_true rfl)) dL_keep_4 ⟨by rw [hr3]; exact Nat.le_refl _, by rw [hr4]; exact Nat.le_refl _⟩) hS (fun q _ h => hF q h) hF (fun q _ h => hF q h) (fun E ce q9 u t H1 locs ht hvm _ hB hz hk hS hc1 hc2 hc3 => ?_) (fun r u t H1 locs ht hvm hf => hf.elim)
  obtain ⟨rfl, hP1⟩ := hB
  rw [ht] at hP1
  have hD1 : va_D (va_A ws H.size) ws' := (hDc.self (sz := H.size)).addr (ha1.trans ha2.symm)
  obtain ⟨hP, hD⟩ := jn_app hP hD hk hF hP1 hD1
  refine vx_catch (name := "java/lang/IllegalArgumentException") hown [] { startPc := 0, endPc := 9, handlerPc := 12, catchType := 15 } [] htab (fun z hz => nomatch hz) (by decide) (by decide) (hts _ (List.mem_of_getElem? (i := 1) rfl)) (va_Nw.use rfl hX.1.2.1) hc1 hc2 hc3 ?_
  refine W.widen (k := 1) (n := 6) (by rw [hr3]; exact Nat.le_refl _) (by rw [hr4]; exact Nat.le_refl _) ?_
  refine lv_astore_n (lv' := [(3, .ref q9), (0, .ref x0), (1, .int p0), (2, .ref ou)]) hx hb dL_keep_12 rfl hl (by decide) rfl (fun ls hl => ?_)
  refine lv_iconst (v := 1) hx hb dL_keep_13 (by decide) ?_
  subst hQ
  exact rt_iD hx hb hr hlocks hS dL_keep_14 hP hD rfl

set_option maxHeartbeats 1000000 in
set_option maxRecDepth 100000 in
theorem w_goBack (l : Launch) (D : va_G) (k : Nat → ClassId) (x0 ou : Nat) (p0 : Int32) (ws ws' : va_W) (fs : List Value) (g : Nat → Int64) (r : Int32) (rmc : Room) (hM : MYi l yX4_goBack wsX4_goBack rmc D k [.ref x0, .int p0] ws r ws') (h0 : ws[0]? = some (x0, .inr (4, fs))) (hr1 : rmc.frames + 1 ≤ 40) (hr2 : rmc.locals ≤ 850) (hr3 : rmc.cells = 0) (hr4 : rmc.slots = 0) :
    MYi l yL_goBack wsL_goBack RW D k [.ref x0, .int p0, .ref ou] (ws ++ oC k ou g) 0 (ws' ++ oC k ou (vp_updL g 0 r.toInt64)) := by
  intro sz
  refine mo_WH (cc := cL_goBack) (maxL := 4) (ret := (some .int)) (by decide) rfl ?_
  intro p e s m args below meth c s₁ B hml htab hv
  obtain ⟨rfl, hX, hZ, hN, hsz, hP, hK, hD0⟩ := hv
  have hx := B.exec
  have hb := B.bytes
  have hr := B.returns
  have hts := atoms_spec (ws := wsL_goBack) B.pre
  have hown : s.vm.findClass RL = some m.cls := findClass_of_methodNamed B.named
  have hlocks := B.notSynchronized
  subst hsz
  have hD := hD0.self (sz := s.heap.size)
  generalize hAe : va_A (ws ++ oC k ou g) s.heap.size = A at hD hZ ⊢
  have hA : ∀ q : Nat, s.heap.size ≤ q → A q := fun q h => by rw [← hAe]; exact Or.inr h
  have hS : va_S A s.heap s.heap [] := va_S.rf
  have hl := lv_entry ([.ref x0, .int p0, .ref ou]) (n := 4) (Nat.le_of_ble_eq_true rfl)
  rw [lg_entry_eq]
  generalize (lg_sl ([.ref x0, .int p0, .ref ou]) ++ List.replicate (4 - (lg_sl ([.ref x0, .int p0, .ref ou])).length) Slot.unset).toArray = ls at hl ⊢
  have hl : lv_has ls 4 [(0, .ref x0), (1, .int p0), (2, .ref ou)] := hl
  obtain ⟨H, hHe⟩ : ∃ H, H = s.heap := ⟨_, rfl⟩
  have hP : va_P D vwCl (ws ++ oC k ou g) H := by rw [hHe]; exact hP
  have hS : va_S A s.heap H [] := by rw [hHe]; exact hS
  have hZ : XZ A s H := by rw [hHe]; exact hZ
  rw [← hHe]
  refine absQ (fun Q hQ => ?_)
  refine lv_aload_n hx hb dL_goBack_0 rfl (lv_at hl 2 rfl) ?_
  refine lv_iconst (v := 0) hx hb dL_goBack_1 (by decide) ?_
  refine lv_aload_n hx hb dL_goBack_2 rfl (lv_at hl 0 rfl) ?_
  refine lv_iload_n hx hb dL_goBack_3 rfl (lv_at hl 1 rfl) ?_
  have hPc := va_PL hP
  have hDc := va_DL hD
  refine cl_iA (va_runV (As := [.int p0]) (rest := [.int 0, .ref ou]) ⟨hx, hb, hml, hown, hts⟩ (hM H.size) (cwV 1 hts gL_goBack_X4_goBack rfl rfl rfl (by decide +kernel) ⟨hr1, by show 8 + (2 + 11) + rmc.locals ≤ 900; omega⟩) ⟨xpr_blind, va_recv hK hPc (ci := 4) (q0 := 0) rfl h0, xpr_at hX hZ (fr_app hD hS hA) hN hPc hK hDc⟩ rfl rfl hl.1 rfl (lv_room (Nat.le_of_ble_eq_true rfl)) dL_goBack_4 ⟨by rw [hr3]; exact Nat.zero_le _, by rw [hr4]; exact Nat.zero_le _⟩) hP hD hS hA (fun H locs hP hD hS => ?_)
  clear hPc hDc
  refine W.widen (k := 1) (n := 6) (by rw [hr3]; exact Nat.zero_le _) (by rw [hr4]; exact Nat.zero_le _) ?_
  refine lv_i2l hx hb dL_goBack_7 rfl ?_
  have ho : (ws' ++ oC k ou g)[ws'.length]? = some (ou, .inl (k 3, 1, .inr (.inl g))) := by rw [List.getElem?_append_right (Nat.le_refl _), Nat.sub_self]; rfl
  have hse : (ws' ++ oC k ou g).set ws'.length (ou, .inl (k 3, 1, .inr (.inl (vp_updL g 0 r.toInt64)))) = ws' ++ oC k ou (vp_updL g 0 r.toInt64) := by rw [List.set_append_right _ _ (Nat.le_refl _), Nat.sub_self]; rfl
  refine ar_lst hx hb hK hP hD hS ws'.length ho 0 rfl (show vp_in (nI 0) 1 from vp_in_nI (by decide) (by decide)) dL_goBack_8 hse (fun H locs hP hD hS => ?_)
  refine lv_goto (tgt := 18) hx hb dL_goBack_9 (by decide) ?_
  refine lv_iconst (v := 0) hx hb dL_goBack_18 (by decide) ?_
  subst hQ
  exact rt_iD hx hb hr hlocks hS dL_goBack_19 hP hD rfl

set_option maxHeartbeats 1000000 in
set_option maxRecDepth 100000 in
theorem w_goBack_t1 (l : Launch) (D : va_G) (k : Nat → ClassId) (x0 ou : Nat) (p0 : Int32) (ws ws' : va_W) (fs : List Value) (g : Nat → Int64) (rmc : Room) (ads : List Nat) (hM : MX l yX4_goBack wsX4_goBack rmc D k [.ref x0, .int p0] ws "java/lang/IllegalArgumentException" ws') (h0 : ws[0]? = some (x0, .inr (4, fs))) (hr1 : rmc.frames + 1 ≤ 40) (hr2 : rmc.locals ≤ 850) (hr3 : rmc.cells = 1) (hr4 : rmc.slots = 6) (ha1 : ws'.map (fun q => q.1) = ads) (ha2 : ws.map (fun q => q.1) = ads) :
    MYi l yL_goBack wsL_goBack RW D k [.ref x0, .int p0, .ref ou] (ws ++ oC k ou g) 1 (ws' ++ oC k ou g) := by
  intro sz
  refine mo_WH (cc := cL_goBack) (maxL := 4) (ret := (some .int)) (by decide) rfl ?_
  intro p e s m args below meth c s₁ B hml htab hv
  obtain ⟨rfl, hX, hZ, hN, hsz, hP, hK, hD0⟩ := hv
  have hx := B.exec
  have hb := B.bytes
  have hr := B.returns
  have hts := atoms_spec (ws := wsL_goBack) B.pre
  have hown : s.vm.findClass RL = some m.cls := findClass_of_methodNamed B.named
  have hlocks := B.notSynchronized
  subst hsz
  have hD := hD0.self (sz := s.heap.size)
  generalize hAe : va_A (ws ++ oC k ou g) s.heap.size = A at hD hZ ⊢
  have hA : ∀ q : Nat, s.heap.size ≤ q → A q := fun q h => by rw [← hAe]; exact Or.inr h
  have hS : va_S A s.heap s.heap [] := va_S.rf
  have hl := lv_entry ([.ref x0, .int p0, .ref ou]) (n := 4) (Nat.le_of_ble_eq_true rfl)
  rw [lg_entry_eq]
  generalize (lg_sl ([.ref x0, .int p0, .ref ou]) ++ List.replicate (4 - (lg_sl ([.ref x0, .int p0, .ref ou])).length) Slot.unset).toArray = ls at hl ⊢
  have hl : lv_has ls 4 [(0, .ref x0), (1, .int p0), (2, .ref ou)] := hl
  obtain ⟨H, hHe⟩ : ∃ H, H = s.heap := ⟨_, rfl⟩
  have hP : va_P D vwCl (ws ++ oC k ou g) H := by rw [hHe]; exact hP
  have hS : va_S A s.heap H [] := by rw [hHe]; exact hS
  have hZ : XZ A s H := by rw [hHe]; exact hZ
  rw [← hHe]
  refine absQ (fun Q hQ => ?_)
  refine lv_aload_n hx hb dL_goBack_0 rfl (lv_at hl 2 rfl) ?_
  refine lv_iconst (v := 0) hx hb dL_goBack_1 (by decide) ?_
  refine lv_aload_n hx hb dL_goBack_2 rfl (lv_at hl 0 rfl) ?_
  refine lv_iload_n hx hb dL_goBack_3 rfl (lv_at hl 1 rfl) ?_
  have hPc := va_PL hP
  have hDc := va_DL hD
  have hF := fr_app hD hS hA
  refine vx_calli (vx_runV (As := [.int p0]) (rest := [.int 0, .ref ou]) ⟨hx, hb, hml, hown, hts⟩ (hM H.size) (cwV 1 hts gL_goBack_X4_goBack rfl rfl rfl (by decide +kernel) ⟨hr1, by show 8 + (2 + 11) + rmc.locals ≤ 900; omega⟩) ⟨xpr_blind, va_recv hK hPc (ci := 4) (q0 := 0) rfl h0, xpr_at hX hZ hF hN hPc hK hDc⟩ rfl rfl hl.1 rfl (lv_room (Nat.le_of_ble_eq_true rfl)) dL_goBack_4 ⟨by rw [hr3]; exact Nat.le_refl _, by rw [hr4]; exact Nat.le_refl _⟩) hS (fun q _ h => hF q h) hF (fun q _ h => hF q h) (fun E ce q9 u t H1 locs ht hvm _ hB hz hk hS hc1 hc2 hc3 => ?_) (fun r u t H1 locs ht hvm hf => hf.elim)
  obtain ⟨rfl, hP1⟩ := hB
  rw [ht] at hP1
  have hD1 : va_D (va_A ws H.size) ws' := (hDc.self (sz := H.size)).addr (ha1.trans ha2.symm)
  obtain ⟨hP, hD⟩ := jn_app hP hD hk hF hP1 hD1
  refine vx_catch (name := "java/lang/IllegalArgumentException") hown [] { startPc := 0, endPc := 9, handlerPc := 12, catchType := 15 } [{ startPc := 0, endPc := 9, handlerPc := 15, catchType := 30 }] htab (fun z hz => nomatch hz) (by decide) (by decide) (hts _ (List.mem_of_getElem? (i := 1) rfl)) (va_Nw.use rfl hX.1.2.1) hc1 hc2 hc3 ?_
  refine W.widen (k := 1) (n := 6) (by rw [hr3]; exact Nat.le_refl _) (by rw [hr4]; exact Nat.le_refl _) ?_
  refine lv_astore_n (lv' := [(3, .ref q9), (0, .ref x0), (1, .int p0), (2, .ref ou)]) hx hb dL_goBack_12 rfl hl (by decide) rfl (fun ls hl => ?_)
  refine lv_iconst (v := 1) hx hb dL_goBack_13 (by decide) ?_
  subst hQ
  exact rt_iD hx hb hr hlocks hS dL_goBack_14 hP hD rfl

set_option maxHeartbeats 1000000 in
set_option maxRecDepth 100000 in
theorem w_goBack_t2 (l : Launch) (D : va_G) (k : Nat → ClassId) (x0 ou : Nat) (p0 : Int32) (ws ws' : va_W) (fs : List Value) (g : Nat → Int64) (rmc : Room) (ads : List Nat) (hM : MX l yX4_goBack wsX4_goBack rmc D k [.ref x0, .int p0] ws "java/lang/IllegalStateException" ws') (h0 : ws[0]? = some (x0, .inr (4, fs))) (hr1 : rmc.frames + 1 ≤ 40) (hr2 : rmc.locals ≤ 850) (hr3 : rmc.cells = 1) (hr4 : rmc.slots = 6) (ha1 : ws'.map (fun q => q.1) = ads) (ha2 : ws.map (fun q => q.1) = ads) :
    MYi l yL_goBack wsL_goBack RW D k [.ref x0, .int p0, .ref ou] (ws ++ oC k ou g) 2 (ws' ++ oC k ou g) := by
  intro sz
  refine mo_WH (cc := cL_goBack) (maxL := 4) (ret := (some .int)) (by decide) rfl ?_
  intro p e s m args below meth c s₁ B hml htab hv
  obtain ⟨rfl, hX, hZ, hN, hsz, hP, hK, hD0⟩ := hv
  have hx := B.exec
  have hb := B.bytes
  have hr := B.returns
  have hts := atoms_spec (ws := wsL_goBack) B.pre
  have hown : s.vm.findClass RL = some m.cls := findClass_of_methodNamed B.named
  have hlocks := B.notSynchronized
  subst hsz
  have hD := hD0.self (sz := s.heap.size)
  generalize hAe : va_A (ws ++ oC k ou g) s.heap.size = A at hD hZ ⊢
  have hA : ∀ q : Nat, s.heap.size ≤ q → A q := fun q h => by rw [← hAe]; exact Or.inr h
  have hS : va_S A s.heap s.heap [] := va_S.rf
  have hl := lv_entry ([.ref x0, .int p0, .ref ou]) (n := 4) (Nat.le_of_ble_eq_true rfl)
  rw [lg_entry_eq]
  generalize (lg_sl ([.ref x0, .int p0, .ref ou]) ++ List.replicate (4 - (lg_sl ([.ref x0, .int p0, .ref ou])).length) Slot.unset).toArray = ls at hl ⊢
  have hl : lv_has ls 4 [(0, .ref x0), (1, .int p0), (2, .ref ou)] := hl
  obtain ⟨H, hHe⟩ : ∃ H, H = s.heap := ⟨_, rfl⟩
  have hP : va_P D vwCl (ws ++ oC k ou g) H := by rw [hHe]; exact hP
  have hS : va_S A s.heap H [] := by rw [hHe]; exact hS
  have hZ : XZ A s H := by rw [hHe]; exact hZ
  rw [← hHe]
  refine absQ (fun Q hQ => ?_)
  refine lv_aload_n hx hb dL_goBack_0 rfl (lv_at hl 2 rfl) ?_
  refine lv_iconst (v := 0) hx hb dL_goBack_1 (by decide) ?_
  refine lv_aload_n hx hb dL_goBack_2 rfl (lv_at hl 0 rfl) ?_
  refine lv_iload_n hx hb dL_goBack_3 rfl (lv_at hl 1 rfl) ?_
  have hPc := va_PL hP
  have hDc := va_DL hD
  have hF := fr_app hD hS hA
  refine vx_calli (vx_runV (As := [.int p0]) (rest := [.int 0, .ref ou]) ⟨hx, hb, hml, hown, hts⟩ (hM H.size) (cwV 1 hts gL_goBack_X4_goBack rfl rfl rfl (by decide +kernel) ⟨hr1, by show 8 + (2 + 11) + rmc.locals ≤ 900; omega⟩) ⟨xpr_blind, va_recv hK hPc (ci := 4) (q0 := 0) rfl h0, xpr_at hX hZ hF hN hPc hK hDc⟩ rfl rfl hl.1 rfl (lv_room (Nat.le_of_ble_eq_true rfl)) dL_goBack_4 ⟨by rw [hr3]; exact Nat.le_refl _, by rw [hr4]; exact Nat.le_refl _⟩) hS (fun q _ h => hF q h) hF (fun q _ h => hF q h) (fun E ce q9 u t H1 locs ht hvm _ hB hz hk hS hc1 hc2 hc3 => ?_) (fun r u t H1 locs ht hvm hf => hf.elim)
  obtain ⟨rfl, hP1⟩ := hB
  rw [ht] at hP1
  have hD1 : va_D (va_A ws H.size) ws' := (hDc.self (sz := H.size)).addr (ha1.trans ha2.symm)
  obtain ⟨hP, hD⟩ := jn_app hP hD hk hF hP1 hD1
  refine vx_catch (name := "java/lang/IllegalStateException") hown [{ startPc := 0, endPc := 9, handlerPc := 12, catchType := 15 }] { startPc := 0, endPc := 9, handlerPc := 15, catchType := 30 } [] htab (fun z hz => (List.mem_cons.mp hz).elim (fun e9 => by subst e9; exact Or.inr ⟨by decide, "java/lang/IllegalArgumentException", hts _ (List.mem_of_getElem? (i := 1) rfl), hX.2.2.1⟩) (fun h9 => nomatch h9)) (by decide) (by decide) (hts _ (List.mem_of_getElem? (i := 2) rfl)) (va_Nw.use rfl hX.1.2.2.1) hc1 hc2 hc3 ?_
  refine W.widen (k := 1) (n := 6) (by rw [hr3]; exact Nat.le_refl _) (by rw [hr4]; exact Nat.le_refl _) ?_
  refine lv_astore_n (lv' := [(3, .ref q9), (0, .ref x0), (1, .int p0), (2, .ref ou)]) hx hb dL_goBack_15 rfl hl (by decide) rfl (fun ls hl => ?_)
  refine lv_iconst (v := 2) hx hb dL_goBack_16 (by decide) ?_
  subst hQ
  exact rt_iD hx hb hr hlocks hS dL_goBack_17 hP hD rfl

set_option maxHeartbeats 1000000 in
set_option maxRecDepth 100000 in
theorem w_undo (l : Launch) (D : va_G) (k : Nat → ClassId) (x0 ou : Nat) (ws ws' : va_W) (fs : List Value) (g : Nat → Int64) (r : Int32) (rmc : Room) (hM : MYi l yX4_undo wsX4_undo rmc D k [.ref x0] ws r ws') (h0 : ws[0]? = some (x0, .inr (4, fs))) (hr1 : rmc.frames + 1 ≤ 40) (hr2 : rmc.locals ≤ 850) (hr3 : rmc.cells = 0) (hr4 : rmc.slots = 0) :
    MYi l yL_undo wsL_undo RW D k [.ref x0, .ref ou] (ws ++ oC k ou g) 0 (ws' ++ oC k ou (vp_updL g 0 r.toInt64)) := by
  intro sz
  refine mo_WH (cc := cL_undo) (maxL := 3) (ret := (some .int)) (by decide) rfl ?_
  intro p e s m args below meth c s₁ B hml htab hv
  obtain ⟨rfl, hX, hZ, hN, hsz, hP, hK, hD0⟩ := hv
  have hx := B.exec
  have hb := B.bytes
  have hr := B.returns
  have hts := atoms_spec (ws := wsL_undo) B.pre
  have hown : s.vm.findClass RL = some m.cls := findClass_of_methodNamed B.named
  have hlocks := B.notSynchronized
  subst hsz
  have hD := hD0.self (sz := s.heap.size)
  generalize hAe : va_A (ws ++ oC k ou g) s.heap.size = A at hD hZ ⊢
  have hA : ∀ q : Nat, s.heap.size ≤ q → A q := fun q h => by rw [← hAe]; exact Or.inr h
  have hS : va_S A s.heap s.heap [] := va_S.rf
  have hl := lv_entry ([.ref x0, .ref ou]) (n := 3) (Nat.le_of_ble_eq_true rfl)
  rw [lg_entry_eq]
  generalize (lg_sl ([.ref x0, .ref ou]) ++ List.replicate (3 - (lg_sl ([.ref x0, .ref ou])).length) Slot.unset).toArray = ls at hl ⊢
  have hl : lv_has ls 3 [(0, .ref x0), (1, .ref ou)] := hl
  obtain ⟨H, hHe⟩ : ∃ H, H = s.heap := ⟨_, rfl⟩
  have hP : va_P D vwCl (ws ++ oC k ou g) H := by rw [hHe]; exact hP
  have hS : va_S A s.heap H [] := by rw [hHe]; exact hS
  have hZ : XZ A s H := by rw [hHe]; exact hZ
  rw [← hHe]
  refine absQ (fun Q hQ => ?_)
  refine lv_aload_n hx hb dL_undo_0 rfl (lv_at hl 1 rfl) ?_
  refine lv_iconst (v := 0) hx hb dL_undo_1 (by decide) ?_
  refine lv_aload_n hx hb dL_undo_2 rfl (lv_at hl 0 rfl) ?_
  have hPc := va_PL hP
  have hDc := va_DL hD
  refine cl_iA (va_runV (As := []) (rest := [.int 0, .ref ou]) ⟨hx, hb, hml, hown, hts⟩ (hM H.size) (cwV 0 hts gL_undo_X4_undo rfl rfl rfl (by decide +kernel) ⟨hr1, by show 8 + (1 + 11) + rmc.locals ≤ 900; omega⟩) ⟨xpr_blind, va_recv hK hPc (ci := 4) (q0 := 0) rfl h0, xpr_at hX hZ (fr_app hD hS hA) hN hPc hK hDc⟩ rfl rfl hl.1 rfl (lv_room (Nat.le_of_ble_eq_true rfl)) dL_undo_3 ⟨by rw [hr3]; exact Nat.zero_le _, by rw [hr4]; exact Nat.zero_le _⟩) hP hD hS hA (fun H locs hP hD hS => ?_)
  clear hPc hDc
  refine W.widen (k := 1) (n := 6) (by rw [hr3]; exact Nat.zero_le _) (by rw [hr4]; exact Nat.zero_le _) ?_
  refine lv_i2l hx hb dL_undo_6 rfl ?_
  have ho : (ws' ++ oC k ou g)[ws'.length]? = some (ou, .inl (k 3, 1, .inr (.inl g))) := by rw [List.getElem?_append_right (Nat.le_refl _), Nat.sub_self]; rfl
  have hse : (ws' ++ oC k ou g).set ws'.length (ou, .inl (k 3, 1, .inr (.inl (vp_updL g 0 r.toInt64)))) = ws' ++ oC k ou (vp_updL g 0 r.toInt64) := by rw [List.set_append_right _ _ (Nat.le_refl _), Nat.sub_self]; rfl
  refine ar_lst hx hb hK hP hD hS ws'.length ho 0 rfl (show vp_in (nI 0) 1 from vp_in_nI (by decide) (by decide)) dL_undo_7 hse (fun H locs hP hD hS => ?_)
  refine lv_goto (tgt := 14) hx hb dL_undo_8 (by decide) ?_
  refine lv_iconst (v := 0) hx hb dL_undo_14 (by decide) ?_
  subst hQ
  exact rt_iD hx hb hr hlocks hS dL_undo_15 hP hD rfl

set_option maxHeartbeats 1000000 in
set_option maxRecDepth 100000 in
theorem w_undo_t1 (l : Launch) (D : va_G) (k : Nat → ClassId) (x0 ou : Nat) (ws ws' : va_W) (fs : List Value) (g : Nat → Int64) (rmc : Room) (ads : List Nat) (hM : MX l yX4_undo wsX4_undo rmc D k [.ref x0] ws "java/lang/IllegalStateException" ws') (h0 : ws[0]? = some (x0, .inr (4, fs))) (hr1 : rmc.frames + 1 ≤ 40) (hr2 : rmc.locals ≤ 850) (hr3 : rmc.cells = 1) (hr4 : rmc.slots = 6) (ha1 : ws'.map (fun q => q.1) = ads) (ha2 : ws.map (fun q => q.1) = ads) :
    MYi l yL_undo wsL_undo RW D k [.ref x0, .ref ou] (ws ++ oC k ou g) 1 (ws' ++ oC k ou g) := by
  intro sz
  refine mo_WH (cc := cL_undo) (maxL := 3) (ret := (some .int)) (by decide) rfl ?_
  intro p e s m args below meth c s₁ B hml htab hv
  obtain ⟨rfl, hX, hZ, hN, hsz, hP, hK, hD0⟩ := hv
  have hx := B.exec
  have hb := B.bytes
  have hr := B.returns
  have hts := atoms_spec (ws := wsL_undo) B.pre
  have hown : s.vm.findClass RL = some m.cls := findClass_of_methodNamed B.named
  have hlocks := B.notSynchronized
  subst hsz
  have hD := hD0.self (sz := s.heap.size)
  generalize hAe : va_A (ws ++ oC k ou g) s.heap.size = A at hD hZ ⊢
  have hA : ∀ q : Nat, s.heap.size ≤ q → A q := fun q h => by rw [← hAe]; exact Or.inr h
  have hS : va_S A s.heap s.heap [] := va_S.rf
  have hl := lv_entry ([.ref x0, .ref ou]) (n := 3) (Nat.le_of_ble_eq_true rfl)
  rw [lg_entry_eq]
  generalize (lg_sl ([.ref x0, .ref ou]) ++ List.replicate (3 - (lg_sl ([.ref x0, .ref ou])).length) Slot.unset).toArray = ls at hl ⊢
  have hl : lv_has ls 3 [(0, .ref x0), (1, .ref ou)] := hl
  obtain ⟨H, hHe⟩ : ∃ H, H = s.heap := ⟨_, rfl⟩
  have hP : va_P D vwCl (ws ++ oC k ou g) H := by rw [hHe]; exact hP
  have hS : va_S A s.heap H [] := by rw [hHe]; exact hS
  have hZ : XZ A s H := by rw [hHe]; exact hZ
  rw [← hHe]
  refine absQ (fun Q hQ => ?_)
  refine lv_aload_n hx hb dL_undo_0 rfl (lv_at hl 1 rfl) ?_
  refine lv_iconst (v := 0) hx hb dL_undo_1 (by decide) ?_
  refine lv_aload_n hx hb dL_undo_2 rfl (lv_at hl 0 rfl) ?_
  have hPc := va_PL hP
  have hDc := va_DL hD
  have hF := fr_app hD hS hA
  refine vx_calli (vx_runV (As := []) (rest := [.int 0, .ref ou]) ⟨hx, hb, hml, hown, hts⟩ (hM H.size) (cwV 0 hts gL_undo_X4_undo rfl rfl rfl (by decide +kernel) ⟨hr1, by show 8 + (1 + 11) + rmc.locals ≤ 900; omega⟩) ⟨xpr_blind, va_recv hK hPc (ci := 4) (q0 := 0) rfl h0, xpr_at hX hZ hF hN hPc hK hDc⟩ rfl rfl hl.1 rfl (lv_room (Nat.le_of_ble_eq_true rfl)) dL_undo_3 ⟨by rw [hr3]; exact Nat.le_refl _, by rw [hr4]; exact Nat.le_refl _⟩) hS (fun q _ h => hF q h) hF (fun q _ h => hF q h) (fun E ce q9 u t H1 locs ht hvm _ hB hz hk hS hc1 hc2 hc3 => ?_) (fun r u t H1 locs ht hvm hf => hf.elim)
  obtain ⟨rfl, hP1⟩ := hB
  rw [ht] at hP1
  have hD1 : va_D (va_A ws H.size) ws' := (hDc.self (sz := H.size)).addr (ha1.trans ha2.symm)
  obtain ⟨hP, hD⟩ := jn_app hP hD hk hF hP1 hD1
  refine vx_catch (name := "java/lang/IllegalStateException") hown [] { startPc := 0, endPc := 8, handlerPc := 11, catchType := 30 } [] htab (fun z hz => nomatch hz) (by decide) (by decide) (hts _ (List.mem_of_getElem? (i := 1) rfl)) (va_Nw.use rfl hX.1.2.2.1) hc1 hc2 hc3 ?_
  refine W.widen (k := 1) (n := 6) (by rw [hr3]; exact Nat.le_refl _) (by rw [hr4]; exact Nat.le_refl _) ?_
  refine lv_astore_n (lv' := [(2, .ref q9), (0, .ref x0), (1, .ref ou)]) hx hb dL_undo_11 rfl hl (by decide) rfl (fun ls hl => ?_)
  refine lv_iconst (v := 1) hx hb dL_undo_12 (by decide) ?_
  subst hQ
  exact rt_iD hx hb hr hlocks hS dL_undo_13 hP hD rfl

set_option maxHeartbeats 1000000 in
set_option maxRecDepth 100000 in
theorem w_pieceOf (l : Launch) (D : va_G) (k : Nat → ClassId) (x0 ou : Nat) (p0 p1 : Int32) (ws ws' : va_W) (fs : List Value) (g : Nat → Int64) (r : Int32) (rmc : Room) (hM : MYi l yX4_pieceOf wsX4_pieceOf rmc D k [.ref x0, .int p0, .int p1] ws r ws') (h0 : ws[0]? = some (x0, .inr (4, fs))) (hr1 : rmc.frames + 1 ≤ 40) (hr2 : rmc.locals ≤ 850) (hr3 : rmc.cells = 0) (hr4 : rmc.slots = 0) :
    MYi l yL_pieceOf wsL_pieceOf RW D k [.ref x0, .int p0, .int p1, .ref ou] (ws ++ oC k ou g) 0 (ws' ++ oC k ou (vp_updL g 0 r.toInt64)) := by
  intro sz
  refine mo_WH (cc := cL_pieceOf) (maxL := 5) (ret := (some .int)) (by decide) rfl ?_
  intro p e s m args below meth c s₁ B hml htab hv
  obtain ⟨rfl, hX, hZ, hN, hsz, hP, hK, hD0⟩ := hv
  have hx := B.exec
  have hb := B.bytes
  have hr := B.returns
  have hts := atoms_spec (ws := wsL_pieceOf) B.pre
  have hown : s.vm.findClass RL = some m.cls := findClass_of_methodNamed B.named
  have hlocks := B.notSynchronized
  subst hsz
  have hD := hD0.self (sz := s.heap.size)
  generalize hAe : va_A (ws ++ oC k ou g) s.heap.size = A at hD hZ ⊢
  have hA : ∀ q : Nat, s.heap.size ≤ q → A q := fun q h => by rw [← hAe]; exact Or.inr h
  have hS : va_S A s.heap s.heap [] := va_S.rf
  have hl := lv_entry ([.ref x0, .int p0, .int p1, .ref ou]) (n := 5) (Nat.le_of_ble_eq_true rfl)
  rw [lg_entry_eq]
  generalize (lg_sl ([.ref x0, .int p0, .int p1, .ref ou]) ++ List.replicate (5 - (lg_sl ([.ref x0, .int p0, .int p1, .ref ou])).length) Slot.unset).toArray = ls at hl ⊢
  have hl : lv_has ls 5 [(0, .ref x0), (1, .int p0), (2, .int p1), (3, .ref ou)] := hl
  obtain ⟨H, hHe⟩ : ∃ H, H = s.heap := ⟨_, rfl⟩
  have hP : va_P D vwCl (ws ++ oC k ou g) H := by rw [hHe]; exact hP
  have hS : va_S A s.heap H [] := by rw [hHe]; exact hS
  have hZ : XZ A s H := by rw [hHe]; exact hZ
  rw [← hHe]
  refine absQ (fun Q hQ => ?_)
  refine lv_aload_n hx hb dL_pieceOf_0 rfl (lv_at hl 3 rfl) ?_
  refine lv_iconst (v := 0) hx hb dL_pieceOf_1 (by decide) ?_
  refine lv_aload_n hx hb dL_pieceOf_2 rfl (lv_at hl 0 rfl) ?_
  refine lv_iload_n hx hb dL_pieceOf_3 rfl (lv_at hl 1 rfl) ?_
  refine lv_iload_n hx hb dL_pieceOf_4 rfl (lv_at hl 2 rfl) ?_
  have hPc := va_PL hP
  have hDc := va_DL hD
  refine cl_iA (va_runV (As := [.int p0, .int p1]) (rest := [.int 0, .ref ou]) ⟨hx, hb, hml, hown, hts⟩ (hM H.size) (cwV 2 hts gL_pieceOf_X4_pieceOf rfl rfl rfl (by decide +kernel) ⟨hr1, by show 8 + (3 + 11) + rmc.locals ≤ 900; omega⟩) ⟨xpr_blind, va_recv hK hPc (ci := 4) (q0 := 0) rfl h0, xpr_at hX hZ (fr_app hD hS hA) hN hPc hK hDc⟩ rfl rfl hl.1 rfl (lv_room (Nat.le_of_ble_eq_true rfl)) dL_pieceOf_5 ⟨by rw [hr3]; exact Nat.zero_le _, by rw [hr4]; exact Nat.zero_le _⟩) hP hD hS hA (fun H locs hP hD hS => ?_)
  clear hPc hDc
  refine W.widen (k := 1) (n := 6) (by rw [hr3]; exact Nat.zero_le _) (by rw [hr4]; exact Nat.zero_le _) ?_
  refine lv_i2l hx hb dL_pieceOf_8 rfl ?_
  have ho : (ws' ++ oC k ou g)[ws'.length]? = some (ou, .inl (k 3, 1, .inr (.inl g))) := by rw [List.getElem?_append_right (Nat.le_refl _), Nat.sub_self]; rfl
  have hse : (ws' ++ oC k ou g).set ws'.length (ou, .inl (k 3, 1, .inr (.inl (vp_updL g 0 r.toInt64)))) = ws' ++ oC k ou (vp_updL g 0 r.toInt64) := by rw [List.set_append_right _ _ (Nat.le_refl _), Nat.sub_self]; rfl
  refine ar_lst hx hb hK hP hD hS ws'.length ho 0 rfl (show vp_in (nI 0) 1 from vp_in_nI (by decide) (by decide)) dL_pieceOf_9 hse (fun H locs hP hD hS => ?_)
  refine lv_goto (tgt := 21) hx hb dL_pieceOf_10 (by decide) ?_
  refine lv_iconst (v := 0) hx hb dL_pieceOf_21 (by decide) ?_
  subst hQ
  exact rt_iD hx hb hr hlocks hS dL_pieceOf_22 hP hD rfl

set_option maxHeartbeats 1000000 in
set_option maxRecDepth 100000 in
theorem w_pieceOf_t1 (l : Launch) (D : va_G) (k : Nat → ClassId) (x0 ou : Nat) (p0 p1 : Int32) (ws ws' : va_W) (fs : List Value) (g : Nat → Int64) (rmc : Room) (ads : List Nat) (hM : MX l yX4_pieceOf wsX4_pieceOf rmc D k [.ref x0, .int p0, .int p1] ws "java/lang/IndexOutOfBoundsException" ws') (h0 : ws[0]? = some (x0, .inr (4, fs))) (hr1 : rmc.frames + 1 ≤ 40) (hr2 : rmc.locals ≤ 850) (hr3 : rmc.cells = 1) (hr4 : rmc.slots = 6) (ha1 : ws'.map (fun q => q.1) = ads) (ha2 : ws.map (fun q => q.1) = ads) :
    MYi l yL_pieceOf wsL_pieceOf RW D k [.ref x0, .int p0, .int p1, .ref ou] (ws ++ oC k ou g) 1 (ws' ++ oC k ou g) := by
  intro sz
  refine mo_WH (cc := cL_pieceOf) (maxL := 5) (ret := (some .int)) (by decide) rfl ?_
  intro p e s m args below meth c s₁ B hml htab hv
  obtain ⟨rfl, hX, hZ, hN, hsz, hP, hK, hD0⟩ := hv
  have hx := B.exec
  have hb := B.bytes
  have hr := B.returns
  have hts := atoms_spec (ws := wsL_pieceOf) B.pre
  have hown : s.vm.findClass RL = some m.cls := findClass_of_methodNamed B.named
  have hlocks := B.notSynchronized
  subst hsz
  have hD := hD0.self (sz := s.heap.size)
  generalize hAe : va_A (ws ++ oC k ou g) s.heap.size = A at hD hZ ⊢
  have hA : ∀ q : Nat, s.heap.size ≤ q → A q := fun q h => by rw [← hAe]; exact Or.inr h
  have hS : va_S A s.heap s.heap [] := va_S.rf
  have hl := lv_entry ([.ref x0, .int p0, .int p1, .ref ou]) (n := 5) (Nat.le_of_ble_eq_true rfl)
  rw [lg_entry_eq]
  generalize (lg_sl ([.ref x0, .int p0, .int p1, .ref ou]) ++ List.replicate (5 - (lg_sl ([.ref x0, .int p0, .int p1, .ref ou])).length) Slot.unset).toArray = ls at hl ⊢
  have hl : lv_has ls 5 [(0, .ref x0), (1, .int p0), (2, .int p1), (3, .ref ou)] := hl
  obtain ⟨H, hHe⟩ : ∃ H, H = s.heap := ⟨_, rfl⟩
  have hP : va_P D vwCl (ws ++ oC k ou g) H := by rw [hHe]; exact hP
  have hS : va_S A s.heap H [] := by rw [hHe]; exact hS
  have hZ : XZ A s H := by rw [hHe]; exact hZ
  rw [← hHe]
  refine absQ (fun Q hQ => ?_)
  refine lv_aload_n hx hb dL_pieceOf_0 rfl (lv_at hl 3 rfl) ?_
  refine lv_iconst (v := 0) hx hb dL_pieceOf_1 (by decide) ?_
  refine lv_aload_n hx hb dL_pieceOf_2 rfl (lv_at hl 0 rfl) ?_
  refine lv_iload_n hx hb dL_pieceOf_3 rfl (lv_at hl 1 rfl) ?_
  refine lv_iload_n hx hb dL_pieceOf_4 rfl (lv_at hl 2 rfl) ?_
  have hPc := va_PL hP
  have hDc := va_DL hD
  have hF := fr_app hD hS hA
  refine vx_calli (vx_runV (As := [.int p0, .int p1]) (rest := [.int 0, .ref ou]) ⟨hx, hb, hml, hown, hts⟩ (hM H.size) (cwV 2 hts gL_pieceOf_X4_pieceOf rfl rfl rfl (by decide +kernel) ⟨hr1, by show 8 + (3 + 11) + rmc.locals ≤ 900; omega⟩) ⟨xpr_blind, va_recv hK hPc (ci := 4) (q0 := 0) rfl h0, xpr_at hX hZ hF hN hPc hK hDc⟩ rfl rfl hl.1 rfl (lv_room (Nat.le_of_ble_eq_true rfl)) dL_pieceOf_5 ⟨by rw [hr3]; exact Nat.le_refl _, by rw [hr4]; exact Nat.le_refl _⟩) hS (fun q _ h => hF q h) hF (fun q _ h => hF q h) (fun E ce q9 u t H1 locs ht hvm _ hB hz hk hS hc1 hc2 hc3 => ?_) (fun r u t H1 locs ht hvm hf => hf.elim)
  obtain ⟨rfl, hP1⟩ := hB
  rw [ht] at hP1
  have hD1 : va_D (va_A ws H.size) ws' := (hDc.self (sz := H.size)).addr (ha1.trans ha2.symm)
  obtain ⟨hP, hD⟩ := jn_app hP hD hk hF hP1 hD1
  refine vx_catch (name := "java/lang/IndexOutOfBoundsException") hown [] { startPc := 0, endPc := 10, handlerPc := 13, catchType := 13 } [{ startPc := 0, endPc := 10, handlerPc := 17, catchType := 15 }] htab (fun z hz => nomatch hz) (by decide) (by decide) (hts _ (List.mem_of_getElem? (i := 1) rfl)) (va_Nw.use rfl hX.1.1) hc1 hc2 hc3 ?_
  refine W.widen (k := 1) (n := 6) (by rw [hr3]; exact Nat.le_refl _) (by rw [hr4]; exact Nat.le_refl _) ?_
  refine lv_astore (lv' := [(4, .ref q9), (0, .ref x0), (1, .int p0), (2, .int p1), (3, .ref ou)]) hx hb dL_pieceOf_13 hl (by decide) rfl (fun ls hl => ?_)
  refine lv_iconst (v := 1) hx hb dL_pieceOf_15 (by decide) ?_
  subst hQ
  exact rt_iD hx hb hr hlocks hS dL_pieceOf_16 hP hD rfl

set_option maxHeartbeats 1000000 in
set_option maxRecDepth 100000 in
theorem w_pieceOf_t2 (l : Launch) (D : va_G) (k : Nat → ClassId) (x0 ou : Nat) (p0 p1 : Int32) (ws ws' : va_W) (fs : List Value) (g : Nat → Int64) (rmc : Room) (ads : List Nat) (hM : MX l yX4_pieceOf wsX4_pieceOf rmc D k [.ref x0, .int p0, .int p1] ws "java/lang/IllegalArgumentException" ws') (h0 : ws[0]? = some (x0, .inr (4, fs))) (hr1 : rmc.frames + 1 ≤ 40) (hr2 : rmc.locals ≤ 850) (hr3 : rmc.cells = 1) (hr4 : rmc.slots = 6) (ha1 : ws'.map (fun q => q.1) = ads) (ha2 : ws.map (fun q => q.1) = ads) :
    MYi l yL_pieceOf wsL_pieceOf RW D k [.ref x0, .int p0, .int p1, .ref ou] (ws ++ oC k ou g) 2 (ws' ++ oC k ou g) := by
  intro sz
  refine mo_WH (cc := cL_pieceOf) (maxL := 5) (ret := (some .int)) (by decide) rfl ?_
  intro p e s m args below meth c s₁ B hml htab hv
  obtain ⟨rfl, hX, hZ, hN, hsz, hP, hK, hD0⟩ := hv
  have hx := B.exec
  have hb := B.bytes
  have hr := B.returns
  have hts := atoms_spec (ws := wsL_pieceOf) B.pre
  have hown : s.vm.findClass RL = some m.cls := findClass_of_methodNamed B.named
  have hlocks := B.notSynchronized
  subst hsz
  have hD := hD0.self (sz := s.heap.size)
  generalize hAe : va_A (ws ++ oC k ou g) s.heap.size = A at hD hZ ⊢
  have hA : ∀ q : Nat, s.heap.size ≤ q → A q := fun q h => by rw [← hAe]; exact Or.inr h
  have hS : va_S A s.heap s.heap [] := va_S.rf
  have hl := lv_entry ([.ref x0, .int p0, .int p1, .ref ou]) (n := 5) (Nat.le_of_ble_eq_true rfl)
  rw [lg_entry_eq]
  generalize (lg_sl ([.ref x0, .int p0, .int p1, .ref ou]) ++ List.replicate (5 - (lg_sl ([.ref x0, .int p0, .int p1, .ref ou])).length) Slot.unset).toArray = ls at hl ⊢
  have hl : lv_has ls 5 [(0, .ref x0), (1, .int p0), (2, .int p1), (3, .ref ou)] := hl
  obtain ⟨H, hHe⟩ : ∃ H, H = s.heap := ⟨_, rfl⟩
  have hP : va_P D vwCl (ws ++ oC k ou g) H := by rw [hHe]; exact hP
  have hS : va_S A s.heap H [] := by rw [hHe]; exact hS
  have hZ : XZ A s H := by rw [hHe]; exact hZ
  rw [← hHe]
  refine absQ (fun Q hQ => ?_)
  refine lv_aload_n hx hb dL_pieceOf_0 rfl (lv_at hl 3 rfl) ?_
  refine lv_iconst (v := 0) hx hb dL_pieceOf_1 (by decide) ?_
  refine lv_aload_n hx hb dL_pieceOf_2 rfl (lv_at hl 0 rfl) ?_
  refine lv_iload_n hx hb dL_pieceOf_3 rfl (lv_at hl 1 rfl) ?_
  refine lv_iload_n hx hb dL_pieceOf_4 rfl (lv_at hl 2 rfl) ?_
  have hPc := va_PL hP
  have hDc := va_DL hD
  have hF := fr_app hD hS hA
  refine vx_calli (vx_runV (As := [.int p0, .int p1]) (rest := [.int 0, .ref ou]) ⟨hx, hb, hml, hown, hts⟩ (hM H.size) (cwV 2 hts gL_pieceOf_X4_pieceOf rfl rfl rfl (by decide +kernel) ⟨hr1, by show 8 + (3 + 11) + rmc.locals ≤ 900; omega⟩) ⟨xpr_blind, va_recv hK hPc (ci := 4) (q0 := 0) rfl h0, xpr_at hX hZ hF hN hPc hK hDc⟩ rfl rfl hl.1 rfl (lv_room (Nat.le_of_ble_eq_true rfl)) dL_pieceOf_5 ⟨by rw [hr3]; exact Nat.le_refl _, by rw [hr4]; exact Nat.le_refl _⟩) hS (fun q _ h => hF q h) hF (fun q _ h => hF q h) (fun E ce q9 u t H1 locs ht hvm _ hB hz hk hS hc1 hc2 hc3 => ?_) (fun r u t H1 locs ht hvm hf => hf.elim)
  obtain ⟨rfl, hP1⟩ := hB
  rw [ht] at hP1
  have hD1 : va_D (va_A ws H.size) ws' := (hDc.self (sz := H.size)).addr (ha1.trans ha2.symm)
  obtain ⟨hP, hD⟩ := jn_app hP hD hk hF hP1 hD1
  refine vx_catch (name := "java/lang/IllegalArgumentException") hown [{ startPc := 0, endPc := 10, handlerPc := 13, catchType := 13 }] { startPc := 0, endPc := 10, handlerPc := 17, catchType := 15 } [] htab (fun z hz => (List.mem_cons.mp hz).elim (fun e9 => by subst e9; exact Or.inr ⟨by decide, "java/lang/IndexOutOfBoundsException", hts _ (List.mem_of_getElem? (i := 1) rfl), hX.2.1⟩) (fun h9 => nomatch h9)) (by decide) (by decide) (hts _ (List.mem_of_getElem? (i := 2) rfl)) (va_Nw.use rfl hX.1.2.1) hc1 hc2 hc3 ?_
  refine W.widen (k := 1) (n := 6) (by rw [hr3]; exact Nat.le_refl _) (by rw [hr4]; exact Nat.le_refl _) ?_
  refine lv_astore (lv' := [(4, .ref q9), (0, .ref x0), (1, .int p0), (2, .int p1), (3, .ref ou)]) hx hb dL_pieceOf_17 hl (by decide) rfl (fun ls hl => ?_)
  refine lv_iconst (v := 2) hx hb dL_pieceOf_19 (by decide) ?_
  subst hQ
  exact rt_iD hx hb hr hlocks hS dL_pieceOf_20 hP hD rfl

set_option maxHeartbeats 1000000 in
set_option maxRecDepth 100000 in
theorem w_isJoined (l : Launch) (D : va_G) (k : Nat → ClassId) (x0 ou : Nat) (p0 p1 : Int32) (ws ws' : va_W) (fs : List Value) (g : Nat → Int64) (r : Int32) (rmc : Room) (hM : MYi l yX4_isJoined wsX4_isJoined rmc D k [.ref x0, .int p0, .int p1] ws r ws') (h0 : ws[0]? = some (x0, .inr (4, fs))) (hr1 : rmc.frames + 1 ≤ 40) (hr2 : rmc.locals ≤ 850) (hr3 : rmc.cells = 0) (hr4 : rmc.slots = 0) :
    MYi l yL_isJoined wsL_isJoined RW D k [.ref x0, .int p0, .int p1, .ref ou] (ws ++ oC k ou g) 0 (ws' ++ oC k ou (vp_updL g 0 r.toInt64)) := by
  intro sz
  refine mo_WH (cc := cL_isJoined) (maxL := 5) (ret := (some .int)) (by decide) rfl ?_
  intro p e s m args below meth c s₁ B hml htab hv
  obtain ⟨rfl, hX, hZ, hN, hsz, hP, hK, hD0⟩ := hv
  have hx := B.exec
  have hb := B.bytes
  have hr := B.returns
  have hts := atoms_spec (ws := wsL_isJoined) B.pre
  have hown : s.vm.findClass RL = some m.cls := findClass_of_methodNamed B.named
  have hlocks := B.notSynchronized
  subst hsz
  have hD := hD0.self (sz := s.heap.size)
  generalize hAe : va_A (ws ++ oC k ou g) s.heap.size = A at hD hZ ⊢
  have hA : ∀ q : Nat, s.heap.size ≤ q → A q := fun q h => by rw [← hAe]; exact Or.inr h
  have hS : va_S A s.heap s.heap [] := va_S.rf
  have hl := lv_entry ([.ref x0, .int p0, .int p1, .ref ou]) (n := 5) (Nat.le_of_ble_eq_true rfl)
  rw [lg_entry_eq]
  generalize (lg_sl ([.ref x0, .int p0, .int p1, .ref ou]) ++ List.replicate (5 - (lg_sl ([.ref x0, .int p0, .int p1, .ref ou])).length) Slot.unset).toArray = ls at hl ⊢
  have hl : lv_has ls 5 [(0, .ref x0), (1, .int p0), (2, .int p1), (3, .ref ou)] := hl
  obtain ⟨H, hHe⟩ : ∃ H, H = s.heap := ⟨_, rfl⟩
  have hP : va_P D vwCl (ws ++ oC k ou g) H := by rw [hHe]; exact hP
  have hS : va_S A s.heap H [] := by rw [hHe]; exact hS
  have hZ : XZ A s H := by rw [hHe]; exact hZ
  rw [← hHe]
  refine absQ (fun Q hQ => ?_)
  refine lv_aload_n hx hb dL_isJoined_0 rfl (lv_at hl 3 rfl) ?_
  refine lv_iconst (v := 0) hx hb dL_isJoined_1 (by decide) ?_
  refine lv_aload_n hx hb dL_isJoined_2 rfl (lv_at hl 0 rfl) ?_
  refine lv_iload_n hx hb dL_isJoined_3 rfl (lv_at hl 1 rfl) ?_
  refine lv_iload_n hx hb dL_isJoined_4 rfl (lv_at hl 2 rfl) ?_
  have hPc := va_PL hP
  have hDc := va_DL hD
  refine cl_iA (va_runV (As := [.int p0, .int p1]) (rest := [.int 0, .ref ou]) ⟨hx, hb, hml, hown, hts⟩ (hM H.size) (cwV 2 hts gL_isJoined_X4_isJoined rfl rfl rfl (by decide +kernel) ⟨hr1, by show 8 + (3 + 11) + rmc.locals ≤ 900; omega⟩) ⟨xpr_blind, va_recv hK hPc (ci := 4) (q0 := 0) rfl h0, xpr_at hX hZ (fr_app hD hS hA) hN hPc hK hDc⟩ rfl rfl hl.1 rfl (lv_room (Nat.le_of_ble_eq_true rfl)) dL_isJoined_5 ⟨by rw [hr3]; exact Nat.zero_le _, by rw [hr4]; exact Nat.zero_le _⟩) hP hD hS hA (fun H locs hP hD hS => ?_)
  clear hPc hDc
  refine W.widen (k := 1) (n := 6) (by rw [hr3]; exact Nat.zero_le _) (by rw [hr4]; exact Nat.zero_le _) ?_
  refine lv_i2l hx hb dL_isJoined_8 rfl ?_
  have ho : (ws' ++ oC k ou g)[ws'.length]? = some (ou, .inl (k 3, 1, .inr (.inl g))) := by rw [List.getElem?_append_right (Nat.le_refl _), Nat.sub_self]; rfl
  have hse : (ws' ++ oC k ou g).set ws'.length (ou, .inl (k 3, 1, .inr (.inl (vp_updL g 0 r.toInt64)))) = ws' ++ oC k ou (vp_updL g 0 r.toInt64) := by rw [List.set_append_right _ _ (Nat.le_refl _), Nat.sub_self]; rfl
  refine ar_lst hx hb hK hP hD hS ws'.length ho 0 rfl (show vp_in (nI 0) 1 from vp_in_nI (by decide) (by decide)) dL_isJoined_9 hse (fun H locs hP hD hS => ?_)
  refine lv_goto (tgt := 17) hx hb dL_isJoined_10 (by decide) ?_
  refine lv_iconst (v := 0) hx hb dL_isJoined_17 (by decide) ?_
  subst hQ
  exact rt_iD hx hb hr hlocks hS dL_isJoined_18 hP hD rfl

set_option maxHeartbeats 1000000 in
set_option maxRecDepth 100000 in
theorem w_isJoined_t1 (l : Launch) (D : va_G) (k : Nat → ClassId) (x0 ou : Nat) (p0 p1 : Int32) (ws ws' : va_W) (fs : List Value) (g : Nat → Int64) (rmc : Room) (ads : List Nat) (hM : MX l yX4_isJoined wsX4_isJoined rmc D k [.ref x0, .int p0, .int p1] ws "java/lang/IndexOutOfBoundsException" ws') (h0 : ws[0]? = some (x0, .inr (4, fs))) (hr1 : rmc.frames + 1 ≤ 40) (hr2 : rmc.locals ≤ 850) (hr3 : rmc.cells = 1) (hr4 : rmc.slots = 6) (ha1 : ws'.map (fun q => q.1) = ads) (ha2 : ws.map (fun q => q.1) = ads) :
    MYi l yL_isJoined wsL_isJoined RW D k [.ref x0, .int p0, .int p1, .ref ou] (ws ++ oC k ou g) 1 (ws' ++ oC k ou g) := by
  intro sz
  refine mo_WH (cc := cL_isJoined) (maxL := 5) (ret := (some .int)) (by decide) rfl ?_
  intro p e s m args below meth c s₁ B hml htab hv
  obtain ⟨rfl, hX, hZ, hN, hsz, hP, hK, hD0⟩ := hv
  have hx := B.exec
  have hb := B.bytes
  have hr := B.returns
  have hts := atoms_spec (ws := wsL_isJoined) B.pre
  have hown : s.vm.findClass RL = some m.cls := findClass_of_methodNamed B.named
  have hlocks := B.notSynchronized
  subst hsz
  have hD := hD0.self (sz := s.heap.size)
  generalize hAe : va_A (ws ++ oC k ou g) s.heap.size = A at hD hZ ⊢
  have hA : ∀ q : Nat, s.heap.size ≤ q → A q := fun q h => by rw [← hAe]; exact Or.inr h
  have hS : va_S A s.heap s.heap [] := va_S.rf
  have hl := lv_entry ([.ref x0, .int p0, .int p1, .ref ou]) (n := 5) (Nat.le_of_ble_eq_true rfl)
  rw [lg_entry_eq]
  generalize (lg_sl ([.ref x0, .int p0, .int p1, .ref ou]) ++ List.replicate (5 - (lg_sl ([.ref x0, .int p0, .int p1, .ref ou])).length) Slot.unset).toArray = ls at hl ⊢
  have hl : lv_has ls 5 [(0, .ref x0), (1, .int p0), (2, .int p1), (3, .ref ou)] := hl
  obtain ⟨H, hHe⟩ : ∃ H, H = s.heap := ⟨_, rfl⟩
  have hP : va_P D vwCl (ws ++ oC k ou g) H := by rw [hHe]; exact hP
  have hS : va_S A s.heap H [] := by rw [hHe]; exact hS
  have hZ : XZ A s H := by rw [hHe]; exact hZ
  rw [← hHe]
  refine absQ (fun Q hQ => ?_)
  refine lv_aload_n hx hb dL_isJoined_0 rfl (lv_at hl 3 rfl) ?_
  refine lv_iconst (v := 0) hx hb dL_isJoined_1 (by decide) ?_
  refine lv_aload_n hx hb dL_isJoined_2 rfl (lv_at hl 0 rfl) ?_
  refine lv_iload_n hx hb dL_isJoined_3 rfl (lv_at hl 1 rfl) ?_
  refine lv_iload_n hx hb dL_isJoined_4 rfl (lv_at hl 2 rfl) ?_
  have hPc := va_PL hP
  have hDc := va_DL hD
  have hF := fr_app hD hS hA
  refine vx_calli (vx_runV (As := [.int p0, .int p1]) (rest := [.int 0, .ref ou]) ⟨hx, hb, hml, hown, hts⟩ (hM H.size) (cwV 2 hts gL_isJoined_X4_isJoined rfl rfl rfl (by decide +kernel) ⟨hr1, by show 8 + (3 + 11) + rmc.locals ≤ 900; omega⟩) ⟨xpr_blind, va_recv hK hPc (ci := 4) (q0 := 0) rfl h0, xpr_at hX hZ hF hN hPc hK hDc⟩ rfl rfl hl.1 rfl (lv_room (Nat.le_of_ble_eq_true rfl)) dL_isJoined_5 ⟨by rw [hr3]; exact Nat.le_refl _, by rw [hr4]; exact Nat.le_refl _⟩) hS (fun q _ h => hF q h) hF (fun q _ h => hF q h) (fun E ce q9 u t H1 locs ht hvm _ hB hz hk hS hc1 hc2 hc3 => ?_) (fun r u t H1 locs ht hvm hf => hf.elim)
  obtain ⟨rfl, hP1⟩ := hB
  rw [ht] at hP1
  have hD1 : va_D (va_A ws H.size) ws' := (hDc.self (sz := H.size)).addr (ha1.trans ha2.symm)
  obtain ⟨hP, hD⟩ := jn_app hP hD hk hF hP1 hD1
  refine vx_catch (name := "java/lang/IndexOutOfBoundsException") hown [] { startPc := 0, endPc := 10, handlerPc := 13, catchType := 13 } [] htab (fun z hz => nomatch hz) (by decide) (by decide) (hts _ (List.mem_of_getElem? (i := 1) rfl)) (va_Nw.use rfl hX.1.1) hc1 hc2 hc3 ?_
  refine W.widen (k := 1) (n := 6) (by rw [hr3]; exact Nat.le_refl _) (by rw [hr4]; exact Nat.le_refl _) ?_
  refine lv_astore (lv' := [(4, .ref q9), (0, .ref x0), (1, .int p0), (2, .int p1), (3, .ref ou)]) hx hb dL_isJoined_13 hl (by decide) rfl (fun ls hl => ?_)
  refine lv_iconst (v := 1) hx hb dL_isJoined_15 (by decide) ?_
  subst hQ
  exact rt_iD hx hb hr hlocks hS dL_isJoined_16 hP hD rfl

set_option maxHeartbeats 1000000 in
set_option maxRecDepth 100000 in
theorem w_noted (l : Launch) (D : va_G) (k : Nat → ClassId) (x0 ou : Nat) (p0 p1 : Int32) (ws ws' : va_W) (fs : List Value) (g : Nat → Int64) (r : Int32) (rmc : Room) (hM : MYi l yX4_noted wsX4_noted rmc D k [.ref x0, .int p0, .int p1] ws r ws') (h0 : ws[0]? = some (x0, .inr (4, fs))) (hr1 : rmc.frames + 1 ≤ 40) (hr2 : rmc.locals ≤ 850) (hr3 : rmc.cells = 0) (hr4 : rmc.slots = 0) :
    MYi l yL_noted wsL_noted RW D k [.ref x0, .int p0, .int p1, .ref ou] (ws ++ oC k ou g) 0 (ws' ++ oC k ou (vp_updL g 0 r.toInt64)) := by
  intro sz
  refine mo_WH (cc := cL_noted) (maxL := 5) (ret := (some .int)) (by decide) rfl ?_
  intro p e s m args below meth c s₁ B hml htab hv
  obtain ⟨rfl, hX, hZ, hN, hsz, hP, hK, hD0⟩ := hv
  have hx := B.exec
  have hb := B.bytes
  have hr := B.returns
  have hts := atoms_spec (ws := wsL_noted) B.pre
  have hown : s.vm.findClass RL = some m.cls := findClass_of_methodNamed B.named
  have hlocks := B.notSynchronized
  subst hsz
  have hD := hD0.self (sz := s.heap.size)
  generalize hAe : va_A (ws ++ oC k ou g) s.heap.size = A at hD hZ ⊢
  have hA : ∀ q : Nat, s.heap.size ≤ q → A q := fun q h => by rw [← hAe]; exact Or.inr h
  have hS : va_S A s.heap s.heap [] := va_S.rf
  have hl := lv_entry ([.ref x0, .int p0, .int p1, .ref ou]) (n := 5) (Nat.le_of_ble_eq_true rfl)
  rw [lg_entry_eq]
  generalize (lg_sl ([.ref x0, .int p0, .int p1, .ref ou]) ++ List.replicate (5 - (lg_sl ([.ref x0, .int p0, .int p1, .ref ou])).length) Slot.unset).toArray = ls at hl ⊢
  have hl : lv_has ls 5 [(0, .ref x0), (1, .int p0), (2, .int p1), (3, .ref ou)] := hl
  obtain ⟨H, hHe⟩ : ∃ H, H = s.heap := ⟨_, rfl⟩
  have hP : va_P D vwCl (ws ++ oC k ou g) H := by rw [hHe]; exact hP
  have hS : va_S A s.heap H [] := by rw [hHe]; exact hS
  have hZ : XZ A s H := by rw [hHe]; exact hZ
  rw [← hHe]
  refine absQ (fun Q hQ => ?_)
  refine lv_aload_n hx hb dL_noted_0 rfl (lv_at hl 3 rfl) ?_
  refine lv_iconst (v := 0) hx hb dL_noted_1 (by decide) ?_
  refine lv_aload_n hx hb dL_noted_2 rfl (lv_at hl 0 rfl) ?_
  refine lv_iload_n hx hb dL_noted_3 rfl (lv_at hl 1 rfl) ?_
  refine lv_iload_n hx hb dL_noted_4 rfl (lv_at hl 2 rfl) ?_
  have hPc := va_PL hP
  have hDc := va_DL hD
  refine cl_iA (va_runV (As := [.int p0, .int p1]) (rest := [.int 0, .ref ou]) ⟨hx, hb, hml, hown, hts⟩ (hM H.size) (cwV 2 hts gL_noted_X4_noted rfl rfl rfl (by decide +kernel) ⟨hr1, by show 8 + (3 + 11) + rmc.locals ≤ 900; omega⟩) ⟨xpr_blind, va_recv hK hPc (ci := 4) (q0 := 0) rfl h0, xpr_at hX hZ (fr_app hD hS hA) hN hPc hK hDc⟩ rfl rfl hl.1 rfl (lv_room (Nat.le_of_ble_eq_true rfl)) dL_noted_5 ⟨by rw [hr3]; exact Nat.zero_le _, by rw [hr4]; exact Nat.zero_le _⟩) hP hD hS hA (fun H locs hP hD hS => ?_)
  clear hPc hDc
  refine W.widen (k := 1) (n := 6) (by rw [hr3]; exact Nat.zero_le _) (by rw [hr4]; exact Nat.zero_le _) ?_
  refine lv_i2l hx hb dL_noted_8 rfl ?_
  have ho : (ws' ++ oC k ou g)[ws'.length]? = some (ou, .inl (k 3, 1, .inr (.inl g))) := by rw [List.getElem?_append_right (Nat.le_refl _), Nat.sub_self]; rfl
  have hse : (ws' ++ oC k ou g).set ws'.length (ou, .inl (k 3, 1, .inr (.inl (vp_updL g 0 r.toInt64)))) = ws' ++ oC k ou (vp_updL g 0 r.toInt64) := by rw [List.set_append_right _ _ (Nat.le_refl _), Nat.sub_self]; rfl
  refine ar_lst hx hb hK hP hD hS ws'.length ho 0 rfl (show vp_in (nI 0) 1 from vp_in_nI (by decide) (by decide)) dL_noted_9 hse (fun H locs hP hD hS => ?_)
  refine lv_goto (tgt := 17) hx hb dL_noted_10 (by decide) ?_
  refine lv_iconst (v := 0) hx hb dL_noted_17 (by decide) ?_
  subst hQ
  exact rt_iD hx hb hr hlocks hS dL_noted_18 hP hD rfl

set_option maxHeartbeats 1000000 in
set_option maxRecDepth 100000 in
theorem w_noted_t1 (l : Launch) (D : va_G) (k : Nat → ClassId) (x0 ou : Nat) (p0 p1 : Int32) (ws ws' : va_W) (fs : List Value) (g : Nat → Int64) (rmc : Room) (ads : List Nat) (hM : MX l yX4_noted wsX4_noted rmc D k [.ref x0, .int p0, .int p1] ws "java/lang/IllegalArgumentException" ws') (h0 : ws[0]? = some (x0, .inr (4, fs))) (hr1 : rmc.frames + 1 ≤ 40) (hr2 : rmc.locals ≤ 850) (hr3 : rmc.cells = 1) (hr4 : rmc.slots = 6) (ha1 : ws'.map (fun q => q.1) = ads) (ha2 : ws.map (fun q => q.1) = ads) :
    MYi l yL_noted wsL_noted RW D k [.ref x0, .int p0, .int p1, .ref ou] (ws ++ oC k ou g) 1 (ws' ++ oC k ou g) := by
  intro sz
  refine mo_WH (cc := cL_noted) (maxL := 5) (ret := (some .int)) (by decide) rfl ?_
  intro p e s m args below meth c s₁ B hml htab hv
  obtain ⟨rfl, hX, hZ, hN, hsz, hP, hK, hD0⟩ := hv
  have hx := B.exec
  have hb := B.bytes
  have hr := B.returns
  have hts := atoms_spec (ws := wsL_noted) B.pre
  have hown : s.vm.findClass RL = some m.cls := findClass_of_methodNamed B.named
  have hlocks := B.notSynchronized
  subst hsz
  have hD := hD0.self (sz := s.heap.size)
  generalize hAe : va_A (ws ++ oC k ou g) s.heap.size = A at hD hZ ⊢
  have hA : ∀ q : Nat, s.heap.size ≤ q → A q := fun q h => by rw [← hAe]; exact Or.inr h
  have hS : va_S A s.heap s.heap [] := va_S.rf
  have hl := lv_entry ([.ref x0, .int p0, .int p1, .ref ou]) (n := 5) (Nat.le_of_ble_eq_true rfl)
  rw [lg_entry_eq]
  generalize (lg_sl ([.ref x0, .int p0, .int p1, .ref ou]) ++ List.replicate (5 - (lg_sl ([.ref x0, .int p0, .int p1, .ref ou])).length) Slot.unset).toArray = ls at hl ⊢
  have hl : lv_has ls 5 [(0, .ref x0), (1, .int p0), (2, .int p1), (3, .ref ou)] := hl
  obtain ⟨H, hHe⟩ : ∃ H, H = s.heap := ⟨_, rfl⟩
  have hP : va_P D vwCl (ws ++ oC k ou g) H := by rw [hHe]; exact hP
  have hS : va_S A s.heap H [] := by rw [hHe]; exact hS
  have hZ : XZ A s H := by rw [hHe]; exact hZ
  rw [← hHe]
  refine absQ (fun Q hQ => ?_)
  refine lv_aload_n hx hb dL_noted_0 rfl (lv_at hl 3 rfl) ?_
  refine lv_iconst (v := 0) hx hb dL_noted_1 (by decide) ?_
  refine lv_aload_n hx hb dL_noted_2 rfl (lv_at hl 0 rfl) ?_
  refine lv_iload_n hx hb dL_noted_3 rfl (lv_at hl 1 rfl) ?_
  refine lv_iload_n hx hb dL_noted_4 rfl (lv_at hl 2 rfl) ?_
  have hPc := va_PL hP
  have hDc := va_DL hD
  have hF := fr_app hD hS hA
  refine vx_calli (vx_runV (As := [.int p0, .int p1]) (rest := [.int 0, .ref ou]) ⟨hx, hb, hml, hown, hts⟩ (hM H.size) (cwV 2 hts gL_noted_X4_noted rfl rfl rfl (by decide +kernel) ⟨hr1, by show 8 + (3 + 11) + rmc.locals ≤ 900; omega⟩) ⟨xpr_blind, va_recv hK hPc (ci := 4) (q0 := 0) rfl h0, xpr_at hX hZ hF hN hPc hK hDc⟩ rfl rfl hl.1 rfl (lv_room (Nat.le_of_ble_eq_true rfl)) dL_noted_5 ⟨by rw [hr3]; exact Nat.le_refl _, by rw [hr4]; exact Nat.le_refl _⟩) hS (fun q _ h => hF q h) hF (fun q _ h => hF q h) (fun E ce q9 u t H1 locs ht hvm _ hB hz hk hS hc1 hc2 hc3 => ?_) (fun r u t H1 locs ht hvm hf => hf.elim)
  obtain ⟨rfl, hP1⟩ := hB
  rw [ht] at hP1
  have hD1 : va_D (va_A ws H.size) ws' := (hDc.self (sz := H.size)).addr (ha1.trans ha2.symm)
  obtain ⟨hP, hD⟩ := jn_app hP hD hk hF hP1 hD1
  refine vx_catch (name := "java/lang/IllegalArgumentException") hown [] { startPc := 0, endPc := 10, handlerPc := 13, catchType := 15 } [] htab (fun z hz => nomatch hz) (by decide) (by decide) (hts _ (List.mem_of_getElem? (i := 1) rfl)) (va_Nw.use rfl hX.1.2.1) hc1 hc2 hc3 ?_
  refine W.widen (k := 1) (n := 6) (by rw [hr3]; exact Nat.le_refl _) (by rw [hr4]; exact Nat.le_refl _) ?_
  refine lv_astore (lv' := [(4, .ref q9), (0, .ref x0), (1, .int p0), (2, .int p1), (3, .ref ou)]) hx hb dL_noted_13 hl (by decide) rfl (fun ls hl => ?_)
  refine lv_iconst (v := 1) hx hb dL_noted_15 (by decide) ?_
  subst hQ
  exact rt_iD hx hb hr hlocks hS dL_noted_16 hP hD rfl

set_option maxHeartbeats 1000000 in
set_option maxRecDepth 100000 in
theorem w_count (l : Launch) (D : va_G) (k : Nat → ClassId) (x0 ou : Nat) (p0 : Int32) (ws ws' : va_W) (fs : List Value) (g : Nat → Int64) (r : Int32) (rmc : Room) (hM : MYi l yX4_count wsX4_count rmc D k [.ref x0, .int p0] ws r ws') (h0 : ws[0]? = some (x0, .inr (4, fs))) (hr1 : rmc.frames + 1 ≤ 40) (hr2 : rmc.locals ≤ 850) (hr3 : rmc.cells = 0) (hr4 : rmc.slots = 0) :
    MYi l yL_count wsL_count RW D k [.ref x0, .int p0, .ref ou] (ws ++ oC k ou g) 0 (ws' ++ oC k ou (vp_updL g 0 r.toInt64)) := by
  intro sz
  refine mo_WH (cc := cL_count) (maxL := 4) (ret := (some .int)) (by decide) rfl ?_
  intro p e s m args below meth c s₁ B hml htab hv
  obtain ⟨rfl, hX, hZ, hN, hsz, hP, hK, hD0⟩ := hv
  have hx := B.exec
  have hb := B.bytes
  have hr := B.returns
  have hts := atoms_spec (ws := wsL_count) B.pre
  have hown : s.vm.findClass RL = some m.cls := findClass_of_methodNamed B.named
  have hlocks := B.notSynchronized
  subst hsz
  have hD := hD0.self (sz := s.heap.size)
  generalize hAe : va_A (ws ++ oC k ou g) s.heap.size = A at hD hZ ⊢
  have hA : ∀ q : Nat, s.heap.size ≤ q → A q := fun q h => by rw [← hAe]; exact Or.inr h
  have hS : va_S A s.heap s.heap [] := va_S.rf
  have hl := lv_entry ([.ref x0, .int p0, .ref ou]) (n := 4) (Nat.le_of_ble_eq_true rfl)
  rw [lg_entry_eq]
  generalize (lg_sl ([.ref x0, .int p0, .ref ou]) ++ List.replicate (4 - (lg_sl ([.ref x0, .int p0, .ref ou])).length) Slot.unset).toArray = ls at hl ⊢
  have hl : lv_has ls 4 [(0, .ref x0), (1, .int p0), (2, .ref ou)] := hl
  obtain ⟨H, hHe⟩ : ∃ H, H = s.heap := ⟨_, rfl⟩
  have hP : va_P D vwCl (ws ++ oC k ou g) H := by rw [hHe]; exact hP
  have hS : va_S A s.heap H [] := by rw [hHe]; exact hS
  have hZ : XZ A s H := by rw [hHe]; exact hZ
  rw [← hHe]
  refine absQ (fun Q hQ => ?_)
  refine lv_aload_n hx hb dL_count_0 rfl (lv_at hl 2 rfl) ?_
  refine lv_iconst (v := 0) hx hb dL_count_1 (by decide) ?_
  refine lv_aload_n hx hb dL_count_2 rfl (lv_at hl 0 rfl) ?_
  refine lv_iload_n hx hb dL_count_3 rfl (lv_at hl 1 rfl) ?_
  have hPc := va_PL hP
  have hDc := va_DL hD
  refine cl_iA (va_runV (As := [.int p0]) (rest := [.int 0, .ref ou]) ⟨hx, hb, hml, hown, hts⟩ (hM H.size) (cwV 1 hts gL_count_X4_count rfl rfl rfl (by decide +kernel) ⟨hr1, by show 8 + (2 + 11) + rmc.locals ≤ 900; omega⟩) ⟨xpr_blind, va_recv hK hPc (ci := 4) (q0 := 0) rfl h0, xpr_at hX hZ (fr_app hD hS hA) hN hPc hK hDc⟩ rfl rfl hl.1 rfl (lv_room (Nat.le_of_ble_eq_true rfl)) dL_count_4 ⟨by rw [hr3]; exact Nat.zero_le _, by rw [hr4]; exact Nat.zero_le _⟩) hP hD hS hA (fun H locs hP hD hS => ?_)
  clear hPc hDc
  refine W.widen (k := 1) (n := 6) (by rw [hr3]; exact Nat.zero_le _) (by rw [hr4]; exact Nat.zero_le _) ?_
  refine lv_i2l hx hb dL_count_7 rfl ?_
  have ho : (ws' ++ oC k ou g)[ws'.length]? = some (ou, .inl (k 3, 1, .inr (.inl g))) := by rw [List.getElem?_append_right (Nat.le_refl _), Nat.sub_self]; rfl
  have hse : (ws' ++ oC k ou g).set ws'.length (ou, .inl (k 3, 1, .inr (.inl (vp_updL g 0 r.toInt64)))) = ws' ++ oC k ou (vp_updL g 0 r.toInt64) := by rw [List.set_append_right _ _ (Nat.le_refl _), Nat.sub_self]; rfl
  refine ar_lst hx hb hK hP hD hS ws'.length ho 0 rfl (show vp_in (nI 0) 1 from vp_in_nI (by decide) (by decide)) dL_count_8 hse (fun H locs hP hD hS => ?_)
  refine lv_goto (tgt := 15) hx hb dL_count_9 (by decide) ?_
  refine lv_iconst (v := 0) hx hb dL_count_15 (by decide) ?_
  subst hQ
  exact rt_iD hx hb hr hlocks hS dL_count_16 hP hD rfl

set_option maxHeartbeats 1000000 in
set_option maxRecDepth 100000 in
theorem w_count_t1 (l : Launch) (D : va_G) (k : Nat → ClassId) (x0 ou : Nat) (p0 : Int32) (ws ws' : va_W) (fs : List Value) (g : Nat → Int64) (rmc : Room) (ads : List Nat) (hM : MX l yX4_count wsX4_count rmc D k [.ref x0, .int p0] ws "java/lang/IllegalArgumentException" ws') (h0 : ws[0]? = some (x0, .inr (4, fs))) (hr1 : rmc.frames + 1 ≤ 40) (hr2 : rmc.locals ≤ 850) (hr3 : rmc.cells = 1) (hr4 : rmc.slots = 6) (ha1 : ws'.map (fun q => q.1) = ads) (ha2 : ws.map (fun q => q.1) = ads) :
    MYi l yL_count wsL_count RW D k [.ref x0, .int p0, .ref ou] (ws ++ oC k ou g) 1 (ws' ++ oC k ou g) := by
  intro sz
  refine mo_WH (cc := cL_count) (maxL := 4) (ret := (some .int)) (by decide) rfl ?_
  intro p e s m args below meth c s₁ B hml htab hv
  obtain ⟨rfl, hX, hZ, hN, hsz, hP, hK, hD0⟩ := hv
  have hx := B.exec
  have hb := B.bytes
  have hr := B.returns
  have hts := atoms_spec (ws := wsL_count) B.pre
  have hown : s.vm.findClass RL = some m.cls := findClass_of_methodNamed B.named
  have hlocks := B.notSynchronized
  subst hsz
  have hD := hD0.self (sz := s.heap.size)
  generalize hAe : va_A (ws ++ oC k ou g) s.heap.size = A at hD hZ ⊢
  have hA : ∀ q : Nat, s.heap.size ≤ q → A q := fun q h => by rw [← hAe]; exact Or.inr h
  have hS : va_S A s.heap s.heap [] := va_S.rf
  have hl := lv_entry ([.ref x0, .int p0, .ref ou]) (n := 4) (Nat.le_of_ble_eq_true rfl)
  rw [lg_entry_eq]
  generalize (lg_sl ([.ref x0, .int p0, .ref ou]) ++ List.replicate (4 - (lg_sl ([.ref x0, .int p0, .ref ou])).length) Slot.unset).toArray = ls at hl ⊢
  have hl : lv_has ls 4 [(0, .ref x0), (1, .int p0), (2, .ref ou)] := hl
  obtain ⟨H, hHe⟩ : ∃ H, H = s.heap := ⟨_, rfl⟩
  have hP : va_P D vwCl (ws ++ oC k ou g) H := by rw [hHe]; exact hP
  have hS : va_S A s.heap H [] := by rw [hHe]; exact hS
  have hZ : XZ A s H := by rw [hHe]; exact hZ
  rw [← hHe]
  refine absQ (fun Q hQ => ?_)
  refine lv_aload_n hx hb dL_count_0 rfl (lv_at hl 2 rfl) ?_
  refine lv_iconst (v := 0) hx hb dL_count_1 (by decide) ?_
  refine lv_aload_n hx hb dL_count_2 rfl (lv_at hl 0 rfl) ?_
  refine lv_iload_n hx hb dL_count_3 rfl (lv_at hl 1 rfl) ?_
  have hPc := va_PL hP
  have hDc := va_DL hD
  have hF := fr_app hD hS hA
  refine vx_calli (vx_runV (As := [.int p0]) (rest := [.int 0, .ref ou]) ⟨hx, hb, hml, hown, hts⟩ (hM H.size) (cwV 1 hts gL_count_X4_count rfl rfl rfl (by decide +kernel) ⟨hr1, by show 8 + (2 + 11) + rmc.locals ≤ 900; omega⟩) ⟨xpr_blind, va_recv hK hPc (ci := 4) (q0 := 0) rfl h0, xpr_at hX hZ hF hN hPc hK hDc⟩ rfl rfl hl.1 rfl (lv_room (Nat.le_of_ble_eq_true rfl)) dL_count_4 ⟨by rw [hr3]; exact Nat.le_refl _, by rw [hr4]; exact Nat.le_refl _⟩) hS (fun q _ h => hF q h) hF (fun q _ h => hF q h) (fun E ce q9 u t H1 locs ht hvm _ hB hz hk hS hc1 hc2 hc3 => ?_) (fun r u t H1 locs ht hvm hf => hf.elim)
  obtain ⟨rfl, hP1⟩ := hB
  rw [ht] at hP1
  have hD1 : va_D (va_A ws H.size) ws' := (hDc.self (sz := H.size)).addr (ha1.trans ha2.symm)
  obtain ⟨hP, hD⟩ := jn_app hP hD hk hF hP1 hD1
  refine vx_catch (name := "java/lang/IllegalArgumentException") hown [] { startPc := 0, endPc := 9, handlerPc := 12, catchType := 15 } [] htab (fun z hz => nomatch hz) (by decide) (by decide) (hts _ (List.mem_of_getElem? (i := 1) rfl)) (va_Nw.use rfl hX.1.2.1) hc1 hc2 hc3 ?_
  refine W.widen (k := 1) (n := 6) (by rw [hr3]; exact Nat.le_refl _) (by rw [hr4]; exact Nat.le_refl _) ?_
  refine lv_astore_n (lv' := [(3, .ref q9), (0, .ref x0), (1, .int p0), (2, .ref ou)]) hx hb dL_count_12 rfl hl (by decide) rfl (fun ls hl => ?_)
  refine lv_iconst (v := 1) hx hb dL_count_13 (by decide) ?_
  subst hQ
  exact rt_iD hx hb hr hlocks hS dL_count_14 hP hD rfl

set_option maxHeartbeats 1000000 in
set_option maxRecDepth 100000 in
theorem w_heaviest (l : Launch) (D : va_G) (k : Nat → ClassId) (x0 ou : Nat) (p0 : Int32) (ws ws' : va_W) (fs : List Value) (g : Nat → Int64) (r : Int32) (rmc : Room) (hM : MYi l yX4_heaviest wsX4_heaviest rmc D k [.ref x0, .int p0] ws r ws') (h0 : ws[0]? = some (x0, .inr (4, fs))) (hr1 : rmc.frames + 1 ≤ 40) (hr2 : rmc.locals ≤ 850) (hr3 : rmc.cells = 0) (hr4 : rmc.slots = 0) :
    MYi l yL_heaviest wsL_heaviest RW D k [.ref x0, .int p0, .ref ou] (ws ++ oC k ou g) 0 (ws' ++ oC k ou (vp_updL g 0 r.toInt64)) := by
  intro sz
  refine mo_WH (cc := cL_heaviest) (maxL := 4) (ret := (some .int)) (by decide) rfl ?_
  intro p e s m args below meth c s₁ B hml htab hv
  obtain ⟨rfl, hX, hZ, hN, hsz, hP, hK, hD0⟩ := hv
  have hx := B.exec
  have hb := B.bytes
  have hr := B.returns
  have hts := atoms_spec (ws := wsL_heaviest) B.pre
  have hown : s.vm.findClass RL = some m.cls := findClass_of_methodNamed B.named
  have hlocks := B.notSynchronized
  subst hsz
  have hD := hD0.self (sz := s.heap.size)
  generalize hAe : va_A (ws ++ oC k ou g) s.heap.size = A at hD hZ ⊢
  have hA : ∀ q : Nat, s.heap.size ≤ q → A q := fun q h => by rw [← hAe]; exact Or.inr h
  have hS : va_S A s.heap s.heap [] := va_S.rf
  have hl := lv_entry ([.ref x0, .int p0, .ref ou]) (n := 4) (Nat.le_of_ble_eq_true rfl)
  rw [lg_entry_eq]
  generalize (lg_sl ([.ref x0, .int p0, .ref ou]) ++ List.replicate (4 - (lg_sl ([.ref x0, .int p0, .ref ou])).length) Slot.unset).toArray = ls at hl ⊢
  have hl : lv_has ls 4 [(0, .ref x0), (1, .int p0), (2, .ref ou)] := hl
  obtain ⟨H, hHe⟩ : ∃ H, H = s.heap := ⟨_, rfl⟩
  have hP : va_P D vwCl (ws ++ oC k ou g) H := by rw [hHe]; exact hP
  have hS : va_S A s.heap H [] := by rw [hHe]; exact hS
  have hZ : XZ A s H := by rw [hHe]; exact hZ
  rw [← hHe]
  refine absQ (fun Q hQ => ?_)
  refine lv_aload_n hx hb dL_heaviest_0 rfl (lv_at hl 2 rfl) ?_
  refine lv_iconst (v := 0) hx hb dL_heaviest_1 (by decide) ?_
  refine lv_aload_n hx hb dL_heaviest_2 rfl (lv_at hl 0 rfl) ?_
  refine lv_iload_n hx hb dL_heaviest_3 rfl (lv_at hl 1 rfl) ?_
  have hPc := va_PL hP
  have hDc := va_DL hD
  refine cl_iA (va_runV (As := [.int p0]) (rest := [.int 0, .ref ou]) ⟨hx, hb, hml, hown, hts⟩ (hM H.size) (cwV 1 hts gL_heaviest_X4_heaviest rfl rfl rfl (by decide +kernel) ⟨hr1, by show 8 + (3 + 11) + rmc.locals ≤ 900; omega⟩) ⟨xpr_blind, va_recv hK hPc (ci := 4) (q0 := 0) rfl h0, xpr_at hX hZ (fr_app hD hS hA) hN hPc hK hDc⟩ rfl rfl hl.1 rfl (lv_room (Nat.le_of_ble_eq_true rfl)) dL_heaviest_4 ⟨by rw [hr3]; exact Nat.zero_le _, by rw [hr4]; exact Nat.zero_le _⟩) hP hD hS hA (fun H locs hP hD hS => ?_)
  clear hPc hDc
  refine W.widen (k := 1) (n := 6) (by rw [hr3]; exact Nat.zero_le _) (by rw [hr4]; exact Nat.zero_le _) ?_
  refine lv_i2l hx hb dL_heaviest_7 rfl ?_
  have ho : (ws' ++ oC k ou g)[ws'.length]? = some (ou, .inl (k 3, 1, .inr (.inl g))) := by rw [List.getElem?_append_right (Nat.le_refl _), Nat.sub_self]; rfl
  have hse : (ws' ++ oC k ou g).set ws'.length (ou, .inl (k 3, 1, .inr (.inl (vp_updL g 0 r.toInt64)))) = ws' ++ oC k ou (vp_updL g 0 r.toInt64) := by rw [List.set_append_right _ _ (Nat.le_refl _), Nat.sub_self]; rfl
  refine ar_lst hx hb hK hP hD hS ws'.length ho 0 rfl (show vp_in (nI 0) 1 from vp_in_nI (by decide) (by decide)) dL_heaviest_8 hse (fun H locs hP hD hS => ?_)
  refine lv_goto (tgt := 15) hx hb dL_heaviest_9 (by decide) ?_
  refine lv_iconst (v := 0) hx hb dL_heaviest_15 (by decide) ?_
  subst hQ
  exact rt_iD hx hb hr hlocks hS dL_heaviest_16 hP hD rfl

set_option maxHeartbeats 1000000 in
set_option maxRecDepth 100000 in
theorem w_heaviest_t1 (l : Launch) (D : va_G) (k : Nat → ClassId) (x0 ou : Nat) (p0 : Int32) (ws ws' : va_W) (fs : List Value) (g : Nat → Int64) (rmc : Room) (ads : List Nat) (hM : MX l yX4_heaviest wsX4_heaviest rmc D k [.ref x0, .int p0] ws "java/lang/IllegalArgumentException" ws') (h0 : ws[0]? = some (x0, .inr (4, fs))) (hr1 : rmc.frames + 1 ≤ 40) (hr2 : rmc.locals ≤ 850) (hr3 : rmc.cells = 1) (hr4 : rmc.slots = 6) (ha1 : ws'.map (fun q => q.1) = ads) (ha2 : ws.map (fun q => q.1) = ads) :
    MYi l yL_heaviest wsL_heaviest RW D k [.ref x0, .int p0, .ref ou] (ws ++ oC k ou g) 1 (ws' ++ oC k ou g) := by
  intro sz
  refine mo_WH (cc := cL_heaviest) (maxL := 4) (ret := (some .int)) (by decide) rfl ?_
  intro p e s m args below meth c s₁ B hml htab hv
  obtain ⟨rfl, hX, hZ, hN, hsz, hP, hK, hD0⟩ := hv
  have hx := B.exec
  have hb := B.bytes
  have hr := B.returns
  have hts := atoms_spec (ws := wsL_heaviest) B.pre
  have hown : s.vm.findClass RL = some m.cls := findClass_of_methodNamed B.named
  have hlocks := B.notSynchronized
  subst hsz
  have hD := hD0.self (sz := s.heap.size)
  generalize hAe : va_A (ws ++ oC k ou g) s.heap.size = A at hD hZ ⊢
  have hA : ∀ q : Nat, s.heap.size ≤ q → A q := fun q h => by rw [← hAe]; exact Or.inr h
  have hS : va_S A s.heap s.heap [] := va_S.rf
  have hl := lv_entry ([.ref x0, .int p0, .ref ou]) (n := 4) (Nat.le_of_ble_eq_true rfl)
  rw [lg_entry_eq]
  generalize (lg_sl ([.ref x0, .int p0, .ref ou]) ++ List.replicate (4 - (lg_sl ([.ref x0, .int p0, .ref ou])).length) Slot.unset).toArray = ls at hl ⊢
  have hl : lv_has ls 4 [(0, .ref x0), (1, .int p0), (2, .ref ou)] := hl
  obtain ⟨H, hHe⟩ : ∃ H, H = s.heap := ⟨_, rfl⟩
  have hP : va_P D vwCl (ws ++ oC k ou g) H := by rw [hHe]; exact hP
  have hS : va_S A s.heap H [] := by rw [hHe]; exact hS
  have hZ : XZ A s H := by rw [hHe]; exact hZ
  rw [← hHe]
  refine absQ (fun Q hQ => ?_)
  refine lv_aload_n hx hb dL_heaviest_0 rfl (lv_at hl 2 rfl) ?_
  refine lv_iconst (v := 0) hx hb dL_heaviest_1 (by decide) ?_
  refine lv_aload_n hx hb dL_heaviest_2 rfl (lv_at hl 0 rfl) ?_
  refine lv_iload_n hx hb dL_heaviest_3 rfl (lv_at hl 1 rfl) ?_
  have hPc := va_PL hP
  have hDc := va_DL hD
  have hF := fr_app hD hS hA
  refine vx_calli (vx_runV (As := [.int p0]) (rest := [.int 0, .ref ou]) ⟨hx, hb, hml, hown, hts⟩ (hM H.size) (cwV 1 hts gL_heaviest_X4_heaviest rfl rfl rfl (by decide +kernel) ⟨hr1, by show 8 + (3 + 11) + rmc.locals ≤ 900; omega⟩) ⟨xpr_blind, va_recv hK hPc (ci := 4) (q0 := 0) rfl h0, xpr_at hX hZ hF hN hPc hK hDc⟩ rfl rfl hl.1 rfl (lv_room (Nat.le_of_ble_eq_true rfl)) dL_heaviest_4 ⟨by rw [hr3]; exact Nat.le_refl _, by rw [hr4]; exact Nat.le_refl _⟩) hS (fun q _ h => hF q h) hF (fun q _ h => hF q h) (fun E ce q9 u t H1 locs ht hvm _ hB hz hk hS hc1 hc2 hc3 => ?_) (fun r u t H1 locs ht hvm hf => hf.elim)
  obtain ⟨rfl, hP1⟩ := hB
  rw [ht] at hP1
  have hD1 : va_D (va_A ws H.size) ws' := (hDc.self (sz := H.size)).addr (ha1.trans ha2.symm)
  obtain ⟨hP, hD⟩ := jn_app hP hD hk hF hP1 hD1
  refine vx_catch (name := "java/lang/IllegalArgumentException") hown [] { startPc := 0, endPc := 9, handlerPc := 12, catchType := 15 } [] htab (fun z hz => nomatch hz) (by decide) (by decide) (hts _ (List.mem_of_getElem? (i := 1) rfl)) (va_Nw.use rfl hX.1.2.1) hc1 hc2 hc3 ?_
  refine W.widen (k := 1) (n := 6) (by rw [hr3]; exact Nat.le_refl _) (by rw [hr4]; exact Nat.le_refl _) ?_
  refine lv_astore_n (lv' := [(3, .ref q9), (0, .ref x0), (1, .int p0), (2, .ref ou)]) hx hb dL_heaviest_12 rfl hl (by decide) rfl (fun ls hl => ?_)
  refine lv_iconst (v := 1) hx hb dL_heaviest_13 (by decide) ?_
  subst hQ
  exact rt_iD hx hb hr hlocks hS dL_heaviest_14 hP hD rfl

set_option maxHeartbeats 1000000 in
set_option maxRecDepth 100000 in
theorem w_openWay (l : Launch) (D : va_G) (k : Nat → ClassId) (x0 ou : Nat) (p0 : Int32) (ws ws' : va_W) (fs : List Value) (g : Nat → Int64) (r : Int32) (rmc : Room) (hM : MYi l yX4_openWay wsX4_openWay rmc D k [.ref x0, .int p0] ws r ws') (h0 : ws[0]? = some (x0, .inr (4, fs))) (hr1 : rmc.frames + 1 ≤ 40) (hr2 : rmc.locals ≤ 850) (hr3 : rmc.cells = 0) (hr4 : rmc.slots = 0) :
    MYi l yL_openWay wsL_openWay RW D k [.ref x0, .int p0, .ref ou] (ws ++ oC k ou g) 0 (ws' ++ oC k ou (vp_updL g 0 r.toInt64)) := by
  intro sz
  refine mo_WH (cc := cL_openWay) (maxL := 4) (ret := (some .int)) (by decide) rfl ?_
  intro p e s m args below meth c s₁ B hml htab hv
  obtain ⟨rfl, hX, hZ, hN, hsz, hP, hK, hD0⟩ := hv
  have hx := B.exec
  have hb := B.bytes
  have hr := B.returns
  have hts := atoms_spec (ws := wsL_openWay) B.pre
  have hown : s.vm.findClass RL = some m.cls := findClass_of_methodNamed B.named
  have hlocks := B.notSynchronized
  subst hsz
  have hD := hD0.self (sz := s.heap.size)
  generalize hAe : va_A (ws ++ oC k ou g) s.heap.size = A at hD hZ ⊢
  have hA : ∀ q : Nat, s.heap.size ≤ q → A q := fun q h => by rw [← hAe]; exact Or.inr h
  have hS : va_S A s.heap s.heap [] := va_S.rf
  have hl := lv_entry ([.ref x0, .int p0, .ref ou]) (n := 4) (Nat.le_of_ble_eq_true rfl)
  rw [lg_entry_eq]
  generalize (lg_sl ([.ref x0, .int p0, .ref ou]) ++ List.replicate (4 - (lg_sl ([.ref x0, .int p0, .ref ou])).length) Slot.unset).toArray = ls at hl ⊢
  have hl : lv_has ls 4 [(0, .ref x0), (1, .int p0), (2, .ref ou)] := hl
  obtain ⟨H, hHe⟩ : ∃ H, H = s.heap := ⟨_, rfl⟩
  have hP : va_P D vwCl (ws ++ oC k ou g) H := by rw [hHe]; exact hP
  have hS : va_S A s.heap H [] := by rw [hHe]; exact hS
  have hZ : XZ A s H := by rw [hHe]; exact hZ
  rw [← hHe]
  refine absQ (fun Q hQ => ?_)
  refine lv_aload_n hx hb dL_openWay_0 rfl (lv_at hl 2 rfl) ?_
  refine lv_iconst (v := 0) hx hb dL_openWay_1 (by decide) ?_
  refine lv_aload_n hx hb dL_openWay_2 rfl (lv_at hl 0 rfl) ?_
  refine lv_iload_n hx hb dL_openWay_3 rfl (lv_at hl 1 rfl) ?_
  have hPc := va_PL hP
  have hDc := va_DL hD
  refine cl_iA (va_runV (As := [.int p0]) (rest := [.int 0, .ref ou]) ⟨hx, hb, hml, hown, hts⟩ (hM H.size) (cwV 1 hts gL_openWay_X4_openWay rfl rfl rfl (by decide +kernel) ⟨hr1, by show 8 + (2 + 11) + rmc.locals ≤ 900; omega⟩) ⟨xpr_blind, va_recv hK hPc (ci := 4) (q0 := 0) rfl h0, xpr_at hX hZ (fr_app hD hS hA) hN hPc hK hDc⟩ rfl rfl hl.1 rfl (lv_room (Nat.le_of_ble_eq_true rfl)) dL_openWay_4 ⟨by rw [hr3]; exact Nat.zero_le _, by rw [hr4]; exact Nat.zero_le _⟩) hP hD hS hA (fun H locs hP hD hS => ?_)
  clear hPc hDc
  refine W.widen (k := 1) (n := 6) (by rw [hr3]; exact Nat.zero_le _) (by rw [hr4]; exact Nat.zero_le _) ?_
  refine lv_i2l hx hb dL_openWay_7 rfl ?_
  have ho : (ws' ++ oC k ou g)[ws'.length]? = some (ou, .inl (k 3, 1, .inr (.inl g))) := by rw [List.getElem?_append_right (Nat.le_refl _), Nat.sub_self]; rfl
  have hse : (ws' ++ oC k ou g).set ws'.length (ou, .inl (k 3, 1, .inr (.inl (vp_updL g 0 r.toInt64)))) = ws' ++ oC k ou (vp_updL g 0 r.toInt64) := by rw [List.set_append_right _ _ (Nat.le_refl _), Nat.sub_self]; rfl
  refine ar_lst hx hb hK hP hD hS ws'.length ho 0 rfl (show vp_in (nI 0) 1 from vp_in_nI (by decide) (by decide)) dL_openWay_8 hse (fun H locs hP hD hS => ?_)
  refine lv_goto (tgt := 15) hx hb dL_openWay_9 (by decide) ?_
  refine lv_iconst (v := 0) hx hb dL_openWay_15 (by decide) ?_
  subst hQ
  exact rt_iD hx hb hr hlocks hS dL_openWay_16 hP hD rfl

set_option maxHeartbeats 1000000 in
set_option maxRecDepth 100000 in
theorem w_openWay_t1 (l : Launch) (D : va_G) (k : Nat → ClassId) (x0 ou : Nat) (p0 : Int32) (ws ws' : va_W) (fs : List Value) (g : Nat → Int64) (rmc : Room) (ads : List Nat) (hM : MX l yX4_openWay wsX4_openWay rmc D k [.ref x0, .int p0] ws "java/lang/IllegalArgumentException" ws') (h0 : ws[0]? = some (x0, .inr (4, fs))) (hr1 : rmc.frames + 1 ≤ 40) (hr2 : rmc.locals ≤ 850) (hr3 : rmc.cells = 1) (hr4 : rmc.slots = 6) (ha1 : ws'.map (fun q => q.1) = ads) (ha2 : ws.map (fun q => q.1) = ads) :
    MYi l yL_openWay wsL_openWay RW D k [.ref x0, .int p0, .ref ou] (ws ++ oC k ou g) 1 (ws' ++ oC k ou g) := by
  intro sz
  refine mo_WH (cc := cL_openWay) (maxL := 4) (ret := (some .int)) (by decide) rfl ?_
  intro p e s m args below meth c s₁ B hml htab hv
  obtain ⟨rfl, hX, hZ, hN, hsz, hP, hK, hD0⟩ := hv
  have hx := B.exec
  have hb := B.bytes
  have hr := B.returns
  have hts := atoms_spec (ws := wsL_openWay) B.pre
  have hown : s.vm.findClass RL = some m.cls := findClass_of_methodNamed B.named
  have hlocks := B.notSynchronized
  subst hsz
  have hD := hD0.self (sz := s.heap.size)
  generalize hAe : va_A (ws ++ oC k ou g) s.heap.size = A at hD hZ ⊢
  have hA : ∀ q : Nat, s.heap.size ≤ q → A q := fun q h => by rw [← hAe]; exact Or.inr h
  have hS : va_S A s.heap s.heap [] := va_S.rf
  have hl := lv_entry ([.ref x0, .int p0, .ref ou]) (n := 4) (Nat.le_of_ble_eq_true rfl)
  rw [lg_entry_eq]
  generalize (lg_sl ([.ref x0, .int p0, .ref ou]) ++ List.replicate (4 - (lg_sl ([.ref x0, .int p0, .ref ou])).length) Slot.unset).toArray = ls at hl ⊢
  have hl : lv_has ls 4 [(0, .ref x0), (1, .int p0), (2, .ref ou)] := hl
  obtain ⟨H, hHe⟩ : ∃ H, H = s.heap := ⟨_, rfl⟩
  have hP : va_P D vwCl (ws ++ oC k ou g) H := by rw [hHe]; exact hP
  have hS : va_S A s.heap H [] := by rw [hHe]; exact hS
  have hZ : XZ A s H := by rw [hHe]; exact hZ
  rw [← hHe]
  refine absQ (fun Q hQ => ?_)
  refine lv_aload_n hx hb dL_openWay_0 rfl (lv_at hl 2 rfl) ?_
  refine lv_iconst (v := 0) hx hb dL_openWay_1 (by decide) ?_
  refine lv_aload_n hx hb dL_openWay_2 rfl (lv_at hl 0 rfl) ?_
  refine lv_iload_n hx hb dL_openWay_3 rfl (lv_at hl 1 rfl) ?_
  have hPc := va_PL hP
  have hDc := va_DL hD
  have hF := fr_app hD hS hA
  refine vx_calli (vx_runV (As := [.int p0]) (rest := [.int 0, .ref ou]) ⟨hx, hb, hml, hown, hts⟩ (hM H.size) (cwV 1 hts gL_openWay_X4_openWay rfl rfl rfl (by decide +kernel) ⟨hr1, by show 8 + (2 + 11) + rmc.locals ≤ 900; omega⟩) ⟨xpr_blind, va_recv hK hPc (ci := 4) (q0 := 0) rfl h0, xpr_at hX hZ hF hN hPc hK hDc⟩ rfl rfl hl.1 rfl (lv_room (Nat.le_of_ble_eq_true rfl)) dL_openWay_4 ⟨by rw [hr3]; exact Nat.le_refl _, by rw [hr4]; exact Nat.le_refl _⟩) hS (fun q _ h => hF q h) hF (fun q _ h => hF q h) (fun E ce q9 u t H1 locs ht hvm _ hB hz hk hS hc1 hc2 hc3 => ?_) (fun r u t H1 locs ht hvm hf => hf.elim)
  obtain ⟨rfl, hP1⟩ := hB
  rw [ht] at hP1
  have hD1 : va_D (va_A ws H.size) ws' := (hDc.self (sz := H.size)).addr (ha1.trans ha2.symm)
  obtain ⟨hP, hD⟩ := jn_app hP hD hk hF hP1 hD1
  refine vx_catch (name := "java/lang/IllegalArgumentException") hown [] { startPc := 0, endPc := 9, handlerPc := 12, catchType := 15 } [] htab (fun z hz => nomatch hz) (by decide) (by decide) (hts _ (List.mem_of_getElem? (i := 1) rfl)) (va_Nw.use rfl hX.1.2.1) hc1 hc2 hc3 ?_
  refine W.widen (k := 1) (n := 6) (by rw [hr3]; exact Nat.le_refl _) (by rw [hr4]; exact Nat.le_refl _) ?_
  refine lv_astore_n (lv' := [(3, .ref q9), (0, .ref x0), (1, .int p0), (2, .ref ou)]) hx hb dL_openWay_12 rfl hl (by decide) rfl (fun ls hl => ?_)
  refine lv_iconst (v := 1) hx hb dL_openWay_13 (by decide) ?_
  subst hQ
  exact rt_iD hx hb hr hlocks hS dL_openWay_14 hP hD rfl
