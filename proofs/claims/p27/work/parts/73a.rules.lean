/-! P27 6: rows of calls in the law's methods -/
theorem va_Psw {D : va_G} {cl : List vw_C} {a b : va_W} {H : Heap} (h : va_P D cl (a ++ b) H) : va_P D cl (b ++ a) H := (va_PR h).app (va_PL h)
theorem va_Dsw {A : Nat → Prop} {a b : va_W} (h : va_D A (a ++ b)) : va_D A (b ++ a) := va_D.app (va_DR h) (va_DL h) (fun i j x y hx hy hxy => va_DX h j i y x hy hx hxy.symm)
/-- a method of the law that takes the object on: its answer and the object behind it -/
def MO (l : Launch) (y : MethodName) (wy : List Cond) (rm : Room) (D : va_G) (k : Nat → ClassId) (av : List Value) (X : va_W) (P : Int32 → va_W → Prop) : Prop :=
  ∀ sz : Nat, Met l y wy rm (va_Pc av (Pr D k sz X)) (va_Qi P (fun (X' : va_W) (t : State) => va_P D vwCl X' t.heap ∧ va_D (va_A X sz) X') (va_A X sz)) rm.cells rm.slots (va_A X sz)
section LO
variable {p : Program} {l : Launch} {e : Env} {R : Room} {s : State} {m : MethodId} {args : Array Value} {below : List Frame} {meth : Method} {c : Code} {H : Heap} {locs : List Loc} {cells slots : Nat} {Q : State → Prop}
variable {pc : Nat} {ls : Array Slot} {A0 : Nat → Prop} {D : va_G} {k : Nat → ClassId}
theorem lo_I {cc : ByteArray} {mL idx maxL n x0 : Nat} {wsM ws ws' : List Cond} {y : MethodName} {bytes : ByteArray} {As st0 rest : List Value} {X X' wr : va_W} {r : Int32}
    (hx : p.tables.exec = Jvm.exec) (hb : c.code = cc) (hml : c.maxLocals = mL) (hown : s.vm.findClass RL = some m.cls) (hts : ∀ w ∈ wsM, w.before args s = true) (hK : va_K D vwCl (TY k) s) (hN : NL s)
    (hM : OkI l D k y ws (.ref x0 :: As) X r X') (h0 : ∃ fs, X[0]? = some (x0, .inr (4, fs)))
    (hG : GoodIn wsM (wsV RL idx RX4 y ws)) (hw : ws = Cond.code y bytes maxL (some .int) :: ws') (hd : y.cls = RX4 ∧ y.cls ≠ "java/lang/invoke/MethodHandle" ∧ y.cls ≠ "java/lang/invoke/VarHandle" ∧ (parseMethodDescriptor y.desc).map (fun d => d.parameters.length) = some n) (hmax : maxL ≤ 20) (hdg : decode cc pc = .ok (.invokevirtual idx, 3)) (hn : As.length = n) (hst : st0 = As.reverse ++ .ref x0 :: rest) (hcat : (rest.map fun v => v.category).sum ≤ 8) (hls : ls.size = mL)
    (hR1 : 31 ≤ R.frames) (hR2 : 839 ≤ R.locals) (hc1 : cells ≤ R.cells) (hc2 : slots ≤ R.slots) (hP : va_P D vwCl (wr ++ X) H) (hD : va_D A0 (wr ++ X)) (hS : va_S A0 s.heap H locs) (hA : ∀ q, s.heap.size ≤ q → A0 q)
    (kk : ∀ (H1 : Heap) (locs1 : List Loc), va_P D vwCl (wr ++ X') H1 → va_D A0 (wr ++ X') → va_S A0 s.heap H1 locs1 → W p l e R s m args below meth c H1 locs1 cells slots Q (F0 m (pc + 3) ls (.int r :: rest))) :
    W p l e R s m args below meth c H locs cells slots Q (F0 m pc ls st0) := by
  obtain ⟨rm, ⟨r1, r2, r3, r4⟩, hM⟩ := hM
  obtain ⟨fs, h0⟩ := h0
  have hPc := va_PR hP
  have hDc := va_DR hD
  have hC : vwCl[4]? = some (RX4, TX4, 9) := rfl
  refine cl_iA (va_runV (As := As) (rest := rest) ⟨hx, hb, hml, hown, hts⟩ (hM H.size) (cwV n hts hG hw rfl rfl hd ⟨by show rm.frames + 1 ≤ R.frames; omega, by show 8 + (maxL + 11) + rm.locals ≤ R.locals; omega⟩) ⟨pr_blind, va_recv hK hPc (ci := 4) (q0 := 0) hC h0, pr_at hN hPc hK hDc⟩ rfl hn hls hst (lv_room hcat) hdg ⟨by rw [r3]; exact hc1, by rw [r4]; exact hc2⟩) (va_Psw hP) (va_Dsw hD) hS hA (fun H1 locs1 h1 h2 h3 => ?_)
  rw [r3, r4]
  exact kk H1 locs1 (va_Psw h1) (va_Dsw h2) h3
theorem lo_D {cc : ByteArray} {mL idx maxL n x0 : Nat} {wsM ws ws' : List Cond} {y : MethodName} {bytes : ByteArray} {As st0 rest : List Value} {X X' wr : va_W} {r : UInt64}
    (hx : p.tables.exec = Jvm.exec) (hb : c.code = cc) (hml : c.maxLocals = mL) (hown : s.vm.findClass RL = some m.cls) (hts : ∀ w ∈ wsM, w.before args s = true) (hK : va_K D vwCl (TY k) s) (hN : NL s)
    (hM : OkD l D k y ws (.ref x0 :: As) X r X') (h0 : ∃ fs, X[0]? = some (x0, .inr (4, fs)))
    (hG : GoodIn wsM (wsV RL idx RX4 y ws)) (hw : ws = Cond.code y bytes maxL (some .double) :: ws') (hd : y.cls = RX4 ∧ y.cls ≠ "java/lang/invoke/MethodHandle" ∧ y.cls ≠ "java/lang/invoke/VarHandle" ∧ (parseMethodDescriptor y.desc).map (fun d => d.parameters.length) = some n) (hmax : maxL ≤ 20) (hdg : decode cc pc = .ok (.invokevirtual idx, 3)) (hn : As.length = n) (hst : st0 = As.reverse ++ .ref x0 :: rest) (hcat : (rest.map fun v => v.category).sum ≤ 8) (hls : ls.size = mL)
    (hR1 : 31 ≤ R.frames) (hR2 : 839 ≤ R.locals) (hc1 : cells ≤ R.cells) (hc2 : slots ≤ R.slots) (hP : va_P D vwCl (wr ++ X) H) (hD : va_D A0 (wr ++ X)) (hS : va_S A0 s.heap H locs) (hA : ∀ q, s.heap.size ≤ q → A0 q)
    (kk : ∀ (H1 : Heap) (locs1 : List Loc), va_P D vwCl (wr ++ X') H1 → va_D A0 (wr ++ X') → va_S A0 s.heap H1 locs1 → W p l e R s m args below meth c H1 locs1 cells slots Q (F0 m (pc + 3) ls (.double r :: rest))) :
    W p l e R s m args below meth c H locs cells slots Q (F0 m pc ls st0) := by
  obtain ⟨rm, ⟨r1, r2, r3, r4⟩, hM⟩ := hM
  obtain ⟨fs, h0⟩ := h0
  have hPc := va_PR hP
  have hDc := va_DR hD
  have hC : vwCl[4]? = some (RX4, TX4, 9) := rfl
  refine cl_dA (va_runV (As := As) (rest := rest) ⟨hx, hb, hml, hown, hts⟩ (hM H.size) (cwV n hts hG hw rfl rfl hd ⟨by show rm.frames + 1 ≤ R.frames; omega, by show 8 + (maxL + 11) + rm.locals ≤ R.locals; omega⟩) ⟨pr_blind, va_recv hK hPc (ci := 4) (q0 := 0) hC h0, pr_at hN hPc hK hDc⟩ rfl hn hls hst (lv_room hcat) hdg ⟨by rw [r3]; exact hc1, by rw [r4]; exact hc2⟩) (va_Psw hP) (va_Dsw hD) hS hA (fun H1 locs1 h1 h2 h3 => ?_)
  rw [r3, r4]
  exact kk H1 locs1 (va_Psw h1) (va_Dsw h2) h3
/-- the end of such a method -/
theorem rt_zo {cc : ByteArray} {v : Int32} {A : Nat → Prop} {X' : va_W} {P : Int32 → va_W → Prop} (hx : p.tables.exec = Jvm.exec) (hb : c.code = cc) (hr : meth.sig.returnType = some .boolean) (hlocks : meth.locks = false) (hS : va_S A s.heap H locs) (hd : decode cc pc = .ok (.ireturn, 1)) (hP : va_P D vwCl X' H) (hD : va_D A X') (hn : narrow .boolean (.int v) = .int v) (hv : P v X') :
    W p l e R s m args below meth c H locs cells slots (MQ below (va_Qi P (fun (X' : va_W) (t : State) => va_P D vwCl X' t.heap ∧ va_D A X') A) args s cells slots A) (F0 m pc ls [.int v]) :=
  W.zret (v := v) hx hb hr hn (fun t ht hW => ⟨⟨v, X', rfl, hv, by show va_P D vwCl X' t.heap; rw [ht]; exact hP, hD⟩, hS.F ht⟩) hS.2.2 hd
/-- such a method is called -/
theorem lo_O {cc : ByteArray} {mL idx maxL n : Nat} {wsM ws ws' : List Cond} {y : MethodName} {bytes : ByteArray} {As st0 : List Value} {X : va_W} {P : Int32 → va_W → Prop} {rm : Room} {mc ms : Nat}
    (hx : p.tables.exec = Jvm.exec) (hb : c.code = cc) (hml : c.maxLocals = mL) (hown : s.vm.findClass RL = some m.cls) (hts : ∀ w ∈ wsM, w.before args s = true) (hK : va_K D vwCl (TY k) s) (hN : NL s)
    (hM : MO l y ws rm D k As X P) (h1 : rm.cells = mc) (h2 : rm.slots = ms)
    (hG : GoodIn wsM (va_wsS RL idx y ws)) (hw : ws = Cond.code y bytes maxL (some .boolean) :: ws') (hd : y.cls ≠ "java/lang/invoke/MethodHandle" ∧ y.cls ≠ "java/lang/invoke/VarHandle" ∧ (parseMethodDescriptor y.desc).map (fun d => d.parameters.length) = some n) (hR : rm.frames + 1 ≤ R.frames ∧ 8 + (maxL + 11) + rm.locals ≤ R.locals) (hdg : decode cc pc = .ok (.invokestatic idx, 3)) (hn : As.length = n) (hst : st0 = As.reverse ++ []) (hls : ls.size = mL)
    (hc1 : cells + mc ≤ R.cells) (hc2 : slots + ms ≤ R.slots) (hP : va_P D vwCl X H) (hD : va_D A0 X) (hS : va_S A0 s.heap H locs) (hA : ∀ q, s.heap.size ≤ q → A0 q)
    (kk : ∀ (r : Int32) (X' : va_W) (H1 : Heap) (locs1 : List Loc), P r X' → va_P D vwCl X' H1 → va_D A0 X' → va_S A0 s.heap H1 locs1 → W p l e R s m args below meth c H1 locs1 (cells + mc) (slots + ms) Q (F0 m (pc + 3) ls [.int r])) :
    W p l e R s m args below meth c H locs cells slots Q (F0 m pc ls st0) := by
  subst h1
  subst h2
  have hP0 : va_P D vwCl (X ++ []) H := by rw [List.append_nil]; exact hP
  have hD0 : va_D A0 (X ++ []) := by rw [List.append_nil]; exact hD
  have hF := fr_app hD0 hS hA
  refine va_calli (va_runS (As := As) (rest := []) ⟨hx, hb, hml, hown, hts⟩ (hM H.size) (va_cwS n hts hG hw rfl rfl hd hR) ⟨pr_blind, pr_at hN hP hK hD⟩ rfl hn hls hst (lv_room (by show 0 ≤ 8; omega)) hdg ⟨hc1, hc2⟩) hS (fun q _ h => hF q h) hF (fun r X' t H1 locs1 ht hvm hw hB hz hk hS1 => ?_)
  obtain ⟨g1, g2⟩ : va_P D vwCl X' t.heap ∧ va_D (va_A X H.size) X' := hB
  rw [ht] at g1
  exact kk r X' H1 locs1 hw g1 (g2.weaken (fun k q _ h => hF q.1 h)) hS1
end LO
