/-! The law's loop: its calls, each on a part of its world -/
theorem va_Psw {D : va_G} {cl : List vw_C} {a b : va_W} {H : Heap} (h : va_P D cl (a ++ b) H) : va_P D cl (b ++ a) H := (va_PR h).app (va_PL h)
theorem va_Dsw {A : Nat → Prop} {a b : va_W} (h : va_D A (a ++ b)) : va_D A (b ++ a) := va_D.app (va_DR h) (va_DL h) (fun i j x y hx hy hxy => va_DX h j i y x hy hx hxy.symm)
theorem dcmp_self (x : UInt64) : FP.dcmp x x = none ∨ FP.dcmp x x = some .eq := by
  show FP.Core.order (FP.Core.decode FP.Core.b64 x.toNat) (FP.Core.decode FP.Core.b64 x.toNat) = none ∨ FP.Core.order (FP.Core.decode FP.Core.b64 x.toNat) (FP.Core.decode FP.Core.b64 x.toNat) = some .eq
  have h : ∀ a : Int, some (compare a a) = some Ordering.eq := fun a => by rw [cI, if_neg (by omega), if_pos rfl]
  cases FP.Core.decode FP.Core.b64 x.toNat with
  | nan => exact Or.inl rfl
  | inf s => exact Or.inr (h _)
  | fin s c q => exact Or.inr (h _)
section LAW
variable {p : Program} {l : Launch} {e : Env} {s : State} {m : MethodId} {below : List Frame} {meth : Method} {c : Code} {H : Heap} {locs : List Loc} {cells slots : Nat} {Q : State → Prop}
variable {pc b L : Nat} {ls : Array Slot} {rest : List Value} {D : va_G} {k : Nat → ClassId} {xs : Nat → Int32} {wr wc wc' : va_W}
theorem la_I (C1 : LC p l s m meth c b L xs D k) {y : MethodName} {ws ws' : List Cond} {C : String} {ci a0 idx maxL n N : Nat} {T : u_T} {bytes : ByteArray} {fs As st0 : List Value} {r : Int32}
    (hM : OkI l D k y ws (.ref a0 :: As) wc r wc') (h0 : wc[0]? = some (a0, .inr (ci, fs))) (hC : vwCl[ci]? = some (C, T, N)) (hG : GoodIn wsL_law (wsV RL idx C y ws)) (hw : ws = Cond.code y bytes maxL (some .int) :: ws') (hd : y.cls = C ∧ y.cls ≠ "java/lang/invoke/MethodHandle" ∧ y.cls ≠ "java/lang/invoke/VarHandle" ∧ (parseMethodDescriptor y.desc).map (fun d => d.parameters.length) = some n) (hmax : maxL ≤ 20) (hdg : decode cL_law pc = .ok (.invokevirtual idx, 3)) (hn : As.length = n) (hst : st0 = As.reverse ++ .ref a0 :: rest) (hcat : (rest.map fun v => v.category).sum ≤ 8) (hls : ls.size = 9)
    (hP : va_P D vwCl (wc ++ wr) H) (hD : va_D (fun q => s.heap.size ≤ q) (wc ++ wr)) (hS : va_S (fun q => s.heap.size ≤ q) s.heap H locs) (hc1 : cells ≤ 601024) (hc2 : slots ≤ 7293034)
    (kk : ∀ (H1 : Heap) (locs1 : List Loc), va_P D vwCl (wc' ++ wr) H1 → va_D (fun q => s.heap.size ≤ q) (wc' ++ wr) → va_S (fun q => s.heap.size ≤ q) s.heap H1 locs1 → W p l e room_1 s m #[Value.ref b] below meth c H1 locs1 cells slots Q (F0 m (pc + 3) ls (.int r :: rest))) :
    W p l e room_1 s m #[Value.ref b] below meth c H locs cells slots Q (F0 m pc ls st0) := by
  obtain ⟨hx, hb, hr, hml, hown, hts, hX, hbl, hlocks, hK, hN, hXP, hXZ, hL, hfl⟩ := C1
  obtain ⟨rm, ⟨r1, r2, r3, r4⟩, hM⟩ := hM
  have hA : ∀ q : Nat, s.heap.size ≤ q → (fun q : Nat => s.heap.size ≤ q) q := fun _ h => h
  have hPc := va_PL hP
  have hDc := va_DL hD
  refine cl_iA (va_runV (As := As) (rest := rest) ⟨hx, hb, hml, hown, hts⟩ (hM H.size) (cwV n hts hG hw rfl rfl hd ⟨by show rm.frames + 1 ≤ 2048; omega, by show 8 + (maxL + 11) + rm.locals ≤ 84000; omega⟩) ⟨xpr_blind, va_recv hK hPc (ci := ci) (q0 := 0) hC h0, xpr_at hXP (hXZ.kept hS.2.1) (fr_app hD hS hA) hN hPc hK hDc⟩ rfl hn hls hst (lv_room hcat) hdg ⟨by rw [r3]; exact hc1, by rw [r4]; exact hc2⟩) hP hD hS hA (fun H1 locs1 h1 h2 h3 => ?_)
  rw [r3, r4]
  exact kk H1 locs1 h1 h2 h3
theorem la_L (C1 : LC p l s m meth c b L xs D k) {y : MethodName} {ws ws' : List Cond} {C : String} {ci a0 idx maxL n N : Nat} {T : u_T} {bytes : ByteArray} {fs As st0 : List Value} {r : Int64}
    (hM : OkL l D k y ws (.ref a0 :: As) wc r wc') (h0 : wc[0]? = some (a0, .inr (ci, fs))) (hC : vwCl[ci]? = some (C, T, N)) (hG : GoodIn wsL_law (wsV RL idx C y ws)) (hw : ws = Cond.code y bytes maxL (some .long) :: ws') (hd : y.cls = C ∧ y.cls ≠ "java/lang/invoke/MethodHandle" ∧ y.cls ≠ "java/lang/invoke/VarHandle" ∧ (parseMethodDescriptor y.desc).map (fun d => d.parameters.length) = some n) (hmax : maxL ≤ 20) (hdg : decode cL_law pc = .ok (.invokevirtual idx, 3)) (hn : As.length = n) (hst : st0 = As.reverse ++ .ref a0 :: rest) (hcat : (rest.map fun v => v.category).sum ≤ 8) (hls : ls.size = 9)
    (hP : va_P D vwCl (wc ++ wr) H) (hD : va_D (fun q => s.heap.size ≤ q) (wc ++ wr)) (hS : va_S (fun q => s.heap.size ≤ q) s.heap H locs) (hc1 : cells ≤ 601024) (hc2 : slots ≤ 7293034)
    (kk : ∀ (H1 : Heap) (locs1 : List Loc), va_P D vwCl (wc' ++ wr) H1 → va_D (fun q => s.heap.size ≤ q) (wc' ++ wr) → va_S (fun q => s.heap.size ≤ q) s.heap H1 locs1 → W p l e room_1 s m #[Value.ref b] below meth c H1 locs1 cells slots Q (F0 m (pc + 3) ls (.long r :: rest))) :
    W p l e room_1 s m #[Value.ref b] below meth c H locs cells slots Q (F0 m pc ls st0) := by
  obtain ⟨hx, hb, hr, hml, hown, hts, hX, hbl, hlocks, hK, hN, hXP, hXZ, hL, hfl⟩ := C1
  obtain ⟨rm, ⟨r1, r2, r3, r4⟩, hM⟩ := hM
  have hA : ∀ q : Nat, s.heap.size ≤ q → (fun q : Nat => s.heap.size ≤ q) q := fun _ h => h
  have hPc := va_PL hP
  have hDc := va_DL hD
  refine cl_lA (va_runV (As := As) (rest := rest) ⟨hx, hb, hml, hown, hts⟩ (hM H.size) (cwV n hts hG hw rfl rfl hd ⟨by show rm.frames + 1 ≤ 2048; omega, by show 8 + (maxL + 11) + rm.locals ≤ 84000; omega⟩) ⟨xpr_blind, va_recv hK hPc (ci := ci) (q0 := 0) hC h0, xpr_at hXP (hXZ.kept hS.2.1) (fr_app hD hS hA) hN hPc hK hDc⟩ rfl hn hls hst (lv_room hcat) hdg ⟨by rw [r3]; exact hc1, by rw [r4]; exact hc2⟩) hP hD hS hA (fun H1 locs1 h1 h2 h3 => ?_)
  rw [r3, r4]
  exact kk H1 locs1 h1 h2 h3
theorem la_D (C1 : LC p l s m meth c b L xs D k) {y : MethodName} {ws ws' : List Cond} {C : String} {ci a0 idx maxL n N : Nat} {T : u_T} {bytes : ByteArray} {fs As st0 : List Value} {r : UInt64}
    (hM : OkD l D k y ws (.ref a0 :: As) wc r wc') (h0 : wc[0]? = some (a0, .inr (ci, fs))) (hC : vwCl[ci]? = some (C, T, N)) (hG : GoodIn wsL_law (wsV RL idx C y ws)) (hw : ws = Cond.code y bytes maxL (some .double) :: ws') (hd : y.cls = C ∧ y.cls ≠ "java/lang/invoke/MethodHandle" ∧ y.cls ≠ "java/lang/invoke/VarHandle" ∧ (parseMethodDescriptor y.desc).map (fun d => d.parameters.length) = some n) (hmax : maxL ≤ 20) (hdg : decode cL_law pc = .ok (.invokevirtual idx, 3)) (hn : As.length = n) (hst : st0 = As.reverse ++ .ref a0 :: rest) (hcat : (rest.map fun v => v.category).sum ≤ 8) (hls : ls.size = 9)
    (hP : va_P D vwCl (wc ++ wr) H) (hD : va_D (fun q => s.heap.size ≤ q) (wc ++ wr)) (hS : va_S (fun q => s.heap.size ≤ q) s.heap H locs) (hc1 : cells ≤ 601024) (hc2 : slots ≤ 7293034)
    (kk : ∀ (H1 : Heap) (locs1 : List Loc), va_P D vwCl (wc' ++ wr) H1 → va_D (fun q => s.heap.size ≤ q) (wc' ++ wr) → va_S (fun q => s.heap.size ≤ q) s.heap H1 locs1 → W p l e room_1 s m #[Value.ref b] below meth c H1 locs1 cells slots Q (F0 m (pc + 3) ls (.double r :: rest))) :
    W p l e room_1 s m #[Value.ref b] below meth c H locs cells slots Q (F0 m pc ls st0) := by
  obtain ⟨hx, hb, hr, hml, hown, hts, hX, hbl, hlocks, hK, hN, hXP, hXZ, hL, hfl⟩ := C1
  obtain ⟨rm, ⟨r1, r2, r3, r4⟩, hM⟩ := hM
  have hA : ∀ q : Nat, s.heap.size ≤ q → (fun q : Nat => s.heap.size ≤ q) q := fun _ h => h
  have hPc := va_PL hP
  have hDc := va_DL hD
  refine cl_dA (va_runV (As := As) (rest := rest) ⟨hx, hb, hml, hown, hts⟩ (hM H.size) (cwV n hts hG hw rfl rfl hd ⟨by show rm.frames + 1 ≤ 2048; omega, by show 8 + (maxL + 11) + rm.locals ≤ 84000; omega⟩) ⟨xpr_blind, va_recv hK hPc (ci := ci) (q0 := 0) hC h0, xpr_at hXP (hXZ.kept hS.2.1) (fr_app hD hS hA) hN hPc hK hDc⟩ rfl hn hls hst (lv_room hcat) hdg ⟨by rw [r3]; exact hc1, by rw [r4]; exact hc2⟩) hP hD hS hA (fun H1 locs1 h1 h2 h3 => ?_)
  rw [r3, r4]
  exact kk H1 locs1 h1 h2 h3
/-- a wrapper is called -/
theorem la_W (C1 : LC p l s m meth c b L xs D k) {y : MethodName} {ws ws' : List Cond} {hh : List (Nat × Nat × Nat × Nat)} {idx maxL n ou : Nat} {bytes : ByteArray} {As st0 : List Value} {code r : Int32} {X X' M : va_W} {g : Nat → Int64}
    (hM : OkW l D k y ws As ou X code r X') (hG : GoodIn wsL_law (va_wsS RL idx y ws)) (hw : ws = Cond.codeWith y bytes maxL (some .int) hh :: ws') (hd : y.cls ≠ "java/lang/invoke/MethodHandle" ∧ y.cls ≠ "java/lang/invoke/VarHandle" ∧ (parseMethodDescriptor y.desc).map (fun d => d.parameters.length) = some n) (hmax : maxL ≤ 20) (hdg : decode cL_law pc = .ok (.invokestatic idx, 3)) (hn : As.length = n) (hst : st0 = As.reverse ++ []) (hls : ls.size = 9)
    (hP : va_P D vwCl ((X ++ oC k ou g) ++ M) H) (hD : va_D (fun q => s.heap.size ≤ q) ((X ++ oC k ou g) ++ M)) (hS : va_S (fun q => s.heap.size ≤ q) s.heap H locs) (hc1 : cells + 1 ≤ 601024) (hc2 : slots + 6 ≤ 7293034)
    (kk : ∀ (g' : Nat → Int64) (H1 : Heap) (locs1 : List Loc), (code = 0 → g' 0 = r.toInt64) → va_P D vwCl ((X' ++ oC k ou g') ++ M) H1 → va_D (fun q => s.heap.size ≤ q) ((X' ++ oC k ou g') ++ M) → va_S (fun q => s.heap.size ≤ q) s.heap H1 locs1 → W p l e room_1 s m #[Value.ref b] below meth c H1 locs1 (cells + 1) (slots + 6) Q (F0 m (pc + 3) ls [.int code])) :
    W p l e room_1 s m #[Value.ref b] below meth c H locs cells slots Q (F0 m pc ls st0) := by
  obtain ⟨hx, hb, hr, hml, hown, hts, hX, hbl, hlocks, hK, hN, hXP, hXZ, hL, hfl⟩ := C1
  obtain ⟨g', hM, hg⟩ := hM g
  have hA : ∀ q : Nat, s.heap.size ≤ q → (fun q : Nat => s.heap.size ≤ q) q := fun _ h => h
  have hPc := va_PL hP
  have hDc := va_DL hD
  exact cl_iA (vx_runSW (As := As) (rest := []) ⟨hx, hb, hml, hown, hts⟩ (hM H.size) (vx_cwSW n hts hG hw rfl rfl hd ⟨by show 40 + 1 ≤ 2048; omega, by show 8 + (maxL + 11) + 900 ≤ 84000; omega⟩) ⟨xpr_blind, xpr_at hXP (hXZ.kept hS.2.1) (fr_app hD hS hA) hN hPc hK hDc⟩ rfl hn hls hst (lv_room (by show 0 ≤ 8; omega)) hdg ⟨hc1, hc2⟩) hP hD hS hA (fun H1 locs1 h1 h2 h3 => kk g' H1 locs1 hg h1 h2 h3)
/-- an int of the script -/
theorem la_arg (C1 : LC p l s m meth c b L xs D k) {j q : Nat} (hj : 3 * j + 3 ≤ L) (hq : q < 3) (d0 : decode cL_law pc = .ok (.aload_n 0, 1)) (d1 : decode cL_law (pc + 1) = .ok (.iload 4, 2)) {v : Int} (d2 : decode cL_law (pc + 3) = .ok (.iconst v, 1)) (hv : Int32.ofInt v = nI q) (d3 : decode cL_law (pc + 4) = .ok (.iadd, 1)) (d4 : decode cL_law (pc + 5) = .ok (.iaload, 1))
    (h0 : ls[0]? = some (.val (.ref b))) (h4 : ls[4]? = some (.val (.int (nI (3 * j))))) (hS : va_S (fun q => s.heap.size ≤ q) s.heap H locs)
    (kk : W p l e room_1 s m #[Value.ref b] below meth c H locs cells slots Q (F0 m (pc + 6) ls (.int (xs (3 * j + q)) :: rest))) : W p l e room_1 s m #[Value.ref b] below meth c H locs cells slots Q (F0 m pc ls rest) := by
  obtain ⟨hx, hb, hr, hml, hown, hts, hX, hbl, hlocks, hK, hN, hXP, hXZ, hL, hfl⟩ := C1
  have hbA : ¬ (fun q : Nat => s.heap.size ≤ q) b := Nat.not_le.mpr hbl
  refine lv_aload_n hx hb d0 rfl h0 ?_
  refine lv_iload hx hb d1 h4 ?_
  refine lv_iconst (v := nI q) hx hb d2 hv ?_
  refine lv_iadd hx hb d3 ?_
  refine tp_e (y := nI (3 * j + q)) (nI_add _ _) ?_
  refine va_sld hx hb hX hbl hbA hS (vp_in_nI (show 3 * j + q < L by omega) (by omega)) d4 ?_
  rw [nI_clamp (by omega)]
  exact kk
/-- what is handed on to the end of the loop's body -/
def LK (p : Program) (l : Launch) (e : Env) (s : State) (m : MethodId) (below : List Frame) (meth : Method) (c : Code) (b : Nat) (D : va_G) (k : Nat → ClassId) (x0 h0 og j cells slots : Nat) (Q : State → Prop) : Prop :=
  ∀ (X M : va_W) (th : Int32) (g : Nat → Int64) (H : Heap) (locs : List Loc) (ls : Array Slot), Both k x0 h0 th X M → va_P D vwCl ((X ++ oC k og g) ++ M) H → va_D (fun q => s.heap.size ≤ q) ((X ++ oC k og g) ++ M) → va_S (fun q => s.heap.size ≤ q) s.heap H locs → lv_has ls 9 [(4, .int (nI (3 * j))), (3, .ref og), (2, .ref h0), (1, .ref x0), (0, .ref b)] → W p l e room_1 s m #[Value.ref b] below meth c H locs cells slots Q (F0 m 1194 ls [])
end LAW
