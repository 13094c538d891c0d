/-! The law's cases -/
theorem Both.x {k : Nat → ClassId} {x0 h0 : Nat} {th : Int32} {X M : va_W} (h : Both k x0 h0 th X M) : ∃ fs, X[0]? = some (x0, .inr (4, fs)) := by
  obtain ⟨d, v, ns, S, R, Z, Y0, Y1, kp, cd, ln, G, pl, kd, fs, V, al, op, wf, bh, ah, tr, h, f, asd, sl, kq, sv, tx, dg, rfl, rfl, rfl, rfl, -⟩ := h
  exact ⟨_, rfl⟩
theorem Both.m {k : Nat → ClassId} {x0 h0 : Nat} {th : Int32} {X M : va_W} (h : Both k x0 h0 th X M) : ∃ fs, M[0]? = some (h0, .inr (5, fs)) := by
  obtain ⟨d, v, ns, S, R, Z, Y0, Y1, kp, cd, ln, G, pl, kd, fs, V, al, op, wf, bh, ah, tr, h, f, asd, sl, kq, sv, tx, dg, rfl, rfl, rfl, rfl, -⟩ := h
  exact ⟨_, rfl⟩
theorem Both.t {k : Nat → ClassId} {x0 h0 : Nat} {th : Int32} {X M : va_W} (l : Launch) (D : va_G) (h : Both k x0 h0 th X M) : OkI l D k yX5_thrown wsX5_thrown [.ref h0] M th M := by
  obtain ⟨d, v, ns, S, R, Z, Y0, Y1, kp, cd, ln, G, pl, kd, fs, V, al, op, wf, bh, ah, tr, h, f, asd, sl, kq, sv, tx, dg, rfl, rfl, rfl, rfl, -⟩ := h
  exact OkI.of (c_X5_thrown l D k h th f asd sl kq sv (nI ns) tx (nI ln) dg) ⟨by decide, by decide, rfl, rfl⟩
theorem lg_cmp_same (x : Int64) : lg_cmp x x = 0 := by simp [lg_cmp]
section LAW
variable {p : Program} {l : Launch} {e : Env} {s : State} {m : MethodId} {below : List Frame} {meth : Method} {c : Code} {H : Heap} {locs : List Loc} {cells slots : Nat} {Q : State → Prop}
variable {b L : Nat} {ls : Array Slot} {D : va_G} {k : Nat → ClassId} {xs : Nat → Int32} {x0 h0 og j : Nat} {X M : va_W} {th : Int32} {g : Nat → Int64}
/-- behind both calls: the number of what was thrown, and the answers, are alike -/
theorem la_tail (C1 : LC p l s m meth c b L xs D k) {t : Nat} {off : Int} {r : Int32} (e0 : decode cL_law t = .ok (.istore 6, 2)) (e1 : decode cL_law (t + 2) = .ok (.aload_n 2, 1)) (e2 : decode cL_law (t + 3) = .ok (.invokevirtual 73, 3)) (e3 : decode cL_law (t + 6) = .ok (.iload 5, 2)) (e4 : decode cL_law (t + 8) = .ok (.if_icmp .eq 5, 3)) (e5 : decode cL_law (t + 13) = .ok (.iload 5, 2)) (e6 : decode cL_law (t + 15) = .ok (.ifCond .ne 15, 3)) (e7 : decode cL_law (t + 18) = .ok (.aload_n 3, 1)) (e8 : decode cL_law (t + 19) = .ok (.iconst 0, 1)) (e9 : decode cL_law (t + 20) = .ok (.laload, 1)) (e10 : decode cL_law (t + 21) = .ok (.iload 6, 2)) (e11 : decode cL_law (t + 23) = .ok (.i2l, 1)) (e12 : decode cL_law (t + 24) = .ok (.lcmp, 1)) (e13 : decode cL_law (t + 25) = .ok (.ifCond .eq 5, 3)) (e14 : decode cL_law (t + 30) = .ok (.goto off, 3)) (ho : ((t + 30 : Nat) : Int) + off = ((1194 : Nat) : Int))
    (hR : Both k x0 h0 th X M) (hg : th = 0 → g 0 = r.toInt64) (hP : va_P D vwCl ((X ++ oC k og g) ++ M) H) (hD : va_D (fun q => s.heap.size ≤ q) ((X ++ oC k og g) ++ M)) (hS : va_S (fun q => s.heap.size ≤ q) s.heap H locs) (hc1 : cells ≤ 601024) (hc2 : slots ≤ 7293034) (hl : lv_has ls 9 [(5, .int th), (4, .int (nI (3 * j))), (3, .ref og), (2, .ref h0), (1, .ref x0), (0, .ref b)]) (kk : LK p l e s m below meth c b D k x0 h0 og j cells slots Q) : W p l e room_1 s m #[Value.ref b] below meth c H locs cells slots Q (F0 m t ls [.int r]) := by
  obtain ⟨hx, hb, hr, hml, hown, hts, hX, hbl, hlocks, hK, hN, hXP, hXZ, hL, hfl⟩ := id C1
  obtain ⟨fs, hM0⟩ := hR.m
  refine lv_istore (lv' := [(6, .int r), (5, .int th), (4, .int (nI (3 * j))), (3, .ref og), (2, .ref h0), (1, .ref x0), (0, .ref b)]) hx hb e0 hl (by decide) rfl (fun ls hl => ?_)
  refine lv_aload_n hx hb e1 rfl (lv_at hl 4 rfl) ?_
  refine la_I (As := []) (rest := []) (n := 0) C1 (hR.t l D) hM0 (ci := 5) rfl gL_law_X5_thrown rfl (by decide +kernel) (Nat.le_of_ble_eq_true rfl) e2 rfl rfl (Nat.le_of_ble_eq_true rfl) hl.1 (va_Psw hP) (va_Dsw hD) hS hc1 hc2 (fun H locs hP hD hS => ?_)
  refine lv_iload hx hb e3 (lv_at hl 1 rfl) ?_
  refine lv_icmp_eq (tgt := t + 13) hx hb e4 (by omega) (fun _ => ?_) (fun h9 => absurd rfl h9)
  refine lv_iload hx hb e5 (lv_at hl 1 rfl) ?_
  refine lv_if_ne (tgt := t + 30) hx hb e6 (by omega) (fun _ => ?_) (fun h9 => ?_)
  · refine lv_goto (tgt := 1194) hx hb e14 ho ?_
    exact kk X M th g H locs ls hR (va_Psw hP) (va_Dsw hD) hS (lv_sub hl [2, 3, 4, 5, 6] rfl)
  · have hP := va_Psw hP
    have hD := va_Dsw hD
    have hi : ((X ++ oC k og g) ++ M)[X.length]? = some (og, .inl (k 3, 1, .inr (.inl g))) := by
      rw [List.getElem?_append_left (by rw [List.length_append]; show X.length < X.length + 1; omega), List.getElem?_append_right (Nat.le_refl _), Nat.sub_self]
      rfl
    refine lv_aload_n hx hb e7 rfl (lv_at hl 3 rfl) ?_
    refine lv_iconst (v := 0) hx hb e8 (by decide) ?_
    refine ar_lld hx hb hK hP X.length hi 0 rfl (show vp_in (nI 0) 1 from vp_in_nI (by decide) (by decide)) e9 ?_
    refine lv_iload hx hb e10 (lv_at hl 0 rfl) ?_
    refine lv_i2l hx hb e11 rfl ?_
    refine W.lcmp hx hb e12 ?_
    refine tp_e (y := 0) (by rw [hg h9]; exact lg_cmp_same _) ?_
    refine lv_if_eq (tgt := t + 30) hx hb e13 (by omega) (fun _ => ?_) (fun h8 => absurd rfl h8)
    refine lv_goto (tgt := 1194) hx hb e14 ho ?_
    exact kk X M th g H locs ls hR hP hD hS (lv_sub hl [2, 3, 4, 5, 6] rfl)
/-- a pair of calls that throw nothing -/
theorem la_plain (C1 : LC p l s m meth c b L xs D k) {t i1 i2 m1 m2 : Nat} {off : Int} {yX yM : MethodName} {wX wX' wM wM' : List Cond} {bX bM : ByteArray} (hp : PP l D k x0 h0 yX wX yM wM X M)
    (hG1 : GoodIn wsL_law (wsV RL i1 RX4 yX wX)) (hw1 : wX = Cond.code yX bX m1 (some .int) :: wX') (hd1 : yX.cls = RX4 ∧ yX.cls ≠ "java/lang/invoke/MethodHandle" ∧ yX.cls ≠ "java/lang/invoke/VarHandle" ∧ (parseMethodDescriptor yX.desc).map (fun d => d.parameters.length) = some 0) (hm1 : m1 ≤ 20)
    (hG2 : GoodIn wsL_law (wsV RL i2 RX5 yM wM)) (hw2 : wM = Cond.code yM bM m2 (some .int) :: wM') (hd2 : yM.cls = RX5 ∧ yM.cls ≠ "java/lang/invoke/MethodHandle" ∧ yM.cls ≠ "java/lang/invoke/VarHandle" ∧ (parseMethodDescriptor yM.desc).map (fun d => d.parameters.length) = some 0) (hm2 : m2 ≤ 20)
    (e0 : decode cL_law t = .ok (.aload_n 1, 1)) (e1 : decode cL_law (t + 1) = .ok (.invokevirtual i1, 3)) (e2 : decode cL_law (t + 4) = .ok (.aload_n 2, 1)) (e3 : decode cL_law (t + 5) = .ok (.invokevirtual i2, 3)) (e4 : decode cL_law (t + 8) = .ok (.if_icmp .eq off, 3)) (ho : ((t + 8 : Nat) : Int) + off = ((1194 : Nat) : Int))
    (hR : Both k x0 h0 th X M) (hP : va_P D vwCl ((X ++ oC k og g) ++ M) H) (hD : va_D (fun q => s.heap.size ≤ q) ((X ++ oC k og g) ++ M)) (hS : va_S (fun q => s.heap.size ≤ q) s.heap H locs) (hc1 : cells + 1 ≤ 601024) (hc2 : slots + 6 ≤ 7293034) (hl : lv_has ls 9 [(4, .int (nI (3 * j))), (3, .ref og), (2, .ref h0), (1, .ref x0), (0, .ref b)]) (kk : LK p l e s m below meth c b D k x0 h0 og j (cells + 1) (slots + 6) Q) : W p l e room_1 s m #[Value.ref b] below meth c H locs cells slots Q (F0 m t ls []) := by
  obtain ⟨hx, hb, hr, hml, hown, hts, hX, hbl, hlocks, hK, hN, hXP, hXZ, hL, hfl⟩ := id C1
  obtain ⟨X', M', th', r, hR', hX1, hM1⟩ := hp
  obtain ⟨fs, hX0⟩ := hR.x
  obtain ⟨fs2, hM0⟩ := hR.m
  refine lv_aload_n hx hb e0 rfl (lv_at hl 3 rfl) ?_
  refine la_I (As := []) (rest := []) (n := 0) C1 hX1 hX0 (ci := 4) rfl hG1 hw1 hd1 hm1 e1 rfl rfl (Nat.le_of_ble_eq_true rfl) hl.1 (by rw [← List.append_assoc]; exact hP) (by rw [← List.append_assoc]; exact hD) hS (by omega) (by omega) (fun H locs hP hD hS => ?_)
  rw [← List.append_assoc] at hP hD
  refine lv_aload_n hx hb e2 rfl (lv_at hl 2 rfl) ?_
  refine la_I (As := []) (rest := [.int r]) (n := 0) C1 hM1 hM0 (ci := 5) rfl hG2 hw2 hd2 hm2 e3 rfl rfl (Nat.le_of_ble_eq_true rfl) hl.1 (va_Psw hP) (va_Dsw hD) hS (by omega) (by omega) (fun H locs hP hD hS => ?_)
  refine lv_icmp_eq (tgt := 1194) hx hb e4 (by omega) (fun _ => ?_) (fun h9 => absurd rfl h9)
  refine W.widen (k := cells + 1) (n := slots + 6) (by omega) (by omega) ?_
  exact kk X' M' th' g H locs ls hR' (va_Psw hP) (va_Dsw hD) hS hl
end LAW
