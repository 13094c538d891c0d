set_option maxHeartbeats 1000000 in
set_option maxRecDepth 100000 in
theorem P_append (l : Launch) (hfl : l.stackTraces = false) (D : va_G) (k : Nat → ClassId) {x0 h0 : Nat} (ou : Nat) {th : Int32} {X M : va_W} (hR : Both k x0 h0 th X M) (a : Int32) : PW l D k x0 h0 ou yL_append wsL_append yX5_append wsX5_append [.ref x0, .int a, .ref ou] [.ref h0, .int a] X M := by
  obtain ⟨d, v, ns, S, R, Z, Y0, Y1, kp, cd, ln, G, pl, kd, fs, V, al, op, wf, bh, ah, tr, h, f, asd, sl, kq, sv, tx, dg, rfl, rfl, rfl, rfl, hS, hZ, hn, hK, hB, hF⟩ := hR
  cases h1 : inB a 33 126
  · exact ⟨_, _, 1, 0, ⟨d, v, ns, S, R, Z, Y0, Y1, kp, cd, ln, G, pl, kd, fs, V, al, op, wf, bh, ah, tr, h, f, asd, sl, kq, sv, tx, dg, rfl, rfl, rfl, rfl, hS, hZ, hn, hK, hB, hF⟩, fun g => ⟨g, w_append_t1 l D k (d 0 0) ou a _ _ _ g _ _ (MX.wide (t_append_1 l hfl D k (d 0 0) a h1) _) rfl (by decide) (by decide) rfl rfl rfl rfl, fun h9 => absurd h9 (by decide)⟩, OkI.of (c_X5_append_x1 l D k h th f asd sl kq sv (nI ns) tx (nI ln) dg a h1) ⟨by decide, by decide, rfl, rfl⟩⟩
  · by_cases h2 : ln = 60
    · subst h2
      exact ⟨_, _, 2, 0, ⟨d, v, ns, S, R, Z, Y0, Y1, kp, cd, 60, G, pl, kd, fs, V, al, op, wf, bh, ah, tr, h, f, asd, sl, kq, sv, tx, dg, rfl, rfl, rfl, rfl, hS, hZ, hn, hK, hB, hF⟩, fun g => ⟨g, w_append_t2 l D k (d 0 0) ou a _ _ _ g _ _ (MX.wide2 (t_append_2 l hfl D k d (nI ns) a cd G pl kd fs h1) _ [0, 84, 85, 86, 87, 88, 89, 90, 91, 92, 93] rfl (by decide +kernel)) rfl (by decide) (by decide) rfl rfl rfl rfl, fun h9 => absurd h9 (by decide)⟩, OkI.of (c_X5_append_x2 l D k h th f asd sl kq sv (nI ns) tx dg a h1) ⟨by decide, by decide, rfl, rfl⟩⟩
    · obtain ⟨c, hc1, hc2, rfl⟩ := in_33 h1
      have hl : ln < 60 := by have := hB.1; omega
      have hB2 : ln + 1 ≤ 60 ∧ ∀ i, i < ln + 1 → upd cd ln (nI c) i = upd tx ln (nI c) i := by
        refine ⟨hl, fun i hi => ?_⟩
        by_cases e : i = ln
        · rw [e, upd_e, upd_e]
        · rw [upd_n _ _ e, upd_n _ _ e]
          exact hB.2 i (by omega)
      exact ⟨_, _, 0, _, ⟨d, v, ns, S, R, Z, Y0, Y1, kp, (upd cd ln (nI c)), (ln + 1), G, pl, kd, fs, V, al, op, wf, bh, ah, tr, h, f, asd, sl, kq, sv, (upd tx ln (nI c)), dg, rfl, rfl, rfl, rfl, hS, hZ, hn, hK, hB2, hF⟩, fun g => ⟨_, w_append l D k (d 0 0) ou (nI c) _ _ _ g _ _ (A_append l D k d v (nI ns) S R Z Y0 Y1 kp cd ln G pl kd fs V al op wf bh ah tr c hc1 hc2 hl) rfl (by decide) (by decide) rfl rfl, fun _ => (updL_0 _ _).trans (congrArg Int32.toInt64 (rfl))⟩, OkI.of (c_X5_append l D k h th f asd sl kq sv (nI ns) tx ln dg c hc1 hc2 hl) ⟨by decide, by decide, rfl, rfl⟩⟩

set_option maxHeartbeats 1000000 in
set_option maxRecDepth 100000 in
theorem P_clearBuffer (l : Launch) (D : va_G) (k : Nat → ClassId) {x0 h0 : Nat} {th : Int32} {X M : va_W} (hR : Both k x0 h0 th X M) : PP l D k x0 h0 yX4_clearBuffer wsX4_clearBuffer yX5_clearBuffer wsX5_clearBuffer X M := by
  obtain ⟨d, v, ns, S, R, Z, Y0, Y1, kp, cd, ln, G, pl, kd, fs, V, al, op, wf, bh, ah, tr, h, f, asd, sl, kq, sv, tx, dg, rfl, rfl, rfl, rfl, hS, hZ, hn, hK, hB, hF⟩ := hR
  exact ⟨_, _, 0, _, ⟨d, v, ns, S, R, Z, Y0, Y1, kp, cd, 0, G, pl, kd, fs, V, al, op, wf, bh, ah, tr, h, f, asd, sl, kq, sv, tx, dg, rfl, rfl, rfl, rfl, hS, hZ, hn, hK, ⟨by omega, fun i hi => absurd hi (Nat.not_lt_zero i)⟩, hF⟩, OkI.cl (A_clearBuffer l D k d v (nI ns) S R Z Y0 Y1 kp cd ln G pl kd fs V al op wf bh ah tr) (rfl) ⟨by decide, by decide, rfl, rfl⟩, OkI.of (c_X5_clearBuffer l D k h th f asd sl kq sv (nI ns) tx (nI ln) dg) ⟨by decide, by decide, rfl, rfl⟩⟩

set_option maxHeartbeats 1000000 in
set_option maxRecDepth 100000 in
theorem P_firstError (l : Launch) (D : va_G) (k : Nat → ClassId) {x0 h0 : Nat} {th : Int32} {X M : va_W} (hR : Both k x0 h0 th X M) : PP l D k x0 h0 yX4_firstError wsX4_firstError yX5_firstError wsX5_firstError X M := by
  obtain ⟨d, v, ns, S, R, Z, Y0, Y1, kp, cd, ln, G, pl, kd, fs, V, al, op, wf, bh, ah, tr, h, f, asd, sl, kq, sv, tx, dg, rfl, rfl, rfl, rfl, hS, hZ, hn, hK, hB, hF⟩ := hR
  obtain ⟨y, hy, rfl⟩ := hF
  have hq := first_eq hB.2 hB.1 hy G kd
  exact ⟨_, _, 0, _, ⟨d, v, ns, S, R, Z, Y0, Y1, kp, cd, ln, (rdF cd ln G kd (nI y)).2.1, (rdF cd ln G kd (nI y)).2.2.1, (rdF cd ln G kd (nI y)).2.2.2.1, (rdF cd ln G kd (nI y)).2.2.2.2, V, al, op, wf, bh, ah, tr, h, f, asd, sl, kq, sv, tx, dg, rfl, rfl, rfl, rfl, hS, hZ, hn, hK, hB, hq.2⟩, OkI.cl (A_firstError l D k d v (nI ns) S R Z Y0 Y1 kp cd ln G pl kd (nI y) V al op wf bh ah tr hB.1 ⟨y, hy, rfl⟩) (hq.1) ⟨by decide, by decide, rfl, rfl⟩, OkI.of (c_X5_firstError l D k h th f asd sl kq sv (nI ns) tx ln dg hB.1) ⟨by decide, by decide, rfl, rfl⟩⟩

set_option maxHeartbeats 1000000 in
set_option maxRecDepth 100000 in
theorem P_load (l : Launch) (hfl : l.stackTraces = false) (D : va_G) (k : Nat → ClassId) {x0 h0 : Nat} (ou : Nat) {th : Int32} {X M : va_W} (hR : Both k x0 h0 th X M) : PW l D k x0 h0 ou yL_load wsL_load yX5_load wsX5_load [.ref x0, .ref ou] [.ref h0] X M := by
  obtain ⟨d, v, ns, S, R, Z, Y0, Y1, kp, cd, ln, G, pl, kd, fs, V, al, op, wf, bh, ah, tr, h, f, asd, sl, kq, sv, tx, dg, rfl, rfl, rfl, rfl, hS, hZ, hn, hK, hB, hF⟩ := hR
  obtain ⟨y, hy, rfl⟩ := hF
  obtain ⟨h1, h2⟩ := read_eq hB.2 hB.1 hy G kd f
  rcases h1 with ⟨a1, a2, a3, a4, a5⟩ | ⟨e, e1, e2, e3, e4⟩
  · have hS2 : SR (loS S (rdF cd ln G kd (nI y)).2.1) (anM (ldM tx ln 0 (bkF f (fun _ => 0) 0 45))) := by
      refine SR_anew ⟨a4.1.cong (fun _ _ _ => rfl) (fun i q b1 b2 _ => ?_), fun q hq => a4.2 q hq, ?_, ?_⟩
      · rcases (show i = 1 ∨ i = 2 ∨ i = 3 by omega) with rfl | rfl | rfl <;> rfl
      · rw [a5 70 (by omega), bkF_out _ _ (by omega)]; exact hS.1.2.2.1
      · rw [a5 71 (by omega), bkF_out _ _ (by omega)]; exact hS.1.2.2.2
    have hm := c_X5_load l D k h th f asd sl kq sv tx ln dg ns hB.1 hn a1
    rw [← svN_eq hn] at hm
    exact ⟨_, _, 0, _, ⟨d, (svE v ns), (svN ns), (loS S (rdF cd ln G kd (nI y)).2.1), R, (svZ Z ns S), Y0, Y1, kp, cd, 0, (rdF cd ln G kd (nI y)).2.1, (rdF cd ln G kd (nI y)).2.2.1, (rdF cd ln G kd (nI y)).2.2.2.1, (rdF cd ln G kd (nI y)).2.2.2.2, V, al, op, wf, bh, ah, tr, h, (anM (ldM tx ln 0 (bkF f (fun _ => 0) 0 45))), asd, sl, kq, (svM sv f ns), tx, dg, rfl, rfl, rfl, rfl, (hS2), (SV_save hn hZ hS), (svN_le hn), hK, ⟨by omega, fun i hi => absurd hi (Nat.not_lt_zero i)⟩, h2⟩, fun g => ⟨_, w_load l D k (d 0 0) ou _ _ _ g _ _ (A_load l D k d v ns S R Z Y0 Y1 kp cd ln G pl kd (nI y) V al op wf bh ah tr hn hB.1 ⟨y, hy, rfl⟩ a2 a3) rfl (by decide) (by decide) rfl rfl, fun _ => (updL_0 _ _).trans (congrArg Int32.toInt64 (GC_joins hS2.1.1 9 (Nat.le_refl 9)))⟩, OkI.of (hm) ⟨by decide, by decide, rfl, rfl⟩⟩
  · have hno : ¬ wrM tx ln 0 = -1 := by rw [e2]; exact nI_m1 (by have := hB.1; omega)
    have hbad : (rdF cd ln G kd (nI y)).1 < nI ln ∨ ¬ ((rdF cd ln G kd (nI y)).2.2.1 = 5 ∨ (rdF cd ln G kd (nI y)).2.2.1 = 6) := by
      by_cases e5 : e = ln
      · exact Or.inr (e4 e5)
      · rw [e3]; exact Or.inl (nI_lt (by omega) (by have := hB.1; omega))
    exact ⟨_, _, 1, 0, ⟨d, v, ns, S, R, Z, Y0, Y1, kp, cd, ln, (rdF cd ln G kd (nI y)).2.1, (rdF cd ln G kd (nI y)).2.2.1, (rdF cd ln G kd (nI y)).2.2.2.1, (rdF cd ln G kd (nI y)).2.2.2.2, V, al, op, wf, bh, ah, tr, h, f, asd, sl, kq, sv, tx, dg, rfl, rfl, rfl, rfl, hS, hZ, hn, hK, hB, h2⟩, fun g => ⟨g, w_load_t1 l D k (d 0 0) ou _ _ _ g _ _ (MX.lift (t_load_1 l hfl D k d (nI ns) cd ln G pl kd (nI y) hB.1 ⟨y, hy, rfl⟩ hbad) [0, 84, 85, 86, 87, 88, 89, 90, 91, 92, 93] [1, 2, 3, 4, 5, 6, 7, 8, 9, 10, 11, 12, 13, 14, 15, 16, 17, 18, 19, 20, 21, 22, 23, 24, 25, 26, 27, 28, 29, 30, 31, 32, 33, 34, 35, 36, 37, 38, 39, 40, 41, 42, 43, 44, 45, 46, 47, 48, 49, 50, 51, 52, 53, 54, 55, 56, 57, 58, 59, 60, 61, 62, 63, 64, 65, 66, 67, 68, 69, 70, 71, 72, 73, 74, 75, 76, 77, 78, 79, 80, 81, 82, 83, 94, 95, 96, 97, 98, 99, 100, 101, 102, 103, 104, 105, 106, 107, 108] (wSt k (d 1) S ++ (wSt k (d 2) R ++ (wSv k (d 3 0) v Z ++ (([(d 4 0, .inl (k 2, 2, .inr (.inr (.inr (.inr (snA d)))))), (d 5 0, .inl (k 1, 2, .inl kp))] ++ (wSt k (d 11) Y0 ++ wSt k (d 12) Y1)) ++ (wWays k (d 8) (d 9) V al op wf ++ wRw k (d 10) bh ah tr))))) 109 rfl (by decide +kernel) rfl rfl rfl rfl (by decide +kernel)) rfl (by decide) (by decide) rfl rfl rfl rfl, fun h9 => absurd h9 (by decide)⟩, OkI.of (c_X5_load_x1 l D k h th f asd sl kq sv (nI ns) tx ln dg hB.1 hno) ⟨by decide, by decide, rfl, rfl⟩⟩
