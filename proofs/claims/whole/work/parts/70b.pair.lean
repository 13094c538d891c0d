theorem OkI.cl {l : Launch} {D : va_G} {k : Nat → ClassId} {y : MethodName} {wy : List Cond} {av : List Value} {rm : Room} {X X' : va_W} {r r' : Int32} (h : MYi l y wy rm D k av X r X') (e : r = r') (hr : rmOK rm) : OkI l D k y wy av X r' X' := ⟨rm, hr, e ▸ h⟩
theorem OkL.cl {l : Launch} {D : va_G} {k : Nat → ClassId} {y : MethodName} {wy : List Cond} {av : List Value} {rm : Room} {X X' : va_W} {r r' : Int64} (h : MYl l y wy rm D k av X r X') (e : r = r') (hr : rmOK rm) : OkL l D k y wy av X r' X' := ⟨rm, hr, e ▸ h⟩
theorem OkD.cl {l : Launch} {D : va_G} {k : Nat → ClassId} {y : MethodName} {wy : List Cond} {av : List Value} {rm : Room} {X X' : va_W} {r r' : UInt64} (h : MYd l y wy rm D k av X r X') (e : r = r') (hr : rmOK rm) : OkD l D k y wy av X r' X' := ⟨rm, hr, e ▸ h⟩
theorem MX.wide2 {l : Launch} {y : MethodName} {wy : List Cond} {rm : Room} {D : va_G} {k : Nat → ClassId} {av : List Value} {wc : va_W} {E : String} (h : MX l y wy rm D k av wc E wc) (ws : va_W) (isC : List Nat) (hC : isC.map (fun i => ws[i]?) = wc.map some) (hcn : va_nd isC = true) : MX l y wy rm D k av ws E ws := by
  have e : (List.range ws.length).map (fun i => ws[i]?) = ws.map some := by
    refine List.ext_getElem? (fun i => ?_)
    rw [List.getElem?_map, List.getElem?_map]
    by_cases hi : i < ws.length
    · rw [List.getElem?_range hi, List.getElem?_eq_getElem hi, Option.map_some, Option.map_some, List.getElem?_eq_getElem hi]
    · rw [List.getElem?_eq_none (l := List.range ws.length) (by rw [List.length_range]; omega), List.getElem?_eq_none (l := ws) (by omega)]
      rfl
  exact MX.lift h isC (List.range ws.length) ws ws.length hC hcn hC e e rfl (List.all_eq_true.mpr (fun x hx => by
    rw [Bool.or_eq_true]
    exact Or.inr (List.contains_iff_mem.mpr hx)))
theorem bar_eq {S : Nat → Nat → Int32} {f : Nat → Int32} (h : GC S f) {q z : Nat} (hq : q < 9) (hz : z < 9) (hqz : q ≠ z) : GC (gB (gB S q (S 3 q ^^^ (1 <<< (nI z &&& 31)))) z (upd (S 3) q (S 3 q ^^^ (1 <<< (nI z &&& 31))) z ^^^ (1 <<< (nI q &&& 31)))) (upd (upd f (36 + q) (f (36 + q) ^^^ (1 <<< (nI z &&& 31)))) (36 + z) ((upd f (36 + q) (f (36 + q) ^^^ (1 <<< (nI z &&& 31)))) (36 + z) ^^^ (1 <<< (nI q &&& 31)))) :=
  GC_bar (GC_bar h hq hz) hz hq

set_option maxHeartbeats 1000000 in
set_option maxRecDepth 100000 in
theorem P_cover (l : Launch) (hfl : l.stackTraces = false) (D : va_G) (k : Nat → ClassId) {x0 h0 : Nat} (ou : Nat) {th : Int32} {X M : va_W} (hR : Both k x0 h0 th X M) (a b : Int32) : PW l D k x0 h0 ou yL_cover wsL_cover yX5_cover wsX5_cover [.ref x0, .int a, .int b, .ref ou] [.ref h0, .int a, .int b] X M := by
  obtain ⟨d, v, ns, S, R, Z, Y0, Y1, kp, cd, ln, G, pl, kd, fs, V, al, op, wf, bh, ah, tr, h, f, asd, sl, kq, sv, tx, dg, rfl, rfl, rfl, rfl, hS, hZ, hn, hK, hB, hF⟩ := hR
  cases h1 : inB a 0 8
  · exact ⟨_, _, 1, 0, ⟨d, v, ns, S, R, Z, Y0, Y1, kp, cd, ln, G, pl, kd, fs, V, al, op, wf, bh, ah, tr, h, f, asd, sl, kq, sv, tx, dg, rfl, rfl, rfl, rfl, hS, hZ, hn, hK, hB, hF⟩, fun g => ⟨g, w_cover_t1 l D k (d 0 0) ou a b _ _ _ g _ _ (MX.wide (t_cover_1 l hfl D k (d 0 0) a b (pc_f h1)) _) rfl (by decide) (by decide) rfl rfl rfl rfl, fun h9 => absurd h9 (by decide)⟩, OkI.of (c_X5_cover_x1 l D k h th f asd sl kq sv (nI ns) tx (nI ln) dg a b h1) ⟨by decide, by decide, rfl, rfl⟩⟩
  · cases h2 : inB b 0 999
    · exact ⟨_, _, 2, 0, ⟨d, v, ns, S, R, Z, Y0, Y1, kp, cd, ln, G, pl, kd, fs, V, al, op, wf, bh, ah, tr, h, f, asd, sl, kq, sv, tx, dg, rfl, rfl, rfl, rfl, hS, hZ, hn, hK, hB, hF⟩, fun g => ⟨g, w_cover_t2 l D k (d 0 0) ou a b _ _ _ g _ _ (MX.wide (t_cover_2 l hfl D k (d 0 0) a b (pc_t h1) h2) _) rfl (by decide) (by decide) rfl rfl rfl rfl, fun h9 => absurd h9 (by decide)⟩, OkI.of (c_X5_cover_x2 l D k h th f asd sl kq sv (nI ns) tx (nI ln) dg a b h1 h2) ⟨by decide, by decide, rfl, rfl⟩⟩
    · obtain ⟨q, hq8, rfl⟩ := inB_ex (b := 8) (by omega) h1
      obtain ⟨c, hc, rfl⟩ := inB_ex (b := 999) (by omega) h2
      have hq : q < 9 := by omega
      have hm := c_X5_cover l D k h th f asd sl kq sv tx (nI ln) dg ns q c hn hq hc
      rw [← svN_eq hn] at hm
      exact ⟨_, _, 0, f (0 + q), ⟨d, (svE v ns), (svN ns), (anS (gC S q (nI c))), R, (svZ Z ns S), Y0, Y1, kp, cd, ln, G, pl, kd, fs, V, al, op, wf, bh, ah, tr, h, (anM (upd f (0 + q) (nI c))), asd, sl, kq, (svM sv f ns), tx, dg, rfl, rfl, rfl, rfl, (SR_anew (GC_cover hS.1 hq hc)), (SV_save hn hZ hS), (svN_le hn), hK, hB, hF⟩, fun g => ⟨_, w_cover l D k (d 0 0) ou (nI q) (nI c) _ _ _ g _ _ (A_cover l D k d v ns S R Z Y0 Y1 kp cd (nI ln) G pl kd fs V al op wf bh ah tr q c hn hq hc) rfl (by decide) (by decide) rfl rfl, fun _ => (updL_0 _ _).trans (congrArg Int32.toInt64 ((hS.1.2.1 q hq).1))⟩, OkI.of (hm) ⟨by decide, by decide, rfl, rfl⟩⟩

set_option maxHeartbeats 1000000 in
set_option maxRecDepth 100000 in
theorem P_mark (l : Launch) (hfl : l.stackTraces = false) (D : va_G) (k : Nat → ClassId) {x0 h0 : Nat} (ou : Nat) {th : Int32} {X M : va_W} (hR : Both k x0 h0 th X M) (a b : Int32) : PW l D k x0 h0 ou yL_mark wsL_mark yX5_mark wsX5_mark [.ref x0, .int a, .int b, .ref ou] [.ref h0, .int a, .int b] X M := by
  obtain ⟨d, v, ns, S, R, Z, Y0, Y1, kp, cd, ln, G, pl, kd, fs, V, al, op, wf, bh, ah, tr, h, f, asd, sl, kq, sv, tx, dg, rfl, rfl, rfl, rfl, hS, hZ, hn, hK, hB, hF⟩ := hR
  cases h1 : inB a 0 8
  · exact ⟨_, _, 1, 0, ⟨d, v, ns, S, R, Z, Y0, Y1, kp, cd, ln, G, pl, kd, fs, V, al, op, wf, bh, ah, tr, h, f, asd, sl, kq, sv, tx, dg, rfl, rfl, rfl, rfl, hS, hZ, hn, hK, hB, hF⟩, fun g => ⟨g, w_mark_t1 l D k (d 0 0) ou a b _ _ _ g _ _ (MX.wide (t_mark_1 l hfl D k (d 0 0) a b (pc_f h1)) _) rfl (by decide) (by decide) rfl rfl rfl rfl, fun h9 => absurd h9 (by decide)⟩, OkI.of (c_X5_mark_x1 l D k h th f asd sl kq sv (nI ns) tx (nI ln) dg a b h1) ⟨by decide, by decide, rfl, rfl⟩⟩
  · cases h2 : inB b 0 3
    · exact ⟨_, _, 2, 0, ⟨d, v, ns, S, R, Z, Y0, Y1, kp, cd, ln, G, pl, kd, fs, V, al, op, wf, bh, ah, tr, h, f, asd, sl, kq, sv, tx, dg, rfl, rfl, rfl, rfl, hS, hZ, hn, hK, hB, hF⟩, fun g => ⟨g, w_mark_t2 l D k (d 0 0) ou a b _ _ _ g _ _ (MX.wide (t_mark_2 l hfl D k (d 0 0) a b (pc_t h1) h2) _) rfl (by decide) (by decide) rfl rfl rfl rfl, fun h9 => absurd h9 (by decide)⟩, OkI.of (c_X5_mark_x2 l D k h th f asd sl kq sv (nI ns) tx (nI ln) dg a b h1 h2) ⟨by decide, by decide, rfl, rfl⟩⟩
    · obtain ⟨q, hq8, rfl⟩ := inB_ex (b := 8) (by omega) h1
      obtain ⟨w, hw, rfl⟩ := inB_ex (b := 3) (by omega) h2
      have hq : q < 9 := by omega
      have hm := c_X5_mark l D k h th f asd sl kq sv tx (nI ln) dg ns q w hn hq hw
      rw [← svN_eq hn] at hm
      exact ⟨_, _, 0, f (18 + q), ⟨d, (svE v ns), (svN ns), (anS (gM S q (nI w))), R, (svZ Z ns S), Y0, Y1, kp, cd, ln, G, pl, kd, fs, V, al, op, wf, bh, ah, tr, h, (anM (upd f (18 + q) (nI w))), asd, sl, kq, (svM sv f ns), tx, dg, rfl, rfl, rfl, rfl, (SR_anew (GC_mark hS.1 hq hw)), (SV_save hn hZ hS), (svN_le hn), hK, hB, hF⟩, fun g => ⟨_, w_mark l D k (d 0 0) ou (nI q) (nI w) _ _ _ g _ _ (A_mark l D k d v ns S R Z Y0 Y1 kp cd (nI ln) G pl kd fs V al op wf bh ah tr q w hn hq hw) rfl (by decide) (by decide) rfl rfl, fun _ => (updL_0 _ _).trans (congrArg Int32.toInt64 ((hS.1.1 q hq).1.1))⟩, OkI.of (hm) ⟨by decide, by decide, rfl, rfl⟩⟩

set_option maxHeartbeats 1000000 in
set_option maxRecDepth 100000 in
theorem P_join (l : Launch) (hfl : l.stackTraces = false) (D : va_G) (k : Nat → ClassId) {x0 h0 : Nat} (ou : Nat) {th : Int32} {X M : va_W} (hR : Both k x0 h0 th X M) (a b : Int32) : PW l D k x0 h0 ou yL_join wsL_join yX5_join wsX5_join [.ref x0, .int a, .int b, .ref ou] [.ref h0, .int a, .int b] X M := by
  obtain ⟨d, v, ns, S, R, Z, Y0, Y1, kp, cd, ln, G, pl, kd, fs, V, al, op, wf, bh, ah, tr, h, f, asd, sl, kq, sv, tx, dg, rfl, rfl, rfl, rfl, hS, hZ, hn, hK, hB, hF⟩ := hR
  cases h1 : inB a 0 8
  · exact ⟨_, _, 1, 0, ⟨d, v, ns, S, R, Z, Y0, Y1, kp, cd, ln, G, pl, kd, fs, V, al, op, wf, bh, ah, tr, h, f, asd, sl, kq, sv, tx, dg, rfl, rfl, rfl, rfl, hS, hZ, hn, hK, hB, hF⟩, fun g => ⟨g, w_join_t1 l D k (d 0 0) ou a b _ _ _ g _ _ (MX.wide (t_join_1a l hfl D k (d 0 0) a b (pc_f h1)) _) rfl (by decide) (by decide) rfl rfl rfl rfl, fun h9 => absurd h9 (by decide)⟩, OkI.of (c_X5_join_x1a l D k h th f asd sl kq sv (nI ns) tx (nI ln) dg a b h1) ⟨by decide, by decide, rfl, rfl⟩⟩
  · cases h2 : inB b 0 8
    · exact ⟨_, _, 1, 0, ⟨d, v, ns, S, R, Z, Y0, Y1, kp, cd, ln, G, pl, kd, fs, V, al, op, wf, bh, ah, tr, h, f, asd, sl, kq, sv, tx, dg, rfl, rfl, rfl, rfl, hS, hZ, hn, hK, hB, hF⟩, fun g => ⟨g, w_join_t1 l D k (d 0 0) ou a b _ _ _ g _ _ (MX.wide (t_join_1b l hfl D k (d 0 0) a b (pc_t h1) (pc_f h2)) _) rfl (by decide) (by decide) rfl rfl rfl rfl, fun h9 => absurd h9 (by decide)⟩, OkI.of (c_X5_join_x1b l D k h th f asd sl kq sv (nI ns) tx (nI ln) dg a b h1 h2) ⟨by decide, by decide, rfl, rfl⟩⟩
    · obtain ⟨q, hq8, rfl⟩ := inB_ex (b := 8) (by omega) h1
      obtain ⟨z, hz8, rfl⟩ := inB_ex (b := 8) (by omega) h2
      have hq : q < 9 := by omega
      have hz : z < 9 := by omega
      by_cases hqz : q < z
      · have hm := c_X5_join l D k h th f asd sl kq sv tx (nI ln) dg ns q z hn hq hz hqz
        rw [← svN_eq hn] at hm
        have e2 := (hS.1.1 q hq).1.2.1
        exact ⟨_, _, 0, _, ⟨d, (svE v ns), (svN ns), (anS (gJ S q (S 2 q ^^^ (1 <<< (nI z &&& 31))))), R, (svZ Z ns S), Y0, Y1, kp, cd, ln, G, pl, kd, fs, V, al, op, wf, bh, ah, tr, h, (anM (upd f (27 + q) (f (27 + q) ^^^ (1 <<< (nI z &&& 31))))), asd, sl, kq, (svM sv f ns), tx, dg, rfl, rfl, rfl, rfl, (SR_anew (GC_join hS.1 hq hz hqz)), (SV_save hn hZ hS), (svN_le hn), hK, hB, hF⟩, fun g => ⟨_, w_join l D k (d 0 0) ou (nI q) (nI z) _ _ _ g _ _ (A_join l D k d v ns S R Z Y0 Y1 kp cd (nI ln) G pl kd fs V al op wf bh ah tr q z hn hq hz hqz) rfl (by decide) (by decide) rfl rfl, fun _ => (updL_0 _ _).trans (congrArg Int32.toInt64 (by rw [upd_e, anM_gr (by omega) (by omega), upd_e, e2]))⟩, OkI.of (hm) ⟨by decide, by decide, rfl, rfl⟩⟩
      · have hzq : z ≤ q := Nat.le_of_not_lt hqz
        exact ⟨_, _, 2, 0, ⟨d, v, ns, S, R, Z, Y0, Y1, kp, cd, ln, G, pl, kd, fs, V, al, op, wf, bh, ah, tr, h, f, asd, sl, kq, sv, tx, dg, rfl, rfl, rfl, rfl, hS, hZ, hn, hK, hB, hF⟩, fun g => ⟨g, w_join_t2 l D k (d 0 0) ou (nI q) (nI z) _ _ _ g _ _ (MX.wide (t_join_2 l hfl D k (d 0 0) (nI q) (nI z) (pc_t h1) (pc_t h2) (nI_nlt hzq (by omega))) _) rfl (by decide) (by decide) rfl rfl rfl rfl, fun h9 => absurd h9 (by decide)⟩, OkI.of (c_X5_join_x2 l D k h th f asd sl kq sv (nI ns) tx (nI ln) dg q z hq hz hzq) ⟨by decide, by decide, rfl, rfl⟩⟩

set_option maxHeartbeats 1000000 in
set_option maxRecDepth 100000 in
theorem P_bar (l : Launch) (hfl : l.stackTraces = false) (D : va_G) (k : Nat → ClassId) {x0 h0 : Nat} (ou : Nat) {th : Int32} {X M : va_W} (hR : Both k x0 h0 th X M) (a b : Int32) : PW l D k x0 h0 ou yL_bar wsL_bar yX5_bar wsX5_bar [.ref x0, .int a, .int b, .ref ou] [.ref h0, .int a, .int b] X M := by
  obtain ⟨d, v, ns, S, R, Z, Y0, Y1, kp, cd, ln, G, pl, kd, fs, V, al, op, wf, bh, ah, tr, h, f, asd, sl, kq, sv, tx, dg, rfl, rfl, rfl, rfl, hS, hZ, hn, hK, hB, hF⟩ := hR
  cases h1 : inB a 0 8
  · exact ⟨_, _, 1, 0, ⟨d, v, ns, S, R, Z, Y0, Y1, kp, cd, ln, G, pl, kd, fs, V, al, op, wf, bh, ah, tr, h, f, asd, sl, kq, sv, tx, dg, rfl, rfl, rfl, rfl, hS, hZ, hn, hK, hB, hF⟩, fun g => ⟨g, w_bar_t1 l D k (d 0 0) ou a b _ _ _ g _ _ (MX.wide (t_bar_1a l hfl D k (d 0 0) a b (pc_f h1)) _) rfl (by decide) (by decide) rfl rfl rfl rfl, fun h9 => absurd h9 (by decide)⟩, OkI.of (c_X5_bar_x1a l D k h th f asd sl kq sv (nI ns) tx (nI ln) dg a b h1) ⟨by decide, by decide, rfl, rfl⟩⟩
  · cases h2 : inB b 0 8
    · exact ⟨_, _, 1, 0, ⟨d, v, ns, S, R, Z, Y0, Y1, kp, cd, ln, G, pl, kd, fs, V, al, op, wf, bh, ah, tr, h, f, asd, sl, kq, sv, tx, dg, rfl, rfl, rfl, rfl, hS, hZ, hn, hK, hB, hF⟩, fun g => ⟨g, w_bar_t1 l D k (d 0 0) ou a b _ _ _ g _ _ (MX.wide (t_bar_1b l hfl D k (d 0 0) a b (pc_t h1) (pc_f h2)) _) rfl (by decide) (by decide) rfl rfl rfl rfl, fun h9 => absurd h9 (by decide)⟩, OkI.of (c_X5_bar_x1b l D k h th f asd sl kq sv (nI ns) tx (nI ln) dg a b h1 h2) ⟨by decide, by decide, rfl, rfl⟩⟩
    · obtain ⟨q, hq8, rfl⟩ := inB_ex (b := 8) (by omega) h1
      obtain ⟨z, hz8, rfl⟩ := inB_ex (b := 8) (by omega) h2
      have hq : q < 9 := by omega
      have hz : z < 9 := by omega
      by_cases hqz : q = z
      · subst hqz
        exact ⟨_, _, 2, 0, ⟨d, v, ns, S, R, Z, Y0, Y1, kp, cd, ln, G, pl, kd, fs, V, al, op, wf, bh, ah, tr, h, f, asd, sl, kq, sv, tx, dg, rfl, rfl, rfl, rfl, hS, hZ, hn, hK, hB, hF⟩, fun g => ⟨g, w_bar_t2 l D k (d 0 0) ou (nI q) (nI q) _ _ _ g _ _ (MX.wide (t_bar_2 l hfl D k (d 0 0) (nI q) (nI q) (pc_t h1) (pc_t h2) rfl) _) rfl (by decide) (by decide) rfl rfl rfl rfl, fun h9 => absurd h9 (by decide)⟩, OkI.of (c_X5_bar_x2 l D k h th f asd sl kq sv (nI ns) tx (nI ln) dg q q hq hq rfl) ⟨by decide, by decide, rfl, rfl⟩⟩
      · have hm := c_X5_bar l D k h th f asd sl kq sv tx (nI ln) dg ns q z hn hq hz hqz
        rw [← svN_eq hn, anM_gr (f := (upd f (36 + q) (f (36 + q) ^^^ (1 <<< (nI z &&& 31))))) (j := 36 + z) (by omega) (by omega), anM_upd (upd f (36 + q) (f (36 + q) ^^^ (1 <<< (nI z &&& 31)))) _ (show 18 ≤ 36 + z by omega) (by omega)] at hm
        have e3 := (hS.1.1 q hq).1.2.2
        exact ⟨_, _, 0, _, ⟨d, (svE v ns), (svN ns), (anS (gB (gB S q (S 3 q ^^^ (1 <<< (nI z &&& 31)))) z (upd (S 3) q (S 3 q ^^^ (1 <<< (nI z &&& 31))) z ^^^ (1 <<< (nI q &&& 31))))), R, (svZ Z ns S), Y0, Y1, kp, cd, ln, G, pl, kd, fs, V, al, op, wf, bh, ah, tr, h, (anM (upd (upd f (36 + q) (f (36 + q) ^^^ (1 <<< (nI z &&& 31)))) (36 + z) ((upd f (36 + q) (f (36 + q) ^^^ (1 <<< (nI z &&& 31)))) (36 + z) ^^^ (1 <<< (nI q &&& 31))))), asd, sl, kq, (svM sv f ns), tx, dg, rfl, rfl, rfl, rfl, (SR_anew (bar_eq hS.1 hq hz hqz)), (SV_save hn hZ hS), (svN_le hn), hK, hB, hF⟩, fun g => ⟨_, w_bar l D k (d 0 0) ou (nI q) (nI z) _ _ _ g _ _ (A_bar l D k d v ns S R Z Y0 Y1 kp cd (nI ln) G pl kd fs V al op wf bh ah tr q z hn hq hz hqz) rfl (by decide) (by decide) rfl rfl, fun _ => (updL_0 _ _).trans (congrArg Int32.toInt64 (by rw [upd_n _ _ hqz, upd_e, anM_gr (by omega) (by omega), upd_n _ _ (show 36 + q ≠ 36 + z by omega), upd_e, e3]))⟩, OkI.of (hm) ⟨by decide, by decide, rfl, rfl⟩⟩

set_option maxHeartbeats 1000000 in
set_option maxRecDepth 100000 in
theorem P_step (l : Launch) (D : va_G) (k : Nat → ClassId) {x0 h0 : Nat} {th : Int32} {X M : va_W} (hR : Both k x0 h0 th X M) : PP l D k x0 h0 yX4_step wsX4_step yX5_step wsX5_step X M := by
  obtain ⟨d, v, ns, S, R, Z, Y0, Y1, kp, cd, ln, G, pl, kd, fs, V, al, op, wf, bh, ah, tr, h, f, asd, sl, kq, sv, tx, dg, rfl, rfl, rfl, rfl, hS, hZ, hn, hK, hB, hF⟩ := hR
  obtain ⟨nw, hw⟩ := hS.2.2.2
  have hV : GrOK (lsS V S) f := hS.1.1.ls
  have hq := SR_step (op := lsO V S op) hS hV hw
  have hm := c_X5_step l D k h th f asd sl kq sv tx (nI ln) dg ns nw hn hw.2.2.1 hw.1
  rw [← svN_eq hn] at hm
  exact ⟨_, _, 0, _, ⟨d, (svE v ns), (svN ns), (thF S (hvA (S 4) (apL (lsO V S op) 0 (opnL (lsS V S))) (opnL (lsS V S)).length).2 nw).2, R, (svZ Z ns S), Y0, Y1, kp, cd, ln, G, pl, kd, fs, (lsS V S), (lsA V S al), (lsO V S op), wf, bh, ah, tr, h, (stM f nw).2, asd, sl, kq, (svM sv f ns), tx, dg, rfl, rfl, rfl, rfl, (hq.2.1), (SV_save hn hZ hS), (svN_le hn), hK, hB, hF⟩, OkI.cl (A_step l D k d v ns S R Z Y0 Y1 kp cd (nI ln) G pl kd fs V al op wf bh ah tr nw hn hw.2.1 hw.1) (hq.1) ⟨by decide, by decide, rfl, rfl⟩, OkI.of (hm) ⟨by decide, by decide, rfl, rfl⟩⟩

set_option maxHeartbeats 1000000 in
set_option maxRecDepth 100000 in
theorem P_split (l : Launch) (D : va_G) (k : Nat → ClassId) {x0 h0 : Nat} {th : Int32} {X M : va_W} (hR : Both k x0 h0 th X M) : PP l D k x0 h0 yX4_split wsX4_split yX5_split wsX5_split X M := by
  obtain ⟨d, v, ns, S, R, Z, Y0, Y1, kp, cd, ln, G, pl, kd, fs, V, al, op, wf, bh, ah, tr, h, f, asd, sl, kq, sv, tx, dg, rfl, rfl, rfl, rfl, hS, hZ, hn, hK, hB, hF⟩ := hR
  obtain ⟨nw, hw⟩ := hS.2.2.2
  have hV : GrOK (lsS V S) f := hS.1.1.ls
  have hq := SR_split (op := lsO V S op) 13 0 S f hS hV
  have hm := c_X5_split l D k h th f asd sl kq sv tx (nI ln) dg ns nw hn hw.2.2.1 hw.1
  rw [← svN_eq hn] at hm
  exact ⟨_, _, 0, _, ⟨d, (svE v ns), (svN ns), (taF (apL (lsO V S op) 0 (opnL (lsS V S))) (opnL (lsS V S)).length 13 0 S).2, R, (svZ Z ns S), Y0, Y1, kp, cd, ln, G, pl, kd, fs, (lsS V S), (lsA V S al), (lsO V S op), wf, bh, ah, tr, h, (spM 13 0 f).2, asd, sl, kq, (svM sv f ns), tx, dg, rfl, rfl, rfl, rfl, (hq.2), (SV_save hn hZ hS), (svN_le hn), hK, hB, hF⟩, OkI.cl (A_split l D k d v ns S R Z Y0 Y1 kp cd (nI ln) G pl kd fs V al op wf bh ah tr nw hn hw.2.1 hw.1) (congrArg nI hq.1) ⟨by decide, by decide, rfl, rfl⟩, OkI.of (hm) ⟨by decide, by decide, rfl, rfl⟩⟩

set_option maxHeartbeats 1000000 in
set_option maxRecDepth 100000 in
theorem P_begin (l : Launch) (D : va_G) (k : Nat → ClassId) {x0 h0 : Nat} {th : Int32} {X M : va_W} (hR : Both k x0 h0 th X M) : PP l D k x0 h0 yX4_begin wsX4_begin yX5_begin wsX5_begin X M := by
  obtain ⟨d, v, ns, S, R, Z, Y0, Y1, kp, cd, ln, G, pl, kd, fs, V, al, op, wf, bh, ah, tr, h, f, asd, sl, kq, sv, tx, dg, rfl, rfl, rfl, rfl, hS, hZ, hn, hK, hB, hF⟩ := hR
  obtain ⟨nw, hw⟩ := hS.2.2.2
  have hV : GrOK (lsS V S) f := hS.1.1.ls
  have hm := c_X5_begin l D k h th f asd sl kq sv tx (nI ln) dg ns hn
  rw [← svN_eq hn] at hm
  exact ⟨_, _, 0, _, ⟨d, (svE v ns), (svN ns), (anS S), R, (svZ Z ns S), Y0, Y1, kp, cd, ln, G, pl, kd, fs, V, al, op, wf, bh, ah, tr, h, (anM f), asd, sl, kq, (svM sv f ns), tx, dg, rfl, rfl, rfl, rfl, (SR_anew hS.1), (SV_save hn hZ hS), (svN_le hn), hK, hB, hF⟩, OkI.cl (A_begin l D k d v ns S R Z Y0 Y1 kp cd (nI ln) G pl kd fs V al op wf bh ah tr hn) (hw.2.1.trans hw.2.2.1.symm) ⟨by decide, by decide, rfl, rfl⟩, OkI.of (hm) ⟨by decide, by decide, rfl, rfl⟩⟩
