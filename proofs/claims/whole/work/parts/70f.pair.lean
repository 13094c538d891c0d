set_option maxHeartbeats 1000000 in
set_option maxRecDepth 100000 in
theorem P_count (l : Launch) (hfl : l.stackTraces = false) (D : va_G) (k : Nat → ClassId) {x0 h0 : Nat} (ou : Nat) {th : Int32} {X M : va_W} (hR : Both k x0 h0 th X M) (a : Int32) : PW l D k x0 h0 ou yL_count wsL_count yX5_count wsX5_count [.ref x0, .int a, .ref ou] [.ref h0, .int a] X M := by
  obtain ⟨d, v, ns, S, R, Z, Y0, Y1, kp, cd, ln, G, pl, kd, fs, V, al, op, wf, bh, ah, tr, h, f, asd, sl, kq, sv, tx, dg, rfl, rfl, rfl, rfl, hS, hZ, hn, hK, hB, hF⟩ := hR
  cases h1 : inB a 0 11
  · exact ⟨_, _, 1, 0, ⟨d, v, ns, S, R, Z, Y0, Y1, kp, cd, ln, G, pl, kd, fs, V, al, op, wf, bh, ah, tr, h, f, asd, sl, kq, sv, tx, dg, rfl, rfl, rfl, rfl, hS, hZ, hn, hK, hB, hF⟩, fun g => ⟨g, w_count_t1 l D k (d 0 0) ou a _ _ _ g _ _ (MX.wide (t_count_1 l hfl D k (d 0 0) a h1) _) rfl (by decide) (by decide) rfl rfl rfl rfl, fun h9 => absurd h9 (by decide)⟩, OkI.of (c_X5_count_x1 l D k h th f asd sl kq sv (nI ns) tx (nI ln) dg a h1) ⟨by decide, by decide, rfl, rfl⟩⟩
  · obtain ⟨w, hw11, rfl⟩ := inB_ex (b := 11) (by omega) h1
    obtain ⟨nw, hw⟩ := hS.2.2.2
    have hV : GrOK (lsS V S) f := hS.1.1.ls
    rcases (show w = 0 ∨ w = 1 ∨ w = 2 ∨ w = 3 ∨ w = 4 ∨ w = 5 ∨ w = 6 ∨ w = 7 ∨ w = 8 ∨ w = 9 ∨ w = 10 ∨ w = 11 by omega) with rfl | rfl | rfl | rfl | rfl | rfl | rfl | rfl | rfl | rfl | rfl | rfl
    · exact ⟨_, _, 0, _, ⟨d, v, ns, S, R, Z, Y0, Y1, kp, cd, ln, G, pl, kd, fs, V, al, op, wf, bh, ah, tr, h, f, asd, sl, kq, sv, tx, dg, rfl, rfl, rfl, rfl, hS, hZ, hn, hK, hB, hF⟩, fun g => ⟨_, w_count l D k (d 0 0) ou 0 _ _ _ g _ _ (A_count_0 l D k d v (nI ns) S R Z Y0 Y1 kp cd (nI ln) G pl kd fs V al op wf bh ah tr) rfl (by decide) (by decide) rfl rfl, fun _ => (updL_0 _ _).trans (congrArg Int32.toInt64 (GC_joins hS.1.1 9 (Nat.le_refl 9)))⟩, OkI.of (c_X5_count_0 l D k h th f asd sl kq sv (nI ns) tx (nI ln) dg) ⟨by decide, by decide, rfl, rfl⟩⟩
    · exact ⟨_, _, 0, _, ⟨d, v, ns, S, R, Z, Y0, Y1, kp, cd, ln, G, pl, kd, fs, V, al, op, wf, bh, ah, tr, h, f, asd, sl, kq, sv, tx, dg, rfl, rfl, rfl, rfl, hS, hZ, hn, hK, hB, hF⟩, fun g => ⟨_, w_count l D k (d 0 0) ou 1 _ _ _ g _ _ (A_count_1 l D k d v (nI ns) S R Z Y0 Y1 kp cd (nI ln) G pl kd fs V al op wf bh ah tr) rfl (by decide) (by decide) rfl rfl, fun _ => (updL_0 _ _).trans (congrArg Int32.toInt64 (SR_sum0 hS.1 9 (Nat.le_refl 9)))⟩, OkI.of (c_X5_count_1 l D k h th f asd sl kq sv (nI ns) tx (nI ln) dg) ⟨by decide, by decide, rfl, rfl⟩⟩
    · exact ⟨_, _, 0, _, ⟨d, v, ns, S, R, Z, Y0, Y1, kp, cd, ln, G, pl, kd, fs, V, al, op, wf, bh, ah, tr, h, f, asd, sl, kq, sv, tx, dg, rfl, rfl, rfl, rfl, hS, hZ, hn, hK, hB, hF⟩, fun g => ⟨_, w_count l D k (d 0 0) ou 2 _ _ _ g _ _ (A_count_2 l D k d v (nI ns) S R Z Y0 Y1 kp cd (nI ln) G pl kd fs V al op wf bh ah tr) rfl (by decide) (by decide) rfl rfl, fun _ => (updL_0 _ _).trans (congrArg Int32.toInt64 (SR_sum4 hS 9 (Nat.le_refl 9)))⟩, OkI.of (c_X5_count_2 l D k h th f asd sl kq sv (nI ns) tx (nI ln) dg) ⟨by decide, by decide, rfl, rfl⟩⟩
    · exact ⟨_, _, 0, _, ⟨d, v, ns, S, R, Z, Y0, Y1, kp, cd, ln, G, pl, kd, fs, V, al, op, wf, bh, ah, tr, h, f, asd, sl, kq, sv, tx, dg, rfl, rfl, rfl, rfl, hS, hZ, hn, hK, hB, hF⟩, fun g => ⟨_, w_count l D k (d 0 0) ou 3 _ _ _ g _ _ (A_count_3 l D k d v (nI ns) S R Z Y0 Y1 kp cd (nI ln) G pl kd fs V al op wf bh ah tr) rfl (by decide) (by decide) rfl rfl, fun _ => (updL_0 _ _).trans (congrArg Int32.toInt64 (hw.2.1.trans hw.2.2.1.symm))⟩, OkI.of (c_X5_count_3 l D k h th f asd sl kq sv (nI ns) tx (nI ln) dg) ⟨by decide, by decide, rfl, rfl⟩⟩
    · exact ⟨_, _, 0, _, ⟨d, v, ns, S, R, Z, Y0, Y1, kp, cd, ln, G, pl, kd, fs, V, al, op, (dnF (auG (S 2) (S 1)) wf 9), bh, ah, tr, h, f, asd, sl, kq, sv, tx, dg, rfl, rfl, rfl, rfl, hS, hZ, hn, hK, hB, hF⟩, fun g => ⟨_, w_count l D k (d 0 0) ou 4 _ _ _ g _ _ (A_count_4 l D k d v (nI ns) S R Z Y0 Y1 kp cd (nI ln) G pl kd fs V al op wf bh ah tr) rfl (by decide) (by decide) rfl rfl, fun _ => (updL_0 _ _).trans (congrArg Int32.toInt64 (add_up hS.1.1))⟩, OkI.of (c_X5_count_4 l D k h th f asd sl kq sv (nI ns) tx (nI ln) dg) ⟨by decide, by decide, rfl, rfl⟩⟩
    · exact ⟨_, _, 0, _, ⟨d, v, ns, S, R, Z, Y0, Y1, kp, cd, ln, G, pl, kd, fs, (lsS V S), (lsA V S al), (lsO V S op), wf, bh, ah, tr, h, f, asd, sl, kq, sv, tx, dg, rfl, rfl, rfl, rfl, hS, hZ, hn, hK, hB, hF⟩, fun g => ⟨_, w_count l D k (d 0 0) ou 5 _ _ _ g _ _ (A_count_5 l D k d v (nI ns) S R Z Y0 Y1 kp cd (nI ln) G pl kd fs V al op wf bh ah tr) rfl (by decide) (by decide) rfl rfl, fun _ => (updL_0 _ _).trans (congrArg Int32.toInt64 (count_5 hV))⟩, OkI.of (c_X5_count_5 l D k h th f asd sl kq sv (nI ns) tx (nI ln) dg) ⟨by decide, by decide, rfl, rfl⟩⟩
    · exact ⟨_, _, 0, _, ⟨d, v, ns, S, R, Z, Y0, Y1, kp, cd, ln, G, pl, kd, fs, (lsS V S), (lsA V S al), (lsO V S op), wf, bh, ah, tr, h, f, asd, sl, kq, sv, tx, dg, rfl, rfl, rfl, rfl, hS, hZ, hn, hK, hB, hF⟩, fun g => ⟨_, w_count l D k (d 0 0) ou 6 _ _ _ g _ _ (A_count_6 l D k d v (nI ns) S R Z Y0 Y1 kp cd (nI ln) G pl kd fs V al op wf bh ah tr) rfl (by decide) (by decide) rfl rfl, fun _ => (updL_0 _ _).trans (congrArg Int32.toInt64 (count_6 hV))⟩, OkI.of (c_X5_count_6 l D k h th f asd sl kq sv (nI ns) tx (nI ln) dg) ⟨by decide, by decide, rfl, rfl⟩⟩
    · exact ⟨_, _, 0, _, ⟨d, v, ns, S, R, Z, Y0, Y1, kp, cd, ln, G, pl, kd, fs, V, al, op, wf, (bhG (S 2)), (cpS (bhG (S 2)) 9).1, (cpT (bhG (S 2)) tr 9), h, f, asd, sl, kq, sv, tx, dg, rfl, rfl, rfl, rfl, hS, hZ, hn, hK, hB, hF⟩, fun g => ⟨_, w_count l D k (d 0 0) ou 7 _ _ _ g _ _ (A_count_7 l D k d v (nI ns) S R Z Y0 Y1 kp cd (nI ln) G pl kd fs V al op wf bh ah tr) rfl (by decide) (by decide) rfl rfl, fun _ => (updL_0 _ _).trans (congrArg Int32.toInt64 (rows_pairs hS.1.1))⟩, OkI.of (c_X5_count_7 l D k h th f asd sl kq sv (nI ns) tx (nI ln) dg) ⟨by decide, by decide, rfl, rfl⟩⟩
    · exact ⟨_, _, 0, _, ⟨d, v, ns, S, R, Z, Y0, Y1, kp, cd, ln, G, pl, kd, fs, V, al, op, wf, (bhG (S 2)), ah, tr, h, f, asd, sl, kq, sv, tx, dg, rfl, rfl, rfl, rfl, hS, hZ, hn, hK, hB, hF⟩, fun g => ⟨_, w_count l D k (d 0 0) ou 8 _ _ _ g _ _ (A_count_8 l D k d v (nI ns) S R Z Y0 Y1 kp cd (nI ln) G pl kd fs V al op wf bh ah tr) rfl (by decide) (by decide) rfl rfl, fun _ => (updL_0 _ _).trans (congrArg Int32.toInt64 (rows_sets hS.1.1 511 (Nat.le_refl 511)))⟩, OkI.of (c_X5_count_8 l D k h th f asd sl kq sv (nI ns) tx (nI ln) dg) ⟨by decide, by decide, rfl, rfl⟩⟩
    · exact ⟨_, _, 0, _, ⟨d, v, ns, S, R, Z, Y0, Y1, kp, cd, ln, G, pl, kd, fs, V, al, op, wf, bh, ah, tr, h, f, asd, sl, kq, sv, tx, dg, rfl, rfl, rfl, rfl, hS, hZ, hn, hK, hB, hF⟩, fun g => ⟨_, w_count l D k (d 0 0) ou 9 _ _ _ g _ _ (A_count_9 l D k d v (nI ns) S R Z Y0 Y1 kp cd (nI ln) G pl kd fs V al op wf bh ah tr) rfl (by decide) (by decide) rfl rfl, fun _ => (updL_0 _ _).trans (congrArg Int32.toInt64 (hS.1.2.2.1))⟩, OkI.of (c_X5_count_9 l D k h th f asd sl kq sv (nI ns) tx (nI ln) dg) ⟨by decide, by decide, rfl, rfl⟩⟩
    · exact ⟨_, _, 0, _, ⟨d, v, ns, S, R, Z, Y0, Y1, kp, cd, ln, G, pl, kd, fs, V, al, op, wf, bh, ah, tr, h, f, asd, sl, kq, sv, tx, dg, rfl, rfl, rfl, rfl, hS, hZ, hn, hK, hB, hF⟩, fun g => ⟨_, w_count l D k (d 0 0) ou 10 _ _ _ g _ _ (A_count_10 l D k d v (nI ns) S R Z Y0 Y1 kp cd (nI ln) G pl kd fs V al op wf bh ah tr) rfl (by decide) (by decide) rfl rfl, fun _ => (updL_0 _ _).trans (congrArg Int32.toInt64 (hS.1.2.2.2))⟩, OkI.of (c_X5_count_10 l D k h th f asd sl kq sv (nI ns) tx (nI ln) dg) ⟨by decide, by decide, rfl, rfl⟩⟩
    · exact ⟨_, _, 0, _, ⟨d, v, ns, S, R, Z, Y0, Y1, kp, cd, ln, G, pl, kd, fs, V, al, op, wf, bh, ah, tr, h, f, asd, sl, kq, sv, tx, dg, rfl, rfl, rfl, rfl, hS, hZ, hn, hK, hB, hF⟩, fun g => ⟨_, w_count l D k (d 0 0) ou 11 _ _ _ g _ _ (A_count_11 l D k d v (nI ns) S R Z Y0 Y1 kp cd (nI ln) G pl kd fs V al op wf bh ah tr) rfl (by decide) (by decide) rfl rfl, fun _ => (updL_0 _ _).trans (congrArg Int32.toInt64 (rfl))⟩, OkI.of (c_X5_count_11 l D k h th f asd sl kq sv (nI ns) tx (nI ln) dg) ⟨by decide, by decide, rfl, rfl⟩⟩

set_option maxHeartbeats 1000000 in
set_option maxRecDepth 100000 in
theorem P_heaviest (l : Launch) (hfl : l.stackTraces = false) (D : va_G) (k : Nat → ClassId) {x0 h0 : Nat} (ou : Nat) {th : Int32} {X M : va_W} (hR : Both k x0 h0 th X M) (a : Int32) : PW l D k x0 h0 ou yL_heaviest wsL_heaviest yX5_heaviest wsX5_heaviest [.ref x0, .int a, .ref ou] [.ref h0, .int a] X M := by
  obtain ⟨d, v, ns, S, R, Z, Y0, Y1, kp, cd, ln, G, pl, kd, fs, V, al, op, wf, bh, ah, tr, h, f, asd, sl, kq, sv, tx, dg, rfl, rfl, rfl, rfl, hS, hZ, hn, hK, hB, hF⟩ := hR
  cases h1 : inB a 0 1
  · exact ⟨_, _, 1, 0, ⟨d, v, ns, S, R, Z, Y0, Y1, kp, cd, ln, G, pl, kd, fs, V, al, op, wf, bh, ah, tr, h, f, asd, sl, kq, sv, tx, dg, rfl, rfl, rfl, rfl, hS, hZ, hn, hK, hB, hF⟩, fun g => ⟨g, w_heaviest_t1 l D k (d 0 0) ou a _ _ _ g _ _ (MX.wide (t_heaviest_1 l hfl D k (d 0 0) a h1) _) rfl (by decide) (by decide) rfl rfl rfl rfl, fun h9 => absurd h9 (by decide)⟩, OkI.of (c_X5_heaviest_x1 l D k h th f asd sl kq sv (nI ns) tx (nI ln) dg a h1) ⟨by decide, by decide, rfl, rfl⟩⟩
  · obtain ⟨w, hw1, rfl⟩ := inB_ex (b := 1) (by omega) h1
    have hV : GrOK (lsS V S) f := hS.1.1.ls
    rcases (show w = 0 ∨ w = 1 by omega) with rfl | rfl
    · exact ⟨_, _, 0, _, ⟨d, v, ns, S, R, Z, Y0, Y1, kp, cd, ln, G, pl, kd, fs, (lsS V S), (lsA V S al), (lsO V S op), wf, bh, ah, tr, h, f, asd, sl, kq, sv, tx, dg, rfl, rfl, rfl, rfl, hS, hZ, hn, hK, hB, hF⟩, fun g => ⟨_, w_heaviest l D k (d 0 0) ou 0 _ _ _ g _ _ (A_heaviest_0 l D k d v (nI ns) S R Z Y0 Y1 kp cd (nI ln) G pl kd fs V al op wf bh ah tr) rfl (by decide) (by decide) rfl rfl, fun _ => (updL_0 _ _).trans (congrArg Int32.toInt64 (heavy_0 hV hS.rs))⟩, OkI.of (c_X5_heaviest_0 l D k h th f asd sl kq sv (nI ns) tx (nI ln) dg) ⟨by decide, by decide, rfl, rfl⟩⟩
    · exact ⟨_, _, 0, _, ⟨d, v, ns, S, R, Z, Y0, Y1, kp, cd, ln, G, pl, kd, fs, (lsS V S), (lsA V S al), (lsO V S op), wf, bh, ah, tr, h, f, asd, sl, kq, sv, tx, dg, rfl, rfl, rfl, rfl, hS, hZ, hn, hK, hB, hF⟩, fun g => ⟨_, w_heaviest l D k (d 0 0) ou 1 _ _ _ g _ _ (A_heaviest_1 l D k d v (nI ns) S R Z Y0 Y1 kp cd (nI ln) G pl kd fs V al op wf bh ah tr) rfl (by decide) (by decide) rfl rfl, fun _ => (updL_0 _ _).trans (congrArg Int32.toInt64 (heavy_1 hV hS.rs))⟩, OkI.of (c_X5_heaviest_1 l D k h th f asd sl kq sv (nI ns) tx (nI ln) dg) ⟨by decide, by decide, rfl, rfl⟩⟩

set_option maxHeartbeats 1000000 in
set_option maxRecDepth 100000 in
theorem P_openWay (l : Launch) (hfl : l.stackTraces = false) (D : va_G) (k : Nat → ClassId) {x0 h0 : Nat} (ou : Nat) {th : Int32} {X M : va_W} (hR : Both k x0 h0 th X M) (a : Int32) : PW l D k x0 h0 ou yL_openWay wsL_openWay yX5_openWay wsX5_openWay [.ref x0, .int a, .ref ou] [.ref h0, .int a] X M := by
  obtain ⟨d, v, ns, S, R, Z, Y0, Y1, kp, cd, ln, G, pl, kd, fs, V, al, op, wf, bh, ah, tr, h, f, asd, sl, kq, sv, tx, dg, rfl, rfl, rfl, rfl, hS, hZ, hn, hK, hB, hF⟩ := hR
  by_cases h1 : a < 0
  · exact ⟨_, _, 1, 0, ⟨d, v, ns, S, R, Z, Y0, Y1, kp, cd, ln, G, pl, kd, fs, V, al, op, wf, bh, ah, tr, h, f, asd, sl, kq, sv, tx, dg, rfl, rfl, rfl, rfl, hS, hZ, hn, hK, hB, hF⟩, fun g => ⟨g, w_openWay_t1 l D k (d 0 0) ou a _ _ _ g _ _ (MX.wide (t_openWay_1 l hfl D k (d 0 0) a h1) _) rfl (by decide) (by decide) rfl rfl rfl rfl, fun h9 => absurd h9 (by decide)⟩, OkI.of (c_X5_openWay_x1 l D k h th f asd sl kq sv (nI ns) tx (nI ln) dg a h1) ⟨by decide, by decide, rfl, rfl⟩⟩
  · have h1' := h1
    obtain ⟨r, hr, rfl⟩ := nI_of h1
    have hV : GrOK (lsS V S) f := hS.1.1.ls
    exact ⟨_, _, 0, _, ⟨d, v, ns, S, R, Z, Y0, Y1, kp, cd, ln, G, pl, kd, fs, (lsS V S), (lsA V S al), (lsO V S op), wf, bh, ah, tr, h, f, asd, sl, kq, sv, tx, dg, rfl, rfl, rfl, rfl, hS, hZ, hn, hK, hB, hF⟩, fun g => ⟨_, w_openWay l D k (d 0 0) ou (nI r) _ _ _ g _ _ (A_openWay l D k d v (nI ns) S R Z Y0 Y1 kp cd (nI ln) G pl kd fs V al op wf bh ah tr r hr) rfl (by decide) (by decide) rfl rfl, fun _ => (updL_0 _ _).trans (congrArg Int32.toInt64 (open_eq hV hr))⟩, OkI.of (c_X5_openWay l D k h th f asd sl kq sv (nI ns) tx (nI ln) dg (nI r) h1') ⟨by decide, by decide, rfl, rfl⟩⟩

set_option maxHeartbeats 1000000 in
set_option maxRecDepth 100000 in
theorem P_mainPiece (l : Launch) (D : va_G) (k : Nat → ClassId) {x0 h0 : Nat} {th : Int32} {X M : va_W} (hR : Both k x0 h0 th X M) : PP l D k x0 h0 yX4_mainPiece wsX4_mainPiece yX5_mainPiece wsX5_mainPiece X M := by
  obtain ⟨d, v, ns, S, R, Z, Y0, Y1, kp, cd, ln, G, pl, kd, fs, V, al, op, wf, bh, ah, tr, h, f, asd, sl, kq, sv, tx, dg, rfl, rfl, rfl, rfl, hS, hZ, hn, hK, hB, hF⟩ := hR
  have hV : GrOK (lsS V S) f := hS.1.1.ls
  exact ⟨_, _, 0, _, ⟨d, v, ns, S, R, Z, Y0, Y1, kp, cd, ln, G, pl, kd, fs, (lsS V S), (lsA V S al), (lsO V S op), wf, bh, ah, tr, h, f, asd, sl, kq, sv, tx, dg, rfl, rfl, rfl, rfl, hS, hZ, hn, hK, hB, hF⟩, OkI.cl (A_mainPiece l D k d v (nI ns) S R Z Y0 Y1 kp cd (nI ln) G pl kd fs V al op wf bh ah tr) (congrArg Prod.fst (main_i hV 9 (Nat.le_refl 9))) ⟨by decide, by decide, rfl, rfl⟩, OkI.of (c_X5_mainPiece l D k h th f asd sl kq sv (nI ns) tx (nI ln) dg) ⟨by decide, by decide, rfl, rfl⟩⟩

set_option maxHeartbeats 1000000 in
set_option maxRecDepth 100000 in
theorem P_ifSplit (l : Launch) (D : va_G) (k : Nat → ClassId) {x0 h0 : Nat} {th : Int32} {X M : va_W} (hR : Both k x0 h0 th X M) : PP l D k x0 h0 yX4_ifSplit wsX4_ifSplit yX5_ifSplit wsX5_ifSplit X M := by
  obtain ⟨d, v, ns, S, R, Z, Y0, Y1, kp, cd, ln, G, pl, kd, fs, V, al, op, wf, bh, ah, tr, h, f, asd, sl, kq, sv, tx, dg, rfl, rfl, rfl, rfl, hS, hZ, hn, hK, hB, hF⟩ := hR
  obtain ⟨nw, hw⟩ := hS.2.2.2
  have hV : GrOK (lsS V S) f := hS.1.1.ls
  have hq := SR_split (op := lsO V S op) 13 0 S f hS hV
  exact ⟨_, _, 0, _, ⟨d, v, ns, S, (taF (apL (lsO V S op) 0 (opnL (lsS V S))) (opnL (lsS V S)).length 13 0 S).2, Z, Y0, Y1, kp, cd, ln, G, pl, kd, fs, (lsS V S), (lsA V S al), (lsO V S op), wf, bh, ah, tr, h, f, f, sl, kq, sv, tx, dg, rfl, rfl, rfl, rfl, hS, hZ, hn, hK, hB, hF⟩, OkI.cl (A_ifSplit l D k d v (nI ns) S R Z Y0 Y1 kp cd (nI ln) G pl kd fs V al op wf bh ah tr nw hw.2.1 hw.1) (SR_sum4 hq.2 9 (Nat.le_refl 9)) ⟨by decide, by decide, rfl, rfl⟩, OkI.of (c_X5_ifSplit l D k h th f asd sl kq sv (nI ns) tx (nI ln) dg nw hw.2.2.1 hw.1) ⟨by decide, by decide, rfl, rfl⟩⟩

theorem expl_eq {S : Nat → Nat → Int32} {f : Nat → Int32} (h : SR S f) : (¬ smM f 0 9 = 0 → vf_n64 (shF (smM f 0 9) (smM f 9 9))) ∧ (¬ smF (S 0) 9 ≤ 0 → vf_n64 (shF (smF (S 0) 9) (smF (S 4) 9))) ∧ shX (smF (S 0) 9) (smF (S 4) 9) = shM (smM f 0 9) (smM f 9 9) := by
  obtain ⟨a, b, h1, h2, h3, h4⟩ := sum_n h 9 (Nat.le_refl 9)
  have e0 := SR_sum0 h.1 9 (Nat.le_refl 9)
  have e4 := SR_sum4 h 9 (Nat.le_refl 9)
  obtain ⟨nb, s1, s2, -⟩ := share_all h1 (show a < 8992 by omega)
  rw [← h3, ← h4] at s1 s2
  refine ⟨s1, fun h9 => ?_, by rw [e0, e4, s2]⟩
  rw [e0, e4]
  refine s1 (fun h8 => h9 ?_)
  rw [e0, h8]
  decide +kernel

set_option maxHeartbeats 1000000 in
set_option maxRecDepth 100000 in
theorem P_explained (l : Launch) (D : va_G) (k : Nat → ClassId) {x0 h0 : Nat} {th : Int32} {X M : va_W} (hR : Both k x0 h0 th X M) : PPd l D k x0 h0 yX4_explained wsX4_explained yX5_explained wsX5_explained X M := by
  obtain ⟨d, v, ns, S, R, Z, Y0, Y1, kp, cd, ln, G, pl, kd, fs, V, al, op, wf, bh, ah, tr, h, f, asd, sl, kq, sv, tx, dg, rfl, rfl, rfl, rfl, hS, hZ, hn, hK, hB, hF⟩ := hR
  obtain ⟨s1, s2, s3⟩ := expl_eq hS
  exact ⟨_, _, 0, _, ⟨d, v, ns, S, R, Z, Y0, Y1, kp, cd, ln, G, pl, kd, fs, V, al, op, wf, bh, ah, tr, h, f, asd, sl, kq, sv, tx, dg, rfl, rfl, rfl, rfl, hS, hZ, hn, hK, hB, hF⟩, OkD.cl (A_explained l D k d v (nI ns) S R Z Y0 Y1 kp cd (nI ln) G pl kd fs V al op wf bh ah tr s2) (s3) ⟨by decide, by decide, rfl, rfl⟩, OkD.of (c_X5_explained l D k h th f asd sl kq sv (nI ns) tx (nI ln) dg s1) ⟨by decide, by decide, rfl, rfl⟩⟩

set_option maxHeartbeats 1000000 in
set_option maxRecDepth 100000 in
theorem P_digest (l : Launch) (D : va_G) (k : Nat → ClassId) {x0 h0 : Nat} {th : Int32} {X M : va_W} (hR : Both k x0 h0 th X M) : PPl l D k x0 h0 yX4_digest wsX4_digest yX5_digest wsX5_digest X M := by
  obtain ⟨d, v, ns, S, R, Z, Y0, Y1, kp, cd, ln, G, pl, kd, fs, V, al, op, wf, bh, ah, tr, h, f, asd, sl, kq, sv, tx, dg, rfl, rfl, rfl, rfl, hS, hZ, hn, hK, hB, hF⟩ := hR
  obtain ⟨nw, hw⟩ := hS.2.2.2
  have hV : GrOK (lsS V S) f := hS.1.1.ls
  obtain ⟨nb, s1, s2, s3, s4, s5⟩ := digest_eq (V := V) hS hw hB.2 hK.1.1 hK.1.2 al op (nI ns)
  exact ⟨_, _, 0, _, ⟨d, v, ns, S, (taF (apL (lsO V S op) 0 (opnL (lsS V S))) (opnL (lsS V S)).length 13 0 S).2, Z, Y0, Y1, kp, cd, ln, G, pl, kd, fs, (lsS V S), (lsA V S al), (lsO V S op), (dnF (auG (S 2) (S 1)) wf 9), (bhG (S 2)), (cpS (bhG (S 2)) 9).1, (cpT (bhG (S 2)) tr 9), h, f, f, sl, kq, sv, tx, (dgB tx (dgT f kq nw nb (dgN f nw (dgQ f (dgC f (nI ns) 3617)) (3 * nw)) ln) ln), rfl, rfl, rfl, rfl, hS, hZ, hn, hK, hB, hF⟩, OkL.cl (A_digest l D k d v (nI ns) S R Z Y0 Y1 kp cd ln G pl kd fs V al op wf bh ah tr nw nb hB.1 hw.2.1 hw.1 s3 s4) (s5) ⟨by decide, by decide, rfl, rfl⟩, OkL.of (c_X5_digest l D k h th f asd sl kq sv (nI ns) tx ln dg nw nb hB.1 hw.2.2.1 hw.1 s1 s2) ⟨by decide, by decide, rfl, rfl⟩⟩
