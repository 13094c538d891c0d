/-! P27 5: the object, as the law sees it -/
def OX (k : Nat → ClassId) (x0 ns : Nat) (S : Nat → Nat → Int32) (Z : Nat → Nat → Nat → Int32) (Y0 : Nat → Nat → Int32) (k0 : Int32) (X : va_W) : Prop :=
  ∃ (d v : Nat → Nat → Nat) (R Y1 : Nat → Nat → Int32) (kp cd : Nat → Int32) (ln : Int32) (G : Nat → Nat → Int32) (pl : Int32) (kd : Int32 × Int32) (fs : Int32) (V : Nat → Nat → Int32) (al op wf bh ah : Nat → Int32) (tr : Int32),
    d 0 0 = x0 ∧ kp 0 = k0 ∧ X = wAll k d v (nI ns) S R Z Y0 Y1 kp cd ln G pl kd fs V al op wf bh ah tr
theorem OX.at0 {k : Nat → ClassId} {x0 ns : Nat} {S : Nat → Nat → Int32} {Z : Nat → Nat → Nat → Int32} {Y0 : Nat → Nat → Int32} {k0 : Int32} {X : va_W} (h : OX k x0 ns S Z Y0 k0 X) : ∃ fs, X[0]? = some (x0, .inr (4, fs)) := by
  obtain ⟨d, v, R, Y1, kp, cd, ln, G, pl, kd, fs, V, al, op, wf, bh, ah, tr, rfl, -, rfl⟩ := h
  exact ⟨_, rfl⟩
def rmOK (rm : Room) : Prop := rm.frames ≤ 30 ∧ rm.locals ≤ 800 ∧ rm.cells = 0 ∧ rm.slots = 0
def OkI (l : Launch) (D : va_G) (k : Nat → ClassId) (y : MethodName) (wy : List Cond) (av : List Value) (X : va_W) (r : Int32) (X' : va_W) : Prop := ∃ rm : Room, rmOK rm ∧ MYi l y wy rm D k av X r X'
def OkD (l : Launch) (D : va_G) (k : Nat → ClassId) (y : MethodName) (wy : List Cond) (av : List Value) (X : va_W) (r : UInt64) (X' : va_W) : Prop := ∃ rm : Room, rmOK rm ∧ MYd l y wy rm D k av X r X'
theorem OkI.cl {l : Launch} {D : va_G} {k : Nat → ClassId} {y : MethodName} {wy : List Cond} {av : List Value} {rm : Room} {X X' : va_W} {r r' : Int32} (h : MYi l y wy rm D k av X r X') (e : r = r') (hr : rmOK rm) : OkI l D k y wy av X r' X' := ⟨rm, hr, e ▸ h⟩
theorem OkD.cl {l : Launch} {D : va_G} {k : Nat → ClassId} {y : MethodName} {wy : List Cond} {av : List Value} {rm : Room} {X X' : va_W} {r r' : UInt64} (h : MYd l y wy rm D k av X r X') (e : r = r') (hr : rmOK rm) : OkD l D k y wy av X r' X' := ⟨rm, hr, e ▸ h⟩
theorem svN_le {n : Nat} (h : n ≤ 6) : svN n ≤ 6 ∧ 1 ≤ svN n := by
  rcases (show n = 0 ∨ n = 1 ∨ n = 2 ∨ n = 3 ∨ n = 4 ∨ n = 5 ∨ n = 6 by omega) with rfl | rfl | rfl | rfl | rfl | rfl | rfl <;> decide
theorem svZ_top {n : Nat} (h : n ≤ 6) (Z : Nat → Nat → Nat → Int32) (S : Nat → Nat → Int32) : svZ Z n S (svN n - 1) = S := by
  rcases (show n = 0 ∨ n = 1 ∨ n = 2 ∨ n = 3 ∨ n = 4 ∨ n = 5 ∨ n = 6 by omega) with rfl | rfl | rfl | rfl | rfl | rfl | rfl <;> rfl
theorem expl_eq {S : Nat → Nat → Int32} {f : Nat → Int32} (h : SR S f) : (¬ smF (S 0) 9 = 0 → vf_n64 (shF (smF (S 0) 9) (smF (S 4) 9))) ∧ (¬ smF (S 0) 9 ≤ 0 → vf_n64 (shF (smF (S 0) 9) (smF (S 4) 9))) ∧ shX (smF (S 0) 9) (smF (S 4) 9) = shM (smF (S 0) 9) (smF (S 4) 9) := by
  obtain ⟨a, b, h1, h2, h3, h4⟩ := sum_n h 9 (Nat.le_refl 9)
  have e0 := SR_sum0 h.1 9 (Nat.le_refl 9)
  have e4 := SR_sum4 h 9 (Nat.le_refl 9)
  obtain ⟨s1, s2⟩ := share_ok h1 (show a < 8992 by omega)
  rw [← h3, ← h4] at s1 s2
  rw [e0, e4]
  refine ⟨s1, fun h9 => s1 (fun h8 => h9 ?_), s2⟩
  rw [h8]
  decide +kernel
section OBJ
variable {l : Launch} {D : va_G} {k : Nat → ClassId} {x0 ns : Nat} {S : Nat → Nat → Int32} {Z : Nat → Nat → Nat → Int32} {Y0 : Nat → Nat → Int32} {k0 : Int32} {X : va_W} {f : Nat → Int32}
theorem o_pieceOf_0 (hS : SR S f) (hO : OX k x0 ns S Z Y0 k0 X) {q : Nat} (hq : q < 9) : ∃ X2, OX k x0 ns S Z Y0 k0 X2 ∧ OkI l D k yX4_pieceOf wsX4_pieceOf [.ref x0, .int (nI q), .int 0] X (S 0 q) X2 := by
  obtain ⟨d, v, R, Y1, kp, cd, ln, G, pl, kd, fs, V, al, op, wf, bh, ah, tr, rfl, rfl, rfl⟩ := hO
  exact ⟨_, ⟨d, v, R, Y1, kp, cd, ln, G, pl, kd, fs, V, al, op, wf, bh, ah, tr, rfl, rfl, rfl⟩, OkI.cl (A_pieceOf_0 l D k d v (nI ns) S R Z Y0 Y1 kp cd ln G pl kd fs V al op wf bh ah tr q hq) (rfl) ⟨by decide, by decide, rfl, rfl⟩⟩
theorem o_pieceOf_1 (hS : SR S f) (hO : OX k x0 ns S Z Y0 k0 X) {q : Nat} (hq : q < 9) : ∃ X2, OX k x0 ns S Z Y0 k0 X2 ∧ OkI l D k yX4_pieceOf wsX4_pieceOf [.ref x0, .int (nI q), .int 1] X (S 4 q) X2 := by
  obtain ⟨d, v, R, Y1, kp, cd, ln, G, pl, kd, fs, V, al, op, wf, bh, ah, tr, rfl, rfl, rfl⟩ := hO
  exact ⟨_, ⟨d, v, R, Y1, kp, cd, ln, G, pl, kd, fs, V, al, op, wf, bh, ah, tr, rfl, rfl, rfl⟩, OkI.cl (A_pieceOf_1 l D k d v (nI ns) S R Z Y0 Y1 kp cd ln G pl kd fs V al op wf bh ah tr q hq) (rfl) ⟨by decide, by decide, rfl, rfl⟩⟩
theorem o_pieceOf_2 (hS : SR S f) (hO : OX k x0 ns S Z Y0 k0 X) {q : Nat} (hq : q < 9) : ∃ X2, OX k x0 ns S Z Y0 k0 X2 ∧ OkI l D k yX4_pieceOf wsX4_pieceOf [.ref x0, .int (nI q), .int 2] X (S 1 q) X2 := by
  obtain ⟨d, v, R, Y1, kp, cd, ln, G, pl, kd, fs, V, al, op, wf, bh, ah, tr, rfl, rfl, rfl⟩ := hO
  exact ⟨_, ⟨d, v, R, Y1, kp, cd, ln, G, pl, kd, fs, V, al, op, wf, bh, ah, tr, rfl, rfl, rfl⟩, OkI.cl (A_pieceOf_2 l D k d v (nI ns) S R Z Y0 Y1 kp cd ln G pl kd fs V al op wf bh ah tr q hq) (rfl) ⟨by decide, by decide, rfl, rfl⟩⟩
theorem o_pieceOf_3 (hS : SR S f) (hO : OX k x0 ns S Z Y0 k0 X) {q : Nat} (hq : q < 9) : ∃ X2, OX k x0 ns S Z Y0 k0 X2 ∧ OkI l D k yX4_pieceOf wsX4_pieceOf [.ref x0, .int (nI q), .int 3] X (cjtF (S 2) (nI q) 9) X2 := by
  obtain ⟨d, v, R, Y1, kp, cd, ln, G, pl, kd, fs, V, al, op, wf, bh, ah, tr, rfl, rfl, rfl⟩ := hO
  exact ⟨_, ⟨d, v, R, Y1, kp, cd, ln, G, pl, kd, fs, V, al, op, wf, bh, ah, tr, rfl, rfl, rfl⟩, OkI.cl (A_pieceOf_3 l D k d v (nI ns) S R Z Y0 Y1 kp cd ln G pl kd fs V al op wf bh ah tr q hq) (rfl) ⟨by decide, by decide, rfl, rfl⟩⟩
theorem o_pieceOf_4 (hS : SR S f) (hO : OX k x0 ns S Z Y0 k0 X) {q : Nat} (hq : q < 9) : ∃ X2, OX k x0 ns S Z Y0 k0 X2 ∧ OkI l D k yX4_pieceOf wsX4_pieceOf [.ref x0, .int (nI q), .int 4] X (bcF (S 2 q)) X2 := by
  obtain ⟨d, v, R, Y1, kp, cd, ln, G, pl, kd, fs, V, al, op, wf, bh, ah, tr, rfl, rfl, rfl⟩ := hO
  exact ⟨_, ⟨d, v, R, Y1, kp, cd, ln, G, pl, kd, fs, V, al, op, wf, bh, ah, tr, rfl, rfl, rfl⟩, OkI.cl (A_pieceOf_4 l D k d v (nI ns) S R Z Y0 Y1 kp cd ln G pl kd fs V al op wf bh ah tr q hq) (rfl) ⟨by decide, by decide, rfl, rfl⟩⟩
theorem o_pieceOf_5 (hS : SR S f) (hO : OX k x0 ns S Z Y0 k0 X) {q : Nat} (hq : q < 9) : ∃ X2, OX k x0 ns S Z Y0 k0 X2 ∧ OkI l D k yX4_pieceOf wsX4_pieceOf [.ref x0, .int (nI q), .int 5] X (bcF (bhG (S 2) q)) X2 := by
  obtain ⟨d, v, R, Y1, kp, cd, ln, G, pl, kd, fs, V, al, op, wf, bh, ah, tr, rfl, rfl, rfl⟩ := hO
  exact ⟨_, ⟨d, v, R, Y1, kp, cd, ln, G, pl, kd, fs, V, al, op, wf, (bhG (S 2)), ah, tr, rfl, rfl, rfl⟩, OkI.cl (A_pieceOf_5 l D k d v (nI ns) S R Z Y0 Y1 kp cd ln G pl kd fs V al op wf bh ah tr q hq) (rfl) ⟨by decide, by decide, rfl, rfl⟩⟩
theorem o_pieceOf_6 (hS : SR S f) (hO : OX k x0 ns S Z Y0 k0 X) {q : Nat} (hq : q < 9) : ∃ X2, OX k x0 ns S Z Y0 k0 X2 ∧ OkI l D k yX4_pieceOf wsX4_pieceOf [.ref x0, .int (nI q), .int 6] X (wyF f (1 <<< (nI q &&& 31)) false 511) X2 := by
  obtain ⟨d, v, R, Y1, kp, cd, ln, G, pl, kd, fs, V, al, op, wf, bh, ah, tr, rfl, rfl, rfl⟩ := hO
  exact ⟨_, ⟨d, v, R, Y1, kp, cd, ln, G, pl, kd, fs, (lsS V S), (lsA V S al), (lsO V S op), wf, bh, ah, tr, rfl, rfl, rfl⟩, OkI.cl (A_pieceOf_6 l D k d v (nI ns) S R Z Y0 Y1 kp cd ln G pl kd fs V al op wf bh ah tr q hq) (piece_6 (al := lsA V S al) hS.1.1.ls hq) ⟨by decide, by decide, rfl, rfl⟩⟩
theorem o_pieceOf_7 (hS : SR S f) (hO : OX k x0 ns S Z Y0 k0 X) {q : Nat} (hq : q < 9) : ∃ X2, OX k x0 ns S Z Y0 k0 X2 ∧ OkI l D k yX4_pieceOf wsX4_pieceOf [.ref x0, .int (nI q), .int 7] X (S 3 q) X2 := by
  obtain ⟨d, v, R, Y1, kp, cd, ln, G, pl, kd, fs, V, al, op, wf, bh, ah, tr, rfl, rfl, rfl⟩ := hO
  exact ⟨_, ⟨d, v, R, Y1, kp, cd, ln, G, pl, kd, fs, V, al, op, wf, bh, ah, tr, rfl, rfl, rfl⟩, OkI.cl (A_pieceOf_7 l D k d v (nI ns) S R Z Y0 Y1 kp cd ln G pl kd fs V al op wf bh ah tr q hq) (rfl) ⟨by decide, by decide, rfl, rfl⟩⟩
theorem o_isJoined (hS : SR S f) (hO : OX k x0 ns S Z Y0 k0 X) {q z : Nat} (hq : q < 9) (hz : z < 9) : ∃ X2, OX k x0 ns S Z Y0 k0 X2 ∧ OkI l D k yX4_isJoined wsX4_isJoined [.ref x0, .int (nI q), .int (nI z)] X (bitv (S 2 q) (nI z)) X2 := by
  obtain ⟨d, v, R, Y1, kp, cd, ln, G, pl, kd, fs, V, al, op, wf, bh, ah, tr, rfl, rfl, rfl⟩ := hO
  exact ⟨_, ⟨d, v, R, Y1, kp, cd, ln, G, pl, kd, fs, V, al, op, wf, bh, ah, tr, rfl, rfl, rfl⟩, OkI.cl (A_isJoined l D k d v (nI ns) S R Z Y0 Y1 kp cd ln G pl kd fs V al op wf bh ah tr q z hq hz) (rfl) ⟨by decide, by decide, rfl, rfl⟩⟩
theorem o_noted_0 (hS : SR S f) (hO : OX k x0 ns S Z Y0 k0 X) {r nw : Nat} (hr : r < 2 ^ 31) (hn : S 7 0 = nI nw) (hn2 : nw ≤ 12) : ∃ X2, OX k x0 ns S Z Y0 k0 X2 ∧ OkI l D k yX4_noted wsX4_noted [.ref x0, .int (nI r), .int 0] X (ntF S nw r (S 5 r)) X2 := by
  obtain ⟨d, v, R, Y1, kp, cd, ln, G, pl, kd, fs, V, al, op, wf, bh, ah, tr, rfl, rfl, rfl⟩ := hO
  exact ⟨_, ⟨d, v, R, Y1, kp, cd, ln, G, pl, kd, fs, V, al, op, wf, bh, ah, tr, rfl, rfl, rfl⟩, OkI.cl (A_noted_0 l D k d v (nI ns) S R Z Y0 Y1 kp cd ln G pl kd fs V al op wf bh ah tr r nw hr hn hn2) (rfl) ⟨by decide, by decide, rfl, rfl⟩⟩
theorem o_noted_1 (hS : SR S f) (hO : OX k x0 ns S Z Y0 k0 X) {r nw : Nat} (hr : r < 2 ^ 31) (hn : S 7 0 = nI nw) (hn2 : nw ≤ 12) : ∃ X2, OX k x0 ns S Z Y0 k0 X2 ∧ OkI l D k yX4_noted wsX4_noted [.ref x0, .int (nI r), .int 1] X (ntF S nw r (S 6 r)) X2 := by
  obtain ⟨d, v, R, Y1, kp, cd, ln, G, pl, kd, fs, V, al, op, wf, bh, ah, tr, rfl, rfl, rfl⟩ := hO
  exact ⟨_, ⟨d, v, R, Y1, kp, cd, ln, G, pl, kd, fs, V, al, op, wf, bh, ah, tr, rfl, rfl, rfl⟩, OkI.cl (A_noted_1 l D k d v (nI ns) S R Z Y0 Y1 kp cd ln G pl kd fs V al op wf bh ah tr r nw hr hn hn2) (rfl) ⟨by decide, by decide, rfl, rfl⟩⟩
theorem o_noted_2 (hS : SR S f) (hO : OX k x0 ns S Z Y0 k0 X) {r nw : Nat} (hr : r < 2 ^ 31) (hn : S 7 0 = nI nw) (hn2 : nw ≤ 12) : ∃ X2, OX k x0 ns S Z Y0 k0 X2 ∧ OkI l D k yX4_noted wsX4_noted [.ref x0, .int (nI r), .int 2] X (ntF S nw r (bcF (S 6 r))) X2 := by
  obtain ⟨d, v, R, Y1, kp, cd, ln, G, pl, kd, fs, V, al, op, wf, bh, ah, tr, rfl, rfl, rfl⟩ := hO
  exact ⟨_, ⟨d, v, R, Y1, kp, cd, ln, G, pl, kd, fs, V, al, op, wf, bh, ah, tr, rfl, rfl, rfl⟩, OkI.cl (A_noted_2 l D k d v (nI ns) S R Z Y0 Y1 kp cd ln G pl kd fs V al op wf bh ah tr r nw hr hn hn2) (rfl) ⟨by decide, by decide, rfl, rfl⟩⟩
theorem o_count_0 (hS : SR S f) (hO : OX k x0 ns S Z Y0 k0 X) : ∃ X2, OX k x0 ns S Z Y0 k0 X2 ∧ OkI l D k yX4_count wsX4_count [.ref x0, .int 0] X (cjF (S 2) 9) X2 := by
  obtain ⟨d, v, R, Y1, kp, cd, ln, G, pl, kd, fs, V, al, op, wf, bh, ah, tr, rfl, rfl, rfl⟩ := hO
  exact ⟨_, ⟨d, v, R, Y1, kp, cd, ln, G, pl, kd, fs, V, al, op, wf, bh, ah, tr, rfl, rfl, rfl⟩, OkI.cl (A_count_0 l D k d v (nI ns) S R Z Y0 Y1 kp cd ln G pl kd fs V al op wf bh ah tr) (rfl) ⟨by decide, by decide, rfl, rfl⟩⟩
theorem o_count_1 (hS : SR S f) (hO : OX k x0 ns S Z Y0 k0 X) : ∃ X2, OX k x0 ns S Z Y0 k0 X2 ∧ OkI l D k yX4_count wsX4_count [.ref x0, .int 1] X (smF (S 0) 9) X2 := by
  obtain ⟨d, v, R, Y1, kp, cd, ln, G, pl, kd, fs, V, al, op, wf, bh, ah, tr, rfl, rfl, rfl⟩ := hO
  exact ⟨_, ⟨d, v, R, Y1, kp, cd, ln, G, pl, kd, fs, V, al, op, wf, bh, ah, tr, rfl, rfl, rfl⟩, OkI.cl (A_count_1 l D k d v (nI ns) S R Z Y0 Y1 kp cd ln G pl kd fs V al op wf bh ah tr) (rfl) ⟨by decide, by decide, rfl, rfl⟩⟩
theorem o_count_2 (hS : SR S f) (hO : OX k x0 ns S Z Y0 k0 X) : ∃ X2, OX k x0 ns S Z Y0 k0 X2 ∧ OkI l D k yX4_count wsX4_count [.ref x0, .int 2] X (smF (S 4) 9) X2 := by
  obtain ⟨d, v, R, Y1, kp, cd, ln, G, pl, kd, fs, V, al, op, wf, bh, ah, tr, rfl, rfl, rfl⟩ := hO
  exact ⟨_, ⟨d, v, R, Y1, kp, cd, ln, G, pl, kd, fs, V, al, op, wf, bh, ah, tr, rfl, rfl, rfl⟩, OkI.cl (A_count_2 l D k d v (nI ns) S R Z Y0 Y1 kp cd ln G pl kd fs V al op wf bh ah tr) (rfl) ⟨by decide, by decide, rfl, rfl⟩⟩
theorem o_count_3 (hS : SR S f) (hO : OX k x0 ns S Z Y0 k0 X) : ∃ X2, OX k x0 ns S Z Y0 k0 X2 ∧ OkI l D k yX4_count wsX4_count [.ref x0, .int 3] X (S 7 0) X2 := by
  obtain ⟨d, v, R, Y1, kp, cd, ln, G, pl, kd, fs, V, al, op, wf, bh, ah, tr, rfl, rfl, rfl⟩ := hO
  exact ⟨_, ⟨d, v, R, Y1, kp, cd, ln, G, pl, kd, fs, V, al, op, wf, bh, ah, tr, rfl, rfl, rfl⟩, OkI.cl (A_count_3 l D k d v (nI ns) S R Z Y0 Y1 kp cd ln G pl kd fs V al op wf bh ah tr) (rfl) ⟨by decide, by decide, rfl, rfl⟩⟩
theorem o_count_4 (hS : SR S f) (hO : OX k x0 ns S Z Y0 k0 X) : ∃ X2, OX k x0 ns S Z Y0 k0 X2 ∧ OkI l D k yX4_count wsX4_count [.ref x0, .int 4] X (wyF f 0 false 511) X2 := by
  obtain ⟨d, v, R, Y1, kp, cd, ln, G, pl, kd, fs, V, al, op, wf, bh, ah, tr, rfl, rfl, rfl⟩ := hO
  exact ⟨_, ⟨d, v, R, Y1, kp, cd, ln, G, pl, kd, fs, V, al, op, (dnF (auG (S 2) (S 1)) wf 9), bh, ah, tr, rfl, rfl, rfl⟩, OkI.cl (A_count_4 l D k d v (nI ns) S R Z Y0 Y1 kp cd ln G pl kd fs V al op wf bh ah tr) (add_up hS.1.1) ⟨by decide, by decide, rfl, rfl⟩⟩
theorem o_count_5 (hS : SR S f) (hO : OX k x0 ns S Z Y0 k0 X) : ∃ X2, OX k x0 ns S Z Y0 k0 X2 ∧ OkI l D k yX4_count wsX4_count [.ref x0, .int 5] X (wyF f 0 false 511) X2 := by
  obtain ⟨d, v, R, Y1, kp, cd, ln, G, pl, kd, fs, V, al, op, wf, bh, ah, tr, rfl, rfl, rfl⟩ := hO
  exact ⟨_, ⟨d, v, R, Y1, kp, cd, ln, G, pl, kd, fs, (lsS V S), (lsA V S al), (lsO V S op), wf, bh, ah, tr, rfl, rfl, rfl⟩, OkI.cl (A_count_5 l D k d v (nI ns) S R Z Y0 Y1 kp cd ln G pl kd fs V al op wf bh ah tr) (count_5 (V := lsS V S) hS.1.1.ls) ⟨by decide, by decide, rfl, rfl⟩⟩
theorem o_count_6 (hS : SR S f) (hO : OX k x0 ns S Z Y0 k0 X) : ∃ X2, OX k x0 ns S Z Y0 k0 X2 ∧ OkI l D k yX4_count wsX4_count [.ref x0, .int 6] X (wyF f 0 true 511) X2 := by
  obtain ⟨d, v, R, Y1, kp, cd, ln, G, pl, kd, fs, V, al, op, wf, bh, ah, tr, rfl, rfl, rfl⟩ := hO
  exact ⟨_, ⟨d, v, R, Y1, kp, cd, ln, G, pl, kd, fs, (lsS V S), (lsA V S al), (lsO V S op), wf, bh, ah, tr, rfl, rfl, rfl⟩, OkI.cl (A_count_6 l D k d v (nI ns) S R Z Y0 Y1 kp cd ln G pl kd fs V al op wf bh ah tr) (count_6 (V := lsS V S) hS.1.1.ls) ⟨by decide, by decide, rfl, rfl⟩⟩
theorem o_count_7 (hS : SR S f) (hO : OX k x0 ns S Z Y0 k0 X) : ∃ X2, OX k x0 ns S Z Y0 k0 X2 ∧ OkI l D k yX4_count wsX4_count [.ref x0, .int 7] X (rwT f 511) X2 := by
  obtain ⟨d, v, R, Y1, kp, cd, ln, G, pl, kd, fs, V, al, op, wf, bh, ah, tr, rfl, rfl, rfl⟩ := hO
  exact ⟨_, ⟨d, v, R, Y1, kp, cd, ln, G, pl, kd, fs, V, al, op, wf, (bhG (S 2)), (cpS (bhG (S 2)) 9).1, (cpT (bhG (S 2)) tr 9), rfl, rfl, rfl⟩, OkI.cl (A_count_7 l D k d v (nI ns) S R Z Y0 Y1 kp cd ln G pl kd fs V al op wf bh ah tr) (rows_pairs hS.1.1) ⟨by decide, by decide, rfl, rfl⟩⟩
theorem o_count_8 (hS : SR S f) (hO : OX k x0 ns S Z Y0 k0 X) : ∃ X2, OX k x0 ns S Z Y0 k0 X2 ∧ OkI l D k yX4_count wsX4_count [.ref x0, .int 8] X (rwT f 511) X2 := by
  obtain ⟨d, v, R, Y1, kp, cd, ln, G, pl, kd, fs, V, al, op, wf, bh, ah, tr, rfl, rfl, rfl⟩ := hO
  exact ⟨_, ⟨d, v, R, Y1, kp, cd, ln, G, pl, kd, fs, V, al, op, wf, (bhG (S 2)), ah, tr, rfl, rfl, rfl⟩, OkI.cl (A_count_8 l D k d v (nI ns) S R Z Y0 Y1 kp cd ln G pl kd fs V al op wf bh ah tr) (rows_sets hS.1.1 511 (Nat.le_refl 511)) ⟨by decide, by decide, rfl, rfl⟩⟩
theorem o_count_9 (hS : SR S f) (hO : OX k x0 ns S Z Y0 k0 X) : ∃ X2, OX k x0 ns S Z Y0 k0 X2 ∧ OkI l D k yX4_count wsX4_count [.ref x0, .int 9] X (S 7 1) X2 := by
  obtain ⟨d, v, R, Y1, kp, cd, ln, G, pl, kd, fs, V, al, op, wf, bh, ah, tr, rfl, rfl, rfl⟩ := hO
  exact ⟨_, ⟨d, v, R, Y1, kp, cd, ln, G, pl, kd, fs, V, al, op, wf, bh, ah, tr, rfl, rfl, rfl⟩, OkI.cl (A_count_9 l D k d v (nI ns) S R Z Y0 Y1 kp cd ln G pl kd fs V al op wf bh ah tr) (rfl) ⟨by decide, by decide, rfl, rfl⟩⟩
theorem o_count_10 (hS : SR S f) (hO : OX k x0 ns S Z Y0 k0 X) : ∃ X2, OX k x0 ns S Z Y0 k0 X2 ∧ OkI l D k yX4_count wsX4_count [.ref x0, .int 10] X (S 7 2) X2 := by
  obtain ⟨d, v, R, Y1, kp, cd, ln, G, pl, kd, fs, V, al, op, wf, bh, ah, tr, rfl, rfl, rfl⟩ := hO
  exact ⟨_, ⟨d, v, R, Y1, kp, cd, ln, G, pl, kd, fs, V, al, op, wf, bh, ah, tr, rfl, rfl, rfl⟩, OkI.cl (A_count_10 l D k d v (nI ns) S R Z Y0 Y1 kp cd ln G pl kd fs V al op wf bh ah tr) (rfl) ⟨by decide, by decide, rfl, rfl⟩⟩
theorem o_count_11 (hS : SR S f) (hO : OX k x0 ns S Z Y0 k0 X) : ∃ X2, OX k x0 ns S Z Y0 k0 X2 ∧ OkI l D k yX4_count wsX4_count [.ref x0, .int 11] X (nI ns) X2 := by
  obtain ⟨d, v, R, Y1, kp, cd, ln, G, pl, kd, fs, V, al, op, wf, bh, ah, tr, rfl, rfl, rfl⟩ := hO
  exact ⟨_, ⟨d, v, R, Y1, kp, cd, ln, G, pl, kd, fs, V, al, op, wf, bh, ah, tr, rfl, rfl, rfl⟩, OkI.cl (A_count_11 l D k d v (nI ns) S R Z Y0 Y1 kp cd ln G pl kd fs V al op wf bh ah tr) (rfl) ⟨by decide, by decide, rfl, rfl⟩⟩
theorem o_heaviest_0 (hS : SR S f) (hO : OX k x0 ns S Z Y0 k0 X) : ∃ X2, OX k x0 ns S Z Y0 k0 X2 ∧ OkI l D k yX4_heaviest wsX4_heaviest [.ref x0, .int 0] X (hwF S (hvM S)) X2 := by
  obtain ⟨d, v, R, Y1, kp, cd, ln, G, pl, kd, fs, V, al, op, wf, bh, ah, tr, rfl, rfl, rfl⟩ := hO
  exact ⟨_, ⟨d, v, R, Y1, kp, cd, ln, G, pl, kd, fs, (lsS V S), (lsA V S al), (lsO V S op), wf, bh, ah, tr, rfl, rfl, rfl⟩, OkI.cl (A_heaviest_0 l D k d v (nI ns) S R Z Y0 Y1 kp cd ln G pl kd fs V al op wf bh ah tr) (by rw [hvA_L, opn_ls hS.1.1]; rfl) ⟨by decide, by decide, rfl, rfl⟩⟩
theorem o_heaviest_1 (hS : SR S f) (hO : OX k x0 ns S Z Y0 k0 X) : ∃ X2, OX k x0 ns S Z Y0 k0 X2 ∧ OkI l D k yX4_heaviest wsX4_heaviest [.ref x0, .int 1] X (hvM S) X2 := by
  obtain ⟨d, v, R, Y1, kp, cd, ln, G, pl, kd, fs, V, al, op, wf, bh, ah, tr, rfl, rfl, rfl⟩ := hO
  exact ⟨_, ⟨d, v, R, Y1, kp, cd, ln, G, pl, kd, fs, (lsS V S), (lsA V S al), (lsO V S op), wf, bh, ah, tr, rfl, rfl, rfl⟩, OkI.cl (A_heaviest_1 l D k d v (nI ns) S R Z Y0 Y1 kp cd ln G pl kd fs V al op wf bh ah tr) (by rw [hvA_L, opn_ls hS.1.1]; rfl) ⟨by decide, by decide, rfl, rfl⟩⟩
theorem o_openWay (hS : SR S f) (hO : OX k x0 ns S Z Y0 k0 X) {r : Nat} (hr : r < 2 ^ 31) : ∃ X2, OX k x0 ns S Z Y0 k0 X2 ∧ OkI l D k yX4_openWay wsX4_openWay [.ref x0, .int (nI r)] X (if h : r < (oL f).length then nI (oL f)[r] else -1) X2 := by
  obtain ⟨d, v, R, Y1, kp, cd, ln, G, pl, kd, fs, V, al, op, wf, bh, ah, tr, rfl, rfl, rfl⟩ := hO
  exact ⟨_, ⟨d, v, R, Y1, kp, cd, ln, G, pl, kd, fs, (lsS V S), (lsA V S al), (lsO V S op), wf, bh, ah, tr, rfl, rfl, rfl⟩, OkI.cl (A_openWay l D k d v (nI ns) S R Z Y0 Y1 kp cd ln G pl kd fs V al op wf bh ah tr r hr) (open_oL (V := lsS V S) hS.1.1.ls r) ⟨by decide, by decide, rfl, rfl⟩⟩
theorem o_mainPiece (hS : SR S f) (hO : OX k x0 ns S Z Y0 k0 X) : ∃ X2, OX k x0 ns S Z Y0 k0 X2 ∧ OkI l D k yX4_mainPiece wsX4_mainPiece [.ref x0] X ((moF f 9).1) X2 := by
  obtain ⟨d, v, R, Y1, kp, cd, ln, G, pl, kd, fs, V, al, op, wf, bh, ah, tr, rfl, rfl, rfl⟩ := hO
  exact ⟨_, ⟨d, v, R, Y1, kp, cd, ln, G, pl, kd, fs, (lsS V S), (lsA V S al), (lsO V S op), wf, bh, ah, tr, rfl, rfl, rfl⟩, OkI.cl (A_mainPiece l D k d v (nI ns) S R Z Y0 Y1 kp cd ln G pl kd fs V al op wf bh ah tr) (congrArg Prod.fst (main_i (V := lsS V S) hS.1.1.ls 9 (Nat.le_refl 9))) ⟨by decide, by decide, rfl, rfl⟩⟩
theorem o_ifSplit (hS : SR S f) (hO : OX k x0 ns S Z Y0 k0 X) {nw : Nat} (hn : S 7 0 = nI nw) (hn2 : nw ≤ 12) : ∃ X2, OX k x0 ns S Z Y0 k0 X2 ∧ OkI l D k yX4_ifSplit wsX4_ifSplit [.ref x0] X (smF ((taL (opnL S) 13 0 S).2 4) 9) X2 := by
  obtain ⟨d, v, R, Y1, kp, cd, ln, G, pl, kd, fs, V, al, op, wf, bh, ah, tr, rfl, rfl, rfl⟩ := hO
  exact ⟨_, ⟨d, v, (taF (apL (lsO V S op) 0 (opnL (lsS V S))) (opnL (lsS V S)).length 13 0 S).2, Y1, kp, cd, ln, G, pl, kd, fs, (lsS V S), (lsA V S al), (lsO V S op), wf, bh, ah, tr, rfl, rfl, rfl⟩, OkI.cl (A_ifSplit l D k d v (nI ns) S R Z Y0 Y1 kp cd ln G pl kd fs V al op wf bh ah tr nw hn hn2) (by rw [taF_L, opn_ls hS.1.1]) ⟨by decide, by decide, rfl, rfl⟩⟩
theorem o_explained (hS : SR S f) (hO : OX k x0 ns S Z Y0 k0 X) : ∃ X2, OX k x0 ns S Z Y0 k0 X2 ∧ OkD l D k yX4_explained wsX4_explained [.ref x0] X (shM (smF (S 0) 9) (smF (S 4) 9)) X2 := by
  obtain ⟨d, v, R, Y1, kp, cd, ln, G, pl, kd, fs, V, al, op, wf, bh, ah, tr, rfl, rfl, rfl⟩ := hO
  obtain ⟨-, s2, s3⟩ := expl_eq hS
  exact ⟨_, ⟨d, v, R, Y1, kp, cd, ln, G, pl, kd, fs, V, al, op, wf, bh, ah, tr, rfl, rfl, rfl⟩, OkD.cl (A_explained l D k d v (nI ns) S R Z Y0 Y1 kp cd ln G pl kd fs V al op wf bh ah tr s2) (s3) ⟨by decide, by decide, rfl, rfl⟩⟩
theorem o_cover (hO : OX k x0 ns S Z Y0 k0 X) (hns : ns ≤ 6) {q c : Nat} (hq : q < 9) (hc : c ≤ 999) : ∃ X2, OX k x0 (svN ns) (anS (gC S q (nI c))) (svZ Z ns S) Y0 k0 X2 ∧ OkI l D k yX4_cover wsX4_cover [.ref x0, .int (nI q), .int (nI c)] X (S 0 q) X2 := by
  obtain ⟨d, v, R, Y1, kp, cd, ln, G, pl, kd, fs, V, al, op, wf, bh, ah, tr, rfl, rfl, rfl⟩ := hO
  exact ⟨_, ⟨d, (svE v ns), R, Y1, kp, cd, ln, G, pl, kd, fs, V, al, op, wf, bh, ah, tr, rfl, rfl, rfl⟩, OkI.cl (A_cover l D k d v ns S R Z Y0 Y1 kp cd ln G pl kd fs V al op wf bh ah tr q c hns hq hc) (rfl) ⟨by decide, by decide, rfl, rfl⟩⟩
theorem o_join (hO : OX k x0 ns S Z Y0 k0 X) (hns : ns ≤ 6) {q z : Nat} (hq : q < 9) (hz : z < 9) (hqz : q < z) : ∃ X2, OX k x0 (svN ns) (anS (gJ S q (S 2 q ^^^ (1 <<< (nI z &&& 31))))) (svZ Z ns S) Y0 k0 X2 ∧ OkI l D k yX4_join wsX4_join [.ref x0, .int (nI q), .int (nI z)] X (bitv (S 2 q ^^^ (1 <<< (nI z &&& 31))) (nI z)) X2 := by
  obtain ⟨d, v, R, Y1, kp, cd, ln, G, pl, kd, fs, V, al, op, wf, bh, ah, tr, rfl, rfl, rfl⟩ := hO
  exact ⟨_, ⟨d, (svE v ns), R, Y1, kp, cd, ln, G, pl, kd, fs, V, al, op, wf, bh, ah, tr, rfl, rfl, rfl⟩, OkI.cl (A_join l D k d v ns S R Z Y0 Y1 kp cd ln G pl kd fs V al op wf bh ah tr q z hns hq hz hqz) (by rw [upd_e]) ⟨by decide, by decide, rfl, rfl⟩⟩
theorem o_mark (hO : OX k x0 ns S Z Y0 k0 X) (hns : ns ≤ 6) {q w : Nat} (hq : q < 9) (hw : w ≤ 3) : ∃ X2, OX k x0 (svN ns) (anS (gM S q (nI w))) (svZ Z ns S) Y0 k0 X2 ∧ OkI l D k yX4_mark wsX4_mark [.ref x0, .int (nI q), .int (nI w)] X (S 1 q) X2 := by
  obtain ⟨d, v, R, Y1, kp, cd, ln, G, pl, kd, fs, V, al, op, wf, bh, ah, tr, rfl, rfl, rfl⟩ := hO
  exact ⟨_, ⟨d, (svE v ns), R, Y1, kp, cd, ln, G, pl, kd, fs, V, al, op, wf, bh, ah, tr, rfl, rfl, rfl⟩, OkI.cl (A_mark l D k d v ns S R Z Y0 Y1 kp cd ln G pl kd fs V al op wf bh ah tr q w hns hq hw) (rfl) ⟨by decide, by decide, rfl, rfl⟩⟩
theorem o_bar (hO : OX k x0 ns S Z Y0 k0 X) (hns : ns ≤ 6) {q z : Nat} (hq : q < 9) (hz : z < 9) (hqz : q ≠ z) : ∃ X2, OX k x0 (svN ns) (anS (gB (gB S q (S 3 q ^^^ (1 <<< (nI z &&& 31)))) z (upd (S 3) q (S 3 q ^^^ (1 <<< (nI z &&& 31))) z ^^^ (1 <<< (nI q &&& 31))))) (svZ Z ns S) Y0 k0 X2 ∧ OkI l D k yX4_bar wsX4_bar [.ref x0, .int (nI q), .int (nI z)] X (bitv ((upd (upd (S 3) q (S 3 q ^^^ (1 <<< (nI z &&& 31)))) z (upd (S 3) q (S 3 q ^^^ (1 <<< (nI z &&& 31))) z ^^^ (1 <<< (nI q &&& 31)))) q) (nI z)) X2 := by
  obtain ⟨d, v, R, Y1, kp, cd, ln, G, pl, kd, fs, V, al, op, wf, bh, ah, tr, rfl, rfl, rfl⟩ := hO
  exact ⟨_, ⟨d, (svE v ns), R, Y1, kp, cd, ln, G, pl, kd, fs, V, al, op, wf, bh, ah, tr, rfl, rfl, rfl⟩, OkI.cl (A_bar l D k d v ns S R Z Y0 Y1 kp cd ln G pl kd fs V al op wf bh ah tr q z hns hq hz hqz) (rfl) ⟨by decide, by decide, rfl, rfl⟩⟩
theorem o_begin (hO : OX k x0 ns S Z Y0 k0 X) (hns : ns ≤ 6) : ∃ X2, OX k x0 (svN ns) (anS S) (svZ Z ns S) Y0 k0 X2 ∧ OkI l D k yX4_begin wsX4_begin [.ref x0] X (S 7 0) X2 := by
  obtain ⟨d, v, R, Y1, kp, cd, ln, G, pl, kd, fs, V, al, op, wf, bh, ah, tr, rfl, rfl, rfl⟩ := hO
  exact ⟨_, ⟨d, (svE v ns), R, Y1, kp, cd, ln, G, pl, kd, fs, V, al, op, wf, bh, ah, tr, rfl, rfl, rfl⟩, OkI.cl (A_begin l D k d v ns S R Z Y0 Y1 kp cd ln G pl kd fs V al op wf bh ah tr hns) (rfl) ⟨by decide, by decide, rfl, rfl⟩⟩
theorem o_step (hS : SR S f) (hO : OX k x0 ns S Z Y0 k0 X) (hns : ns ≤ 6) {nw : Nat} (hn : S 7 0 = nI nw) (hn2 : nw ≤ 12) : ∃ X2, OX k x0 (svN ns) (thF S (hvM S) nw).2 (svZ Z ns S) Y0 k0 X2 ∧ OkI l D k yX4_step wsX4_step [.ref x0] X (thF S (hvM S) nw).1 X2 := by
  obtain ⟨d, v, R, Y1, kp, cd, ln, G, pl, kd, fs, V, al, op, wf, bh, ah, tr, rfl, rfl, rfl⟩ := hO
  have eh : (hvA (S 4) (apL (lsO V S op) 0 (opnL (lsS V S))) (opnL (lsS V S)).length).2 = hvM S := by rw [hvA_L, opn_ls hS.1.1]; rfl
  exact ⟨_, ⟨d, (svE v ns), R, Y1, kp, cd, ln, G, pl, kd, fs, (lsS V S), (lsA V S al), (lsO V S op), wf, bh, ah, tr, rfl, rfl, by rw [← eh]⟩, OkI.cl (A_step l D k d v ns S R Z Y0 Y1 kp cd ln G pl kd fs V al op wf bh ah tr nw hns hn hn2) (by rw [eh]) ⟨by decide, by decide, rfl, rfl⟩⟩
theorem o_split (hS : SR S f) (hO : OX k x0 ns S Z Y0 k0 X) (hns : ns ≤ 6) {nw : Nat} (hn : S 7 0 = nI nw) (hn2 : nw ≤ 12) : ∃ X2, OX k x0 (svN ns) (taL (opnL S) 13 0 S).2 (svZ Z ns S) Y0 k0 X2 ∧ OkI l D k yX4_split wsX4_split [.ref x0] X (nI (taL (opnL S) 13 0 S).1) X2 := by
  obtain ⟨d, v, R, Y1, kp, cd, ln, G, pl, kd, fs, V, al, op, wf, bh, ah, tr, rfl, rfl, rfl⟩ := hO
  have et : taF (apL (lsO V S op) 0 (opnL (lsS V S))) (opnL (lsS V S)).length 13 0 S = taL (opnL S) 13 0 S := by rw [taF_L, opn_ls hS.1.1]
  exact ⟨_, ⟨d, (svE v ns), R, Y1, kp, cd, ln, G, pl, kd, fs, (lsS V S), (lsA V S al), (lsO V S op), wf, bh, ah, tr, rfl, rfl, by rw [← et]⟩, OkI.cl (A_split l D k d v ns S R Z Y0 Y1 kp cd ln G pl kd fs V al op wf bh ah tr nw hns hn hn2) (by rw [et]) ⟨by decide, by decide, rfl, rfl⟩⟩
theorem o_keep (hO : OX k x0 ns S Z Y0 k0 X) : ∃ X2, OX k x0 ns S Z S 1 X2 ∧ OkI l D k yX4_keep wsX4_keep [.ref x0, .int 0] X (cjF (S 2) 9) X2 := by
  obtain ⟨d, v, R, Y1, kp, cd, ln, G, pl, kd, fs, V, al, op, wf, bh, ah, tr, rfl, rfl, rfl⟩ := hO
  exact ⟨_, ⟨d, v, R, Y1, (upd kp 0 1), cd, ln, G, pl, kd, fs, V, al, op, wf, bh, ah, tr, rfl, upd_e _ _ _, rfl⟩, OkI.cl (A_keep_0 l D k d v (nI ns) S R Z Y0 Y1 kp cd ln G pl kd fs V al op wf bh ah tr) (rfl) ⟨by decide, by decide, rfl, rfl⟩⟩
theorem o_goBack (hO : OX k x0 ns S Z Y0 k0 X) (hns : ns ≤ 6) (hk0 : k0 = 1) : ∃ X2, OX k x0 (svN ns) Y0 (svZ Z ns S) Y0 k0 X2 ∧ OkI l D k yX4_goBack wsX4_goBack [.ref x0, .int 0] X (cjF (Y0 2) 9) X2 := by
  obtain ⟨d, v, R, Y1, kp, cd, ln, G, pl, kd, fs, V, al, op, wf, bh, ah, tr, rfl, rfl, rfl⟩ := hO
  exact ⟨_, ⟨d, (svE v ns), R, Y1, kp, cd, ln, G, pl, kd, fs, V, al, op, wf, bh, ah, tr, rfl, rfl, rfl⟩, OkI.cl (A_goBack_0 l D k d v ns S R Z Y0 Y1 kp cd ln G pl kd fs V al op wf bh ah tr hns hk0) (rfl) ⟨by decide, by decide, rfl, rfl⟩⟩
theorem o_undo (hO : OX k x0 ns S Z Y0 k0 X) {n : Nat} (hns : ns = n + 1) (hn : n < 6) : ∃ X2, OX k x0 n (Z n) Z Y0 k0 X2 ∧ OkI l D k yX4_undo wsX4_undo [.ref x0] X (nI n) X2 := by
  obtain ⟨d, v, R, Y1, kp, cd, ln, G, pl, kd, fs, V, al, op, wf, bh, ah, tr, rfl, rfl, rfl⟩ := hO
  subst hns
  exact ⟨_, ⟨d, v, R, Y1, kp, cd, ln, G, pl, kd, fs, V, al, op, wf, bh, ah, tr, rfl, rfl, rfl⟩, OkI.cl (A_undo l D k d v n S R Z Y0 Y1 kp cd ln G pl kd fs V al op wf bh ah tr n hn) (rfl) ⟨by decide, by decide, rfl, rfl⟩⟩
end OBJ
