theorem c_X4_pieceOf_6L (l : Launch) (D : va_G) (k : Nat → ClassId) (d : Nat → Nat → Nat) (ns : Int32) (S : Nat → Nat → Int32) (V : Nat → Nat → Int32) (al op wf bh ah : Nat → Int32) (tr : Int32) (q : Nat) (hq : q < 9) : MI l yX4_pieceOf wsX4_pieceOf ({ frames := 13, cells := 0, slots := 0, locals := 447 }) D k [.ref (d 0 0), .int (nI q), .int 6] (wXo d ns ++ (wSt k (d 1) S ++ (wWays k (d 8) (d 9) (lsS V S) (lsA V S al) (lsO V S op) wf ++ (wRw k (d 10) bh ah tr)))) (cjtF (apL (lsA V S al) 0 (allL (lsS V S))) (nI q) (allL (lsS V S)).length) (wXo d ns ++ (wSt k (d 1) S ++ (wWays k (d 8) (d 9) (lsS V S) (lsA V S al) (lsO V S op) wf ++ wRw k (d 10) bh ah tr))) := by
  have h := c_X4_pieceOf_6 l D k d ns S (lsS V S) (lsA V S al) (lsO V S op) wf bh ah tr q hq
  simp only [lsS_i, lsA_i, lsO_i] at h
  exact h
theorem c_X4_count_5L (l : Launch) (D : va_G) (k : Nat → ClassId) (d : Nat → Nat → Nat) (ns : Int32) (S : Nat → Nat → Int32) (V : Nat → Nat → Int32) (al op wf bh ah : Nat → Int32) (tr : Int32)   : MI l yX4_count wsX4_count ({ frames := 13, cells := 0, slots := 0, locals := 447 }) D k [.ref (d 0 0), .int 5] (wXo d ns ++ (wSt k (d 1) S ++ (wWays k (d 8) (d 9) (lsS V S) (lsA V S al) (lsO V S op) wf ++ (wRw k (d 10) bh ah tr)))) (nI (allL (lsS V S)).length) (wXo d ns ++ (wSt k (d 1) S ++ (wWays k (d 8) (d 9) (lsS V S) (lsA V S al) (lsO V S op) wf ++ wRw k (d 10) bh ah tr))) := by
  have h := c_X4_count_5 l D k d ns S (lsS V S) (lsA V S al) (lsO V S op) wf bh ah tr
  simp only [lsS_i, lsA_i, lsO_i] at h
  exact h
theorem c_X4_count_6L (l : Launch) (D : va_G) (k : Nat → ClassId) (d : Nat → Nat → Nat) (ns : Int32) (S : Nat → Nat → Int32) (V : Nat → Nat → Int32) (al op wf bh ah : Nat → Int32) (tr : Int32)   : MI l yX4_count wsX4_count ({ frames := 13, cells := 0, slots := 0, locals := 447 }) D k [.ref (d 0 0), .int 6] (wXo d ns ++ (wSt k (d 1) S ++ (wWays k (d 8) (d 9) (lsS V S) (lsA V S al) (lsO V S op) wf ++ (wRw k (d 10) bh ah tr)))) (nI (opnL (lsS V S)).length) (wXo d ns ++ (wSt k (d 1) S ++ (wWays k (d 8) (d 9) (lsS V S) (lsA V S al) (lsO V S op) wf ++ wRw k (d 10) bh ah tr))) := by
  have h := c_X4_count_6 l D k d ns S (lsS V S) (lsA V S al) (lsO V S op) wf bh ah tr
  simp only [lsS_i, lsA_i, lsO_i] at h
  exact h
theorem c_X4_heaviest_0L (l : Launch) (D : va_G) (k : Nat → ClassId) (d : Nat → Nat → Nat) (ns : Int32) (S : Nat → Nat → Int32) (V : Nat → Nat → Int32) (al op wf bh ah : Nat → Int32) (tr : Int32)   : MI l yX4_heaviest wsX4_heaviest ({ frames := 13, cells := 0, slots := 0, locals := 447 }) D k [.ref (d 0 0), .int 0] (wXo d ns ++ (wSt k (d 1) S ++ (wWays k (d 8) (d 9) (lsS V S) (lsA V S al) (lsO V S op) wf ++ (wRw k (d 10) bh ah tr)))) (hwF S (hvA (S 4) (apL (lsO V S op) 0 (opnL (lsS V S))) (opnL (lsS V S)).length).2) (wXo d ns ++ (wSt k (d 1) S ++ (wWays k (d 8) (d 9) (lsS V S) (lsA V S al) (lsO V S op) wf ++ wRw k (d 10) bh ah tr))) := by
  have h := c_X4_heaviest_0 l D k d ns S (lsS V S) (lsA V S al) (lsO V S op) wf bh ah tr
  simp only [lsS_i, lsA_i, lsO_i] at h
  exact h
theorem c_X4_heaviest_1L (l : Launch) (D : va_G) (k : Nat → ClassId) (d : Nat → Nat → Nat) (ns : Int32) (S : Nat → Nat → Int32) (V : Nat → Nat → Int32) (al op wf bh ah : Nat → Int32) (tr : Int32)   : MI l yX4_heaviest wsX4_heaviest ({ frames := 13, cells := 0, slots := 0, locals := 447 }) D k [.ref (d 0 0), .int 1] (wXo d ns ++ (wSt k (d 1) S ++ (wWays k (d 8) (d 9) (lsS V S) (lsA V S al) (lsO V S op) wf ++ (wRw k (d 10) bh ah tr)))) ((hvA (S 4) (apL (lsO V S op) 0 (opnL (lsS V S))) (opnL (lsS V S)).length).2) (wXo d ns ++ (wSt k (d 1) S ++ (wWays k (d 8) (d 9) (lsS V S) (lsA V S al) (lsO V S op) wf ++ wRw k (d 10) bh ah tr))) := by
  have h := c_X4_heaviest_1 l D k d ns S (lsS V S) (lsA V S al) (lsO V S op) wf bh ah tr
  simp only [lsS_i, lsA_i, lsO_i] at h
  exact h
theorem c_X4_openWayL (l : Launch) (D : va_G) (k : Nat → ClassId) (d : Nat → Nat → Nat) (ns : Int32) (S : Nat → Nat → Int32) (V : Nat → Nat → Int32) (al op wf bh ah : Nat → Int32) (tr : Int32) (r : Nat) (hr31 : r < 2 ^ 31) : MI l yX4_openWay wsX4_openWay ({ frames := 13, cells := 0, slots := 0, locals := 447 }) D k [.ref (d 0 0), .int (nI r)] (wXo d ns ++ (wSt k (d 1) S ++ (wWays k (d 8) (d 9) (lsS V S) (lsA V S al) (lsO V S op) wf ++ (wRw k (d 10) bh ah tr)))) (owF (apL (lsO V S op) 0 (opnL (lsS V S))) (opnL (lsS V S)).length r) (wXo d ns ++ (wSt k (d 1) S ++ (wWays k (d 8) (d 9) (lsS V S) (lsA V S al) (lsO V S op) wf ++ wRw k (d 10) bh ah tr))) := by
  have h := c_X4_openWay l D k d ns S (lsS V S) (lsA V S al) (lsO V S op) wf bh ah tr r hr31
  simp only [lsS_i, lsA_i, lsO_i] at h
  exact h
theorem c_X4_mainPieceL (l : Launch) (D : va_G) (k : Nat → ClassId) (d : Nat → Nat → Nat) (ns : Int32) (S : Nat → Nat → Int32) (V : Nat → Nat → Int32) (al op wf bh ah : Nat → Int32) (tr : Int32)   : MI l yX4_mainPiece wsX4_mainPiece ({ frames := 13, cells := 0, slots := 0, locals := 447 }) D k [.ref (d 0 0)] (wXo d ns ++ (wSt k (d 1) S ++ (wWays k (d 8) (d 9) (lsS V S) (lsA V S al) (lsO V S op) wf ++ (wRw k (d 10) bh ah tr)))) ((mpF (apL (lsO V S op) 0 (opnL (lsS V S))) (opnL (lsS V S)).length 9).1) (wXo d ns ++ (wSt k (d 1) S ++ (wWays k (d 8) (d 9) (lsS V S) (lsA V S al) (lsO V S op) wf ++ wRw k (d 10) bh ah tr))) := by
  have h := c_X4_mainPiece l D k d ns S (lsS V S) (lsA V S al) (lsO V S op) wf bh ah tr
  simp only [lsS_i, lsA_i, lsO_i] at h
  exact h
theorem c_X4_ifSplitL (l : Launch) (D : va_G) (k : Nat → ClassId) (d : Nat → Nat → Nat) (ns : Int32) (S : Nat → Nat → Int32) (R V : Nat → Nat → Int32) (al op wf : Nat → Int32) (nw : Nat) (hnw : S 7 0 = nI nw) (hnw2 : nw ≤ 12) : MI l yX4_ifSplit wsX4_ifSplit ({ frames := 13, cells := 0, slots := 0, locals := 447 }) D k [.ref (d 0 0)] (wXo d ns ++ (wSt k (d 1) S ++ (wSt k (d 2) R ++ (wWays k (d 8) (d 9) (lsS V S) (lsA V S al) (lsO V S op) wf)))) (smF ((taF (apL (lsO V S op) 0 (opnL (lsS V S))) (opnL (lsS V S)).length 13 0 S).2 4) 9) (wXo d ns ++ (wSt k (d 1) S ++ (wSt k (d 2) (taF (apL (lsO V S op) 0 (opnL (lsS V S))) (opnL (lsS V S)).length 13 0 S).2 ++ wWays k (d 8) (d 9) (lsS V S) (lsA V S al) (lsO V S op) wf))) := by
  have h := c_X4_ifSplit l D k d ns S R (lsS V S) (lsA V S al) (lsO V S op) wf nw hnw hnw2
  simp only [lsS_i, lsA_i, lsO_i] at h
  exact h
