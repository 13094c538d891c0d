abbrev wTx (k : Nat → ClassId) (t b : Nat → Nat) (cd : Nat → Int32) (ln : Int32) (G : Nat → Nat → Int32) (pl : Int32) (kd : Int32 × Int32) (fs : Int32) : va_W :=
  [(t 0, .inr (2, [.ref (t 1), .int ln, .ref (b 0), .int pl, .int kd.1, .int fs, .int kd.2])), (t 1, .inl (k 0, 60, .inl cd)),
   (b 0, .inr (1, [.ref (b 1), .ref (b 2), .ref (b 3), .ref (b 4), .ref (b 5), .ref (b 6), .ref (b 7), .int (G 7 0), .int (G 7 1), .int (G 7 2)])),
   (b 1, .inl (k 0, 9, .inl (G 0))), (b 2, .inl (k 0, 9, .inl (G 1))), (b 3, .inl (k 0, 9, .inl (G 2))), (b 4, .inl (k 0, 9, .inl (G 3))), (b 5, .inl (k 0, 9, .inl (G 4))), (b 6, .inl (k 0, 12, .inl (G 5))), (b 7, .inl (k 0, 12, .inl (G 6)))]
theorem pcB_ex {x : Int32} (h : pcB x = true) : ∃ j, j < 9 ∧ x = nI j := by
  have h2 := of_decide_eq_true h
  obtain ⟨j, hj, e⟩ := vp_in_of (x := x) (n := 9) (fun q => by
    rcases q with q | q
    · exact h2.1 q
    · have h3 : ¬ (9 : Int32).toInt ≤ x.toInt := fun z => h2.2 (Int32.le_iff_toInt_le.mpr z)
      have h4 : ¬ x.toInt < (0 : Int32).toInt := fun z => h2.1 (Int32.lt_iff_toInt_lt.mpr z)
      have h5 : x.toNatClampNeg = x.toInt.toNat := rfl
      have h6 : (9 : Int32).toInt = 9 := by decide
      have h7 : (0 : Int32).toInt = 0 := by decide
      omega) (by omega)
  exact ⟨j, hj, e⟩
/-- the reading's state: was it right; the graph, the place, the kind, the first piece -/
abbrev PS : Type := Bool × (Nat → Nat → Int32) × Int32 × (Int32 × Int32) × Int32
def gM (G : Nat → Nat → Int32) (j : Nat) (v : Int32) : Nat → Nat → Int32 := mkS (G 0) (upd (G 1) j v) (G 2) (G 3) (G 4) (G 5) (G 6) (G 7)
def gC (G : Nat → Nat → Int32) (j : Nat) (v : Int32) : Nat → Nat → Int32 := mkS (upd (G 0) j v) (G 1) (G 2) (G 3) (G 4) (G 5) (G 6) (G 7)
def gJ (G : Nat → Nat → Int32) (j : Nat) (v : Int32) : Nat → Nat → Int32 := mkS (G 0) (G 1) (upd (G 2) j v) (G 3) (G 4) (G 5) (G 6) (G 7)
def gB (G : Nat → Nat → Int32) (j : Nat) (v : Int32) : Nat → Nat → Int32 := mkS (G 0) (G 1) (G 2) (upd (G 3) j v) (G 4) (G 5) (G 6) (G 7)
def tfF (G : Nat → Nat → Int32) (pl : Int32) (kd : Int32 × Int32) (fs x : Int32) : PS :=
  if pcB x = false then (false, G, pl, kd, fs) else
  if kd.1 = 115 then (true, gM G x.toNatClampNeg (G 1 x.toNatClampNeg ||| 1), 6, kd, x) else
  if kd.1 = 101 then (true, gM G x.toNatClampNeg (G 1 x.toNatClampNeg ||| 2), 6, kd, x) else
  if kd.1 = 99 then (true, G, 3, kd, x) else (decide (¬ (8 : Int32) ≤ x), G, 2, kd, x)
def tsF (G : Nat → Nat → Int32) (pl : Int32) (kd : Int32 × Int32) (f : Nat) (x : Int32) : PS :=
  if pcB x = false then (false, G, pl, kd, nI f) else
  if ¬ nI f < x then (false, G, pl, kd, nI f) else
  if kd.1 = 106 then (true, gJ G f (G 2 f ||| (1 <<< (x &&& 31))), 6, kd, nI f) else
  (true, gB (gB G f (G 3 f ||| (1 <<< (x &&& 31)))) x.toNatClampNeg (upd (G 3) f (G 3 f ||| (1 <<< (x &&& 31))) x.toNatClampNeg ||| (1 <<< (nI f &&& 31))), 6, kd, nI f)
def tdF (G : Nat → Nat → Int32) (pl : Int32) (kd : Int32 × Int32) (f : Nat) (x : Int32) : PS :=
  if x < 0 then (false, G, pl, kd, nI f) else if ¬ x ≤ 9 then (false, G, pl, kd, nI f) else (true, gC G f (kd.2 * 10 + x), pl, (kd.1, kd.2 * 10 + x), nI f)
def spF (G : Nat → Nat → Int32) (kd : Int32 × Int32) (fs x : Int32) : PS := (decide (x = 59), G, 0, kd, fs)
def cgB (kd : Int32 × Int32) : Bool := decide (¬ kd.2 ≤ 0 ∧ ¬ (99 : Int32) < kd.2)
def k0B (x : Int32) : Bool := decide (x = 99 ∨ x = 106 ∨ x = 115 ∨ x = 101 ∨ x = 120)
/-- one character taken at the place pl -/
def tkF (G : Nat → Nat → Int32) (pl : Nat) (kd : Int32 × Int32) (f : Nat) (x : Int32) : PS := match pl with
  | 0 => (k0B x, G, 1, (x, kd.2), nI f)
  | 1 => tfF G 1 kd (nI f) (x - 48)
  | 2 => tsF G 2 kd f (x - 48)
  | 3 => (decide (x = 61), G, 4, (kd.1, 0), nI f)
  | 4 => tdF G 5 kd f (x - 48)
  | 5 => if x = 59 then spF G kd (nI f) x else if cgB kd = true then tdF G 5 kd f (x - 48) else (false, G, 5, kd, nI f)
  | _ => spF G kd (nI f) x
