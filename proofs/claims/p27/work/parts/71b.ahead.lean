/-! P27 2: which way comes ahead -/
/-- the law's test, from a place on -/
def ahR (a b : Nat) : Nat → Nat → Bool
  | 0, _ => false
  | n + 1, j => if a.testBit j = b.testBit j then ahR a b n (j + 1) else if a.testBit j = true then decide (¬ b >>> j = 0) else decide (a >>> j = 0)
def ahB (a b : Nat) : Bool := ahR a b 9 0
/-- the place of a set among the sets of the last n pieces, in the order in which ways are told; 0: the empty one -/
def poR (a : Nat) : Nat → Nat
  | 0 => 0
  | n + 1 => if a.testBit (8 - n) = true then 1 + poR a n else if a >>> (8 - n) = 0 then 0 else 2 ^ n + poR a n
def ivR : Nat → Nat → Nat
  | 0, _ => 0
  | n + 1, p => if p = 0 then 0 else if p ≤ 2 ^ n then 2 ^ (8 - n) + ivR n (p - 1) else ivR n (p - 2 ^ n)
theorem po_iv : ∀ m, m < 512 → ivR 9 (poR m 9) = m := by decide +kernel
theorem po_inj {a b : Nat} (ha : a < 512) (hb : b < 512) (h : poR a 9 = poR b 9) : a = b := by
  rw [← po_iv a ha, h, po_iv b hb]
theorem poR_lt (a : Nat) : ∀ n, poR a n < 2 ^ n
  | 0 => Nat.one_pos
  | n + 1 => by
    have h := poR_lt a n
    rw [poR, Nat.pow_succ]
    split
    · omega
    · split
      · have := Nat.two_pow_pos n; omega
      · omega
theorem sh_bit {a j : Nat} : a >>> j = 0 ↔ a.testBit j = false ∧ a >>> (j + 1) = 0 := by
  have e : a >>> (j + 1) = (a >>> j) / 2 := Nat.shiftRight_succ a j
  have t : a.testBit j = decide ((a >>> j) % 2 = 1) := by
    rw [Nat.testBit_eq_decide_div_mod_eq, Nat.shiftRight_eq_div_pow]
  rw [e, t, decide_eq_false_iff_not]
  generalize a >>> j = v
  omega
theorem poR_0 {a : Nat} (ha : a < 512) : ∀ n, n ≤ 9 → (poR a n = 0 ↔ a >>> (9 - n) = 0)
  | 0, _ => ⟨fun _ => by rw [Nat.shiftRight_eq_div_pow]; exact Nat.div_eq_of_lt ha, fun _ => rfl⟩
  | n + 1, hn => by
    have ih := poR_0 ha n (by omega)
    rw [show 9 - (n + 1) = 8 - n by omega, poR]
    rw [show 9 - n = 8 - n + 1 by omega] at ih
    have h := sh_bit (a := a) (j := 8 - n)
    have hp := Nat.two_pow_pos n
    by_cases c : a.testBit (8 - n) = true
    · rw [if_pos c]
      constructor
      · omega
      · intro h2; rw [(h.mp h2).1] at c; cases c
    · rw [if_neg c]
      by_cases c2 : a >>> (8 - n) = 0
      · rw [if_pos c2]; exact ⟨fun _ => c2, fun _ => rfl⟩
      · rw [if_neg c2]; constructor
        · omega
        · exact fun h2 => absurd h2 c2
theorem ah_po {a b : Nat} (ha : a < 512) (hb : b < 512) : ∀ n, n ≤ 9 → ahR a b n (9 - n) = decide (poR a n < poR b n)
  | 0, _ => by rw [ahR, poR, poR]; rfl
  | n + 1, hn => by
    have ih := ah_po ha hb n (by omega)
    have la := poR_lt a n
    have lb := poR_lt b n
    have za := poR_0 ha n (by omega)
    have zb := poR_0 hb n (by omega)
    rw [show 9 - n = 8 - n + 1 by omega] at ih za zb
    have sa := sh_bit (a := a) (j := 8 - n)
    have sb := sh_bit (a := b) (j := 8 - n)
    rw [show 9 - (n + 1) = 8 - n by omega, ahR, poR, poR, ih]
    cases ta : a.testBit (8 - n) <;> cases tb : b.testBit (8 - n) <;> rw [ta] at sa <;> rw [tb] at sb
    · have sa2 : a >>> (8 - n) = 0 ↔ poR a n = 0 := by rw [sa, za]; exact ⟨fun h => h.2, fun h => ⟨rfl, h⟩⟩
      have sb2 : b >>> (8 - n) = 0 ↔ poR b n = 0 := by rw [sb, zb]; exact ⟨fun h => h.2, fun h => ⟨rfl, h⟩⟩
      simp only [eq_self, if_true, Bool.false_eq_true, Bool.true_eq_false, if_false, decide_eq_decide]
      by_cases h1 : a >>> (8 - n) = 0 <;> by_cases h2 : b >>> (8 - n) = 0
      · rw [if_pos h1, if_pos h2]; have := sa2.mp h1; have := sb2.mp h2; omega
      · rw [if_pos h1, if_neg h2]; have := sa2.mp h1; have : ¬ poR b n = 0 := fun h => h2 (sb2.mpr h); omega
      · rw [if_neg h1, if_pos h2]; have := sb2.mp h2; omega
      · rw [if_neg h1, if_neg h2]; omega
    · simp only [eq_self, if_true, Bool.false_eq_true, Bool.true_eq_false, if_false, decide_eq_decide]
      by_cases h1 : a >>> (8 - n) = 0
      · rw [if_pos h1]; exact ⟨fun _ => by omega, fun _ => h1⟩
      · rw [if_neg h1]
        have h3 : ¬ poR a n = 0 := fun h => h1 (sa.mpr ⟨rfl, za.mp h⟩)
        exact ⟨fun h => absurd h h1, fun h => by omega⟩
    · simp only [eq_self, if_true, Bool.false_eq_true, Bool.true_eq_false, if_false, decide_eq_decide]
      by_cases h2 : b >>> (8 - n) = 0
      · rw [if_pos h2]; exact ⟨fun h => absurd h2 h, fun h => by omega⟩
      · rw [if_neg h2]
        have h3 : ¬ poR b n = 0 := fun h => h2 (sb.mpr ⟨rfl, zb.mp h⟩)
        exact ⟨fun _ => by omega, fun _ => h2⟩
    · simp only [eq_self, if_true, Bool.false_eq_true, Bool.true_eq_false, if_false, decide_eq_decide]
      omega
theorem ahB_po {a b : Nat} (ha : a < 512) (hb : b < 512) : ahB a b = decide (poR a 9 < poR b 9) := ah_po ha hb 9 (Nat.le_refl 9)
/-- the sets, in the order of ways -/
def oM : List Nat := allP.map mkL
theorem oM_po : oM.map (fun m => poR m 9) = (List.range 511).map (fun i => i + 1) := by decide +kernel
theorem ordW_oM : ordW = oM.map nI := by rw [ordW_e, oM, List.map_map]; rfl
theorem oM_pw : oM.Pairwise (fun a b => poR a 9 < poR b 9) := by
  have h : (oM.map (fun m => poR m 9)).Pairwise (fun a b => a < b) := by
    rw [oM_po]
    refine List.pairwise_map.mpr ?_
    exact (List.pairwise_lt_range (n := 511)).imp (fun h => Nat.succ_lt_succ h)
  exact List.pairwise_map.mp h
theorem oM_in {m : Nat} (h : m ∈ oM) : 1 ≤ m ∧ m < 512 := by
  obtain ⟨l, hl, rfl⟩ := List.mem_map.mp h
  exact ⟨(allP_in hl).2.2, (allP_in hl).2.1⟩
theorem oM_all {m : Nat} (h1 : 1 ≤ m) (h2 : m < 512) : m ∈ oM := by
  have hp := List.isPerm_iff.mp allP_pm
  exact hp.mem_iff.mp (List.mem_map.mpr ⟨m - 1, List.mem_range.mpr (by omega), by omega⟩)
/-- the open ways as sets, in their order -/
def oL (f : Nat → Int32) : List Nat := oM.filter (fun m => ioB f (nI m))
theorem oL_in {f : Nat → Int32} {m : Nat} : m ∈ oL f ↔ 1 ≤ m ∧ m < 512 ∧ ioB f (nI m) = true := by
  unfold oL
  rw [List.mem_filter]
  exact ⟨fun h => ⟨(oM_in h.1).1, (oM_in h.1).2, h.2⟩, fun h => ⟨oM_all h.1 h.2.1, h.2.2⟩⟩
theorem oL_pw (f : Nat → Int32) : (oL f).Pairwise (fun a b => poR a 9 < poR b 9) := oM_pw.filter _
theorem opn_oL {V : Nat → Nat → Int32} {f : Nat → Int32} (hG : GrOK V f) : opnL V = (oL f).map nI := by
  rw [← ord_open hG, ordW_oM, oL, List.filter_map]
  rfl
/-- the open way of a rank, as the object tells it -/
theorem open_oL {V : Nat → Nat → Int32} {f op : Nat → Int32} (hG : GrOK V f) (r : Nat) : owF (apL op 0 (opnL V)) (opnL V).length r = if h : r < (oL f).length then nI (oL f)[r] else -1 := by
  have e := opn_oL hG
  have el : (opnL V).length = (oL f).length := by rw [e, List.length_map]
  unfold owF
  by_cases c : r < (oL f).length
  · rw [dif_pos c, if_neg (by omega), apL_get0 op (opnL V) (by omega)]
    have : (opnL V)[r]? = some (nI (oL f)[r]) := by rw [e, List.getElem?_map, List.getElem?_eq_getElem c]; rfl
    rw [List.getElem?_eq_getElem (by omega)] at this
    exact Option.some.inj this
  · rw [dif_neg c, if_pos (by omega)]
theorem oL_len {V : Nat → Nat → Int32} {f : Nat → Int32} (hG : GrOK V f) : (oL f).length = (opnL V).length := by rw [opn_oL hG, List.length_map]
theorem oL_511 (f : Nat → Int32) : (oL f).length ≤ 511 := by
  have h1 := List.length_filter_le (fun m => ioB f (nI m)) oM
  have h2 : oM.length = 511 := allP_len
  unfold oL
  omega
theorem oL_step (f : Nat → Int32) {r : Nat} (h : r + 1 < (oL f).length) : ahB (oL f)[r] (oL f)[r + 1] = true ∧ (oL f)[r] ≠ (oL f)[r + 1] := by
  have h1 := List.pairwise_iff_getElem.mp (oL_pw f) r (r + 1) (by omega) h (by omega)
  obtain ⟨a1, a2, -⟩ := oL_in.mp (List.getElem_mem (l := oL f) (show r < (oL f).length by omega))
  obtain ⟨b1, b2, -⟩ := oL_in.mp (List.getElem_mem (l := oL f) h)
  refine ⟨by rw [ahB_po a2 b2]; exact decide_eq_true h1, fun e => ?_⟩
  rw [e] at h1
  omega
