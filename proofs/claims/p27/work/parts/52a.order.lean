/-! MATH 4: all sets in their order -/
def loopG {α : Type} (f : Nat → List α) (st : Nat) : Nat → List α
  | 0 => []
  | t + 1 => loopG f st t ++ f (st + t)
theorem loopG_cong {α : Type} {f g : Nat → List α} (st : Nat) : ∀ t : Nat, (∀ x, st ≤ x → x < st + t → f x = g x) → loopG f st t = loopG g st t
  | 0, _ => rfl
  | t + 1, h => by rw [loopG, loopG, loopG_cong st t (fun x a b => h x a (by omega)), h (st + t) (by omega) (by omega)]
theorem loopG_L (f : Nat → List Int32) (st : Nat) : ∀ t : Nat, loopG f st t = loopL f st t
  | 0 => rfl
  | t + 1 => by rw [loopG, loopL, loopG_L f st t]
theorem loopG_filter {α : Type} (p : α → Bool) (f : Nat → List α) (st : Nat) : ∀ t : Nat, (loopG f st t).filter p = loopG (fun x => (f x).filter p) st t
  | 0 => rfl
  | t + 1 => by rw [loopG, loopG, List.filter_append, loopG_filter p f st t]
theorem loopG_map {α β : Type} (g : α → β) (f : Nat → List α) (st : Nat) : ∀ t : Nat, (loopG f st t).map g = loopG (fun x => (f x).map g) st t
  | 0 => rfl
  | t + 1 => by rw [loopG, loopG, List.map_append, loopG_map g f st t]
theorem loopG_nil {α : Type} (f : Nat → List α) (st : Nat) : ∀ t : Nat, (∀ x, st ≤ x → x < st + t → f x = []) → loopG f st t = []
  | 0, _ => rfl
  | t + 1, h => by rw [loopG, loopG_nil f st t (fun x a b => h x a (by omega)), h (st + t) (by omega) (by omega)]; rfl
/-- rows of rising pieces, in their order -/
def trP : Nat → Nat → List Nat → List (List Nat)
  | 0, _, _ => []
  | n + 1, q, pre => (pre ++ [q]) :: loopG (fun x => trP n x (pre ++ [q])) (q + 1) (9 - (q + 1))
def allP : List (List Nat) := loopG (fun q => trP 9 q []) 0 9
def mkL (l : List Nat) : Nat := l.foldl (fun a i => a ||| 2 ^ i) 0
theorem mkL_app (l : List Nat) (q : Nat) : mkL (l ++ [q]) = mkL l ||| 2 ^ q := by unfold mkL; rw [List.foldl_append]; rfl
def bitsN (m : Nat) : List Nat := (List.range 9).filter (fun i => m.testBit i)
def chE : List Nat → Int32 → Bool
  | [], x => decide (x = 0)
  | m :: r, x => decide (x = nI m) && chE r (nxF (nI m))
theorem chE_ord : ∀ (l : List Nat) (i : Nat), chE l (ordF i) = true → (List.range l.length).map (fun j => ordF (i + j)) = l.map nI
  | [], _, _ => rfl
  | m :: r, i, h => by
    obtain ⟨h1, h2⟩ := Bool.and_eq_true_iff.mp h
    have e : ordF i = nI m := of_decide_eq_true h1
    have h3 : chE r (ordF (i + 1)) = true := by show chE r (nxF (ordF i)) = true; rw [e]; exact h2
    have ih := chE_ord r (i + 1) h3
    rw [List.length_cons, List.range_succ_eq_map, List.map_cons, List.map_cons, List.map_map, ← ih]
    congr 1
    refine List.map_congr_left (fun j _ => ?_)
    show ordF (i + (j + 1)) = ordF (i + 1 + j)
    congr 1
    omega
theorem allP_ch : chE (allP.map mkL) (ordF 0) = true := by decide +kernel
theorem allP_len : (allP.map mkL).length = 511 := by decide +kernel
theorem ord_all : (List.range 511).map ordF = allP.map (fun l => nI (mkL l)) := by
  have h := chE_ord _ 0 allP_ch
  rw [allP_len, List.map_map] at h
  rw [show (List.range 511).map ordF = (List.range 511).map (fun j => ordF (0 + j)) from List.map_congr_left (fun j _ => by rw [Nat.zero_add])]
  exact h
theorem allP_ok : (allP.all (fun l => decide (bitsN (mkL l) = l) && decide (mkL l < 512) && decide (1 ≤ mkL l))) = true := by decide +kernel
theorem allP_in {l : List Nat} (h : l ∈ allP) : bitsN (mkL l) = l ∧ mkL l < 512 ∧ 1 ≤ mkL l := by
  have h1 := List.all_eq_true.mp allP_ok l h
  rw [Bool.and_eq_true_iff, Bool.and_eq_true_iff] at h1
  exact ⟨of_decide_eq_true h1.1.1, of_decide_eq_true h1.1.2, of_decide_eq_true h1.2⟩
theorem allP_pm : ((List.range 511).map (fun i => i + 1)).isPerm (allP.map mkL) = true := by decide +kernel
theorem num_perm : ((List.range 511).map (fun i => nI (i + 1))).Perm (allP.map (fun l => nI (mkL l))) := by
  have h := (List.isPerm_iff.mp allP_pm).map nI
  rw [List.map_map, List.map_map] at h
  exact h
