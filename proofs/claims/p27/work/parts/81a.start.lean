/-! The law's start: what the Statement gives -/
theorem tb_at {w : Cond} (n : Nat) (h : lw_tbl[n]? = some w) : w ∈ lw_tbl := List.mem_of_getElem? h
theorem st_NL {b : Nat} {s : State} (hts : ∀ w ∈ lw_tbl, w.before #[Value.ref b] s = true) : NL s :=
  ⟨va_Nw.of rfl (hts _ (tb_at 32 (by decide +kernel))), va_Nw.of rfl (hts _ (tb_at 85 (by decide +kernel))), va_Nw.of rfl (hts _ (tb_at 90 (by decide +kernel))), va_Nw.of rfl (hts _ (tb_at 111 (by decide +kernel))), va_Nw.of rfl (hts _ (tb_at 116 (by decide +kernel))), va_Nw.of rfl (hts _ (tb_at 142 (by decide +kernel))),
    va_Nw.of rfl (hts _ (tb_at 340 (by decide +kernel))), va_Nw.of rfl (hts _ (tb_at 325 (by decide +kernel))), va_Nw.of rfl (hts _ (tb_at 351 (by decide +kernel))), va_Nw.of rfl (hts _ (tb_at 351 (by decide +kernel))), va_Nw.of rfl (hts _ (tb_at 356 (by decide +kernel))), va_Nw.of rfl (hts _ (tb_at 364 (by decide +kernel)))⟩
theorem st_A {b : Nat} {s : State} {ty : FieldType} (h : (Cond.arrayClass ty).before #[Value.ref b] s = true) : ∃ cA, ArrOfT s cA ty ∧ s.vm.findClass ("[" ++ ty.toString) = some cA := by
  obtain ⟨cA, kA, comp, h1, h2, h3⟩ := Cond.arrayClass_spec (args := #[Value.ref b]) (first := s) (o := none) (s := s) (idx := []) h
  exact ⟨cA, fun n z => ⟨fun k h => (by cases h), kA, h2, comp, h3⟩, h1⟩
theorem st_K {b : Nat} {s : State} (hts : ∀ w ∈ lw_tbl, w.before #[Value.ref b] s = true) : ∃ (D : va_G) (k : Nat → ClassId), va_K D vwCl (TY k) s := by
  obtain ⟨c0, i0, h0⟩ := u_known (C := RX0) (T := TX0) (N := 3) (n := 3) hts wl_x0 (hts _ (tb_at 141 (by decide +kernel)))
  obtain ⟨c1, i1, h1⟩ := u_known (C := RX1) (T := TX1) (N := 10) (n := 10) hts wl_x1 (hts _ (tb_at 31 (by decide +kernel)))
  obtain ⟨c2, i2, h2⟩ := u_known (C := RX2) (T := TX2) (N := 7) (n := 7) hts wl_x2 (hts _ (tb_at 84 (by decide +kernel)))
  obtain ⟨c3, i3, h3⟩ := u_known (C := RX3) (T := TX3) (N := 6) (n := 6) hts wl_x3 (hts _ (tb_at 110 (by decide +kernel)))
  obtain ⟨c4, i4, h4⟩ := u_known (C := RX4) (T := TX4) (N := 9) (n := 9) hts wl_x4 (hts _ (tb_at 23 (by decide +kernel)))
  obtain ⟨a0, g0, f0⟩ := st_A (b := b) (s := s) (ty := .int) (hts _ (tb_at 81 (by decide +kernel)))
  obtain ⟨a1, g1, f1⟩ := st_A (b := b) (s := s) (ty := .boolean) (hts _ (tb_at 108 (by decide +kernel)))
  obtain ⟨comp, a2, kA, q1, q2, q3, q4, q5⟩ := Cond.arrayOver_spec (args := #[Value.ref b]) (first := s) (o := none) (s := s) (idx := []) (n := RX1) (hts (.arrayOver (.object RX1)) (tb_at 82 (by decide +kernel)))
  refine ⟨(fun c => match c with | 0 => c0 | 1 => c1 | 2 => c2 | 3 => c3 | _ => c4, fun c => match c with | 0 => i0 | 1 => i1 | 2 => i2 | 3 => i3 | _ => i4), fun i => match i with | 0 => a0 | 1 => a1 | _ => a2, fun c q hq => ?_, fun j q hq => ?_⟩
  · match c, hq with
    | 0, hq => obtain rfl := Option.some.inj hq; exact h0
    | 1, hq => obtain rfl := Option.some.inj hq; exact h1
    | 2, hq => obtain rfl := Option.some.inj hq; exact h2
    | 3, hq => obtain rfl := Option.some.inj hq; exact h3
    | 4, hq => obtain rfl := Option.some.inj hq; exact h4
    | n + 5, hq => cases hq
  · match j, hq with
    | 0, hq => obtain rfl := Option.some.inj hq; exact ⟨g0, f0⟩
    | 1, hq => obtain rfl := Option.some.inj hq; exact ⟨g1, f1⟩
    | 2, hq => obtain rfl := Option.some.inj hq; exact ⟨fun N z => ⟨(fun k h => by cases h), kA, q3, comp, q4⟩, kA, comp, q3, q4, q1, q5⟩
    | n + 3, hq => cases hq
