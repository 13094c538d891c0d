/-! The law's start: what the Statement gives -/
theorem tb_at {w : Cond} (n : Nat) (h : lw_tbl[n]? = some w) : w ∈ lw_tbl := List.mem_of_getElem? h
/-- what holds all through the law -/
def LC (p : Program) (l : Launch) (s : State) (m : MethodId) (meth : Method) (c : Code) (b L : Nat) (xs : Nat → Int32) (D : va_G) (k : Nat → ClassId) : Prop :=
  p.tables.exec = Jvm.exec ∧ c.code = cL_law ∧ meth.sig.returnType = ret ∧ c.maxLocals = 9 ∧ s.vm.findClass RL = some m.cls ∧ (∀ w ∈ wsL_law, w.before #[Value.ref b] s = true) ∧ va_X b L xs s s.heap ∧ b < s.heap.size ∧ meth.locks = false ∧ va_K D vwCl (TY k) s ∧ NL s ∧ XP s ∧ XZ (fun q => s.heap.size ≤ q) s s.heap ∧ L ≤ 1536 ∧ l.stackTraces = false
theorem st_NL {b : Nat} {s : State} (hts : ∀ w ∈ lw_tbl, w.before #[Value.ref b] s = true) : NL s :=
  ⟨va_Nw.of rfl (hts _ (tb_at 75 (by decide +kernel))), va_Nw.of rfl (hts _ (tb_at 132 (by decide +kernel))), va_Nw.of rfl (hts _ (tb_at 137 (by decide +kernel))), va_Nw.of rfl (hts _ (tb_at 166 (by decide +kernel))), va_Nw.of rfl (hts _ (tb_at 171 (by decide +kernel))), va_Nw.of rfl (hts _ (tb_at 197 (by decide +kernel))),
    va_Nw.of rfl (hts _ (tb_at 275 (by decide +kernel))), va_Nw.of rfl (hts _ (tb_at 278 (by decide +kernel))), va_Nw.of rfl (hts _ (tb_at 289 (by decide +kernel))), va_Nw.of rfl (hts _ (tb_at 346 (by decide +kernel))), va_Nw.of rfl (hts _ (tb_at 409 (by decide +kernel))), va_Nw.of rfl (hts _ (tb_at 417 (by decide +kernel)))⟩
theorem st_S {b : Nat} {s : State} (hts : ∀ w ∈ lw_tbl, w.before #[Value.ref b] s = true) (hgv : (Jvm.Cond.and given_1 narrow_1).before #[Value.ref b] s = true) {i n : Nat} {tx : String} (h1 : lw_tbl[n]? = some (.stringRef RX4 i tx)) (h2 : (Cond.exactly (.string RX4 i) "java/lang/String") ∈ flatC (Jvm.Cond.and given_1 narrow_1)) : ∃ sa, vk_R RX4 i tx sa s := by
  obtain ⟨a, c, cA, kA, q1, -⟩ := Cond.exactly_spec (args := #[Value.ref b]) (first := s) (o := none) (s := s) (idx := []) (t := .string RX4 i) (cls := "java/lang/String") (flat_of_before _ hgv _ h2)
  exact ⟨a, vk_R.of (hts _ (tb_at n h1)) q1⟩
set_option maxRecDepth 100000 in
theorem st_XP {b : Nat} {s : State} (hts : ∀ w ∈ lw_tbl, w.before #[Value.ref b] s = true) (hgv : (Jvm.Cond.and given_1 narrow_1).before #[Value.ref b] s = true) : XP s := by
  refine ⟨⟨va_Nw.of rfl (hts _ (tb_at 510 (by decide +kernel))), va_Nw.of rfl (hts _ (tb_at 429 (by decide +kernel))), va_Nw.of rfl (hts _ (tb_at 607 (by decide +kernel))), va_Nw.of rfl (hts _ (tb_at 431 (by decide +kernel))), va_Nw.of rfl (hts _ (tb_at 433 (by decide +kernel))), va_Nw.of rfl (hts _ (tb_at 435 (by decide +kernel)))⟩, va_Nc.of (flat_of_before _ hgv _ (by decide +kernel)), va_Nc.of (flat_of_before _ hgv _ (by decide +kernel)), ?_⟩
  intro q hq
  simp only [xS, List.mem_cons, List.not_mem_nil, or_false] at hq
  rcases hq with rfl | rfl | rfl | rfl | rfl | rfl | rfl | rfl | rfl | rfl | rfl | rfl | rfl | rfl | rfl | rfl
  · exact st_S hts hgv (n := 604) (by decide +kernel) (by decide +kernel)
  · exact st_S hts hgv (n := 614) (by decide +kernel) (by decide +kernel)
  · exact st_S hts hgv (n := 632) (by decide +kernel) (by decide +kernel)
  · exact st_S hts hgv (n := 643) (by decide +kernel) (by decide +kernel)
  · exact st_S hts hgv (n := 651) (by decide +kernel) (by decide +kernel)
  · exact st_S hts hgv (n := 659) (by decide +kernel) (by decide +kernel)
  · exact st_S hts hgv (n := 529) (by decide +kernel) (by decide +kernel)
  · exact st_S hts hgv (n := 538) (by decide +kernel) (by decide +kernel)
  · exact st_S hts hgv (n := 468) (by decide +kernel) (by decide +kernel)
  · exact st_S hts hgv (n := 543) (by decide +kernel) (by decide +kernel)
  · exact st_S hts hgv (n := 548) (by decide +kernel) (by decide +kernel)
  · exact st_S hts hgv (n := 517) (by decide +kernel) (by decide +kernel)
  · exact st_S hts hgv (n := 571) (by decide +kernel) (by decide +kernel)
  · exact st_S hts hgv (n := 579) (by decide +kernel) (by decide +kernel)
  · exact st_S hts hgv (n := 587) (by decide +kernel) (by decide +kernel)
  · exact st_S hts hgv (n := 595) (by decide +kernel) (by decide +kernel)
theorem st_XZ {b : Nat} {s : State} (hts : ∀ w ∈ lw_tbl, w.before #[Value.ref b] s = true) (hgv : (Jvm.Cond.and given_1 narrow_1).before #[Value.ref b] s = true) : XZ (fun q => s.heap.size ≤ q) s s.heap :=
  ⟨vx_Zqof (hts _ (tb_at 454 (by decide +kernel))) (hts _ (tb_at 58 (by decide +kernel))) (flat_of_before _ hgv _ (by decide +kernel)) (fun a h1 h2 => Nat.not_le.mpr h1 h2), vx_Zqof (hts _ (tb_at 456 (by decide +kernel))) (hts _ (tb_at 58 (by decide +kernel))) (flat_of_before _ hgv _ (by decide +kernel)) (fun a h1 h2 => Nat.not_le.mpr h1 h2)⟩
