theorem st_LC {p : Program} {l : Launch} {s : State} {m : MethodId} {meth : Method} {c : Code} {b L : Nat} {xs : Nat → Int32} (hflags : l.flags = flags0) (hL : L ≤ 1536) (C0 : lw_At p s m meth c b L xs) : ∃ (D : va_G) (k : Nat → ClassId), LC p l s m meth c b L xs D k := by
  obtain ⟨hx, hb, hr, hml, hown, hts, hX, hbl, hlocks, hgv⟩ := C0
  obtain ⟨D, k, hK⟩ := st_K hts
  exact ⟨D, k, hx, hb, hr, hml, hown, fun w hw => hts w (wl_all w hw), hX, hbl, hlocks, hK, st_NL hts, st_XP hts hgv, st_XZ hts hgv, hL, by unfold Launch.stackTraces; rw [hflags]; decide +kernel⟩
