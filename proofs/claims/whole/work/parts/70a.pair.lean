/-! The two objects side by side: what holds between two calls -/
def RI (S : Nat → Nat → Int32) (f : Nat → Int32) (Z : Nat → Nat → Nat → Int32) (ns : Nat) (sv : Nat → Int32) (Y0 Y1 : Nat → Nat → Int32) (kp kq sl cd tx : Nat → Int32) (ln : Nat) (fs : Int32) : Prop :=
  SR S f ∧ SV Z ns sv ∧ ns ≤ 6 ∧ ((kp 0 = kq 0 ∧ kp 1 = kq 1) ∧ (kp 0 = 0 ∨ kp 0 = 1) ∧ (kp 1 = 0 ∨ kp 1 = 1) ∧ (kp 0 = 1 → SR Y0 (sliceM sl 0)) ∧ (kp 1 = 1 → SR Y1 (sliceM sl 72))) ∧ (ln ≤ 60 ∧ ∀ i, i < ln → cd i = tx i) ∧ ∃ y, y < 9 ∧ fs = nI y
def Both (k : Nat → ClassId) (x0 h0 : Nat) (th : Int32) (X M : va_W) : Prop :=
  ∃ (d v : Nat → Nat → Nat) (ns : Nat) (S R : Nat → Nat → Int32) (Z : Nat → Nat → Nat → Int32) (Y0 Y1 : Nat → Nat → Int32) (kp cd : Nat → Int32) (ln : Nat) (G : Nat → Nat → Int32) (pl : Int32) (kd : Int32 × Int32) (fs : Int32) (V : Nat → Nat → Int32) (al op wf bh ah : Nat → Int32) (tr : Int32) (h : Nat → Nat) (f asd sl kq sv tx : Nat → Int32) (dg : Int64),
    X = wAll k d v (nI ns) S R Z Y0 Y1 kp cd (nI ln) G pl kd fs V al op wf bh ah tr ∧ M = wMo k h th f asd sl kq sv (nI ns) tx (nI ln) dg ∧ d 0 0 = x0 ∧ h 0 = h0 ∧ RI S f Z ns sv Y0 Y1 kp kq sl cd tx ln fs
theorem MI.toY {l : Launch} {y : MethodName} {wy : List Cond} {rm : Room} {D : va_G} {k : Nat → ClassId} {av : List Value} {wc wc' : va_W} {r : Int32} (h : MI l y wy rm D k av wc r wc') (ads : List Nat) (h1 : wc'.map (fun q => q.1) = ads) (h2 : wc.map (fun q => q.1) = ads) : MYi l y wy rm D k av wc r wc' := by
  intro sz
  refine MetFree.mono (MI.toD h ads h1 h2 sz) ?_ (fun _ _ _ _ _ h => h) (fun _ _ _ _ _ h => h)
  rintro a U ⟨rfl, -, -, g1, g2, g3, g4, g5⟩
  exact ⟨rfl, g1, g2, g3, g4, g5⟩
theorem ML.toY {l : Launch} {y : MethodName} {wy : List Cond} {rm : Room} {D : va_G} {k : Nat → ClassId} {av : List Value} {wc wc' : va_W} {r : Int64} (h : ML l y wy rm D k av wc r wc') (ads : List Nat) (h1 : wc'.map (fun q => q.1) = ads) (h2 : wc.map (fun q => q.1) = ads) : MYl l y wy rm D k av wc r wc' := by
  intro sz
  refine MetFree.mono (ML.toD h ads h1 h2 sz) ?_ (fun _ _ _ _ _ h => h) (fun _ _ _ _ _ h => h)
  rintro a U ⟨rfl, -, -, g1, g2, g3, g4, g5⟩
  exact ⟨rfl, g1, g2, g3, g4, g5⟩
theorem MD.toY {l : Launch} {y : MethodName} {wy : List Cond} {rm : Room} {D : va_G} {k : Nat → ClassId} {av : List Value} {wc wc' : va_W} {r : UInt64} (h : MD l y wy rm D k av wc r wc') (ads : List Nat) (h1 : wc'.map (fun q => q.1) = ads) (h2 : wc.map (fun q => q.1) = ads) : MYd l y wy rm D k av wc r wc' := by
  intro sz
  refine MetFree.mono (MD.toD h ads h1 h2 sz) ?_ (fun _ _ _ _ _ h => h) (fun _ _ _ _ _ h => h)
  rintro a U ⟨rfl, -, -, g1, g2, g3, g4, g5⟩
  exact ⟨rfl, g1, g2, g3, g4, g5⟩
theorem MX.wide {l : Launch} {y : MethodName} {wy : List Cond} {rm : Room} {D : va_G} {k : Nat → ClassId} {av : List Value} {E : String} (h : MX l y wy rm D k av [] E []) (ws : va_W) : MX l y wy rm D k av ws E ws := by
  have e : (List.range ws.length).map (fun i => ws[i]?) = ws.map some := by
    refine List.ext_getElem? (fun i => ?_)
    rw [List.getElem?_map, List.getElem?_map]
    by_cases hi : i < ws.length
    · rw [List.getElem?_range hi, List.getElem?_eq_getElem hi, Option.map_some, Option.map_some, List.getElem?_eq_getElem hi]
    · rw [List.getElem?_eq_none (l := List.range ws.length) (by rw [List.length_range]; omega), List.getElem?_eq_none (l := ws) (by omega)]
      rfl
  exact MX.lift h [] (List.range ws.length) ws ws.length rfl rfl rfl e e rfl (List.all_eq_true.mpr (fun x hx => by
    rw [Bool.or_eq_true]
    exact Or.inr (List.contains_iff_mem.mpr hx)))
/-- rooms of what is called -/
def rmOK (rm : Room) : Prop := rm.frames ≤ 30 ∧ rm.locals ≤ 800 ∧ rm.cells = 0 ∧ rm.slots = 0
def OkI (l : Launch) (D : va_G) (k : Nat → ClassId) (y : MethodName) (wy : List Cond) (av : List Value) (X : va_W) (r : Int32) (X' : va_W) : Prop := ∃ rm : Room, rmOK rm ∧ MYi l y wy rm D k av X r X'
def OkL (l : Launch) (D : va_G) (k : Nat → ClassId) (y : MethodName) (wy : List Cond) (av : List Value) (X : va_W) (r : Int64) (X' : va_W) : Prop := ∃ rm : Room, rmOK rm ∧ MYl l y wy rm D k av X r X'
def OkD (l : Launch) (D : va_G) (k : Nat → ClassId) (y : MethodName) (wy : List Cond) (av : List Value) (X : va_W) (r : UInt64) (X' : va_W) : Prop := ∃ rm : Room, rmOK rm ∧ MYd l y wy rm D k av X r X'
def OkW (l : Launch) (D : va_G) (k : Nat → ClassId) (y : MethodName) (wy : List Cond) (av : List Value) (ou : Nat) (X : va_W) (code r : Int32) (X' : va_W) : Prop := ∀ g : Nat → Int64, ∃ g' : Nat → Int64, MYi l y wy RW D k av (X ++ oC k ou g) code (X' ++ oC k ou g') ∧ (code = 0 → g' 0 = r.toInt64)
theorem OkI.of {l : Launch} {D : va_G} {k : Nat → ClassId} {y : MethodName} {wy : List Cond} {av : List Value} {rm : Room} {h : Nat → Nat} {th th' : Int32} {f f' asd asd' sl sl' kp kp' sv sv' : Nat → Int32} {sm sm' : Int32} {tx tx' : Nat → Int32} {ln ln' : Int32} {dg dg' : Int64} {r : Int32} (hm : MI l y wy rm D k av (wMo k h th f asd sl kp sv sm tx ln dg) r (wMo k h th' f' asd' sl' kp' sv' sm' tx' ln' dg')) (hr : rmOK rm) : OkI l D k y wy av (wMo k h th f asd sl kp sv sm tx ln dg) r (wMo k h th' f' asd' sl' kp' sv' sm' tx' ln' dg') :=
  ⟨rm, hr, hm.toY [h 0, h 1, h 2, h 3, h 4, h 5, h 6] rfl rfl⟩
theorem OkL.of {l : Launch} {D : va_G} {k : Nat → ClassId} {y : MethodName} {wy : List Cond} {av : List Value} {rm : Room} {h : Nat → Nat} {th th' : Int32} {f f' asd asd' sl sl' kp kp' sv sv' : Nat → Int32} {sm sm' : Int32} {tx tx' : Nat → Int32} {ln ln' : Int32} {dg dg' : Int64} {r : Int64} (hm : ML l y wy rm D k av (wMo k h th f asd sl kp sv sm tx ln dg) r (wMo k h th' f' asd' sl' kp' sv' sm' tx' ln' dg')) (hr : rmOK rm) : OkL l D k y wy av (wMo k h th f asd sl kp sv sm tx ln dg) r (wMo k h th' f' asd' sl' kp' sv' sm' tx' ln' dg') :=
  ⟨rm, hr, hm.toY [h 0, h 1, h 2, h 3, h 4, h 5, h 6] rfl rfl⟩
theorem OkD.of {l : Launch} {D : va_G} {k : Nat → ClassId} {y : MethodName} {wy : List Cond} {av : List Value} {rm : Room} {h : Nat → Nat} {th th' : Int32} {f f' asd asd' sl sl' kp kp' sv sv' : Nat → Int32} {sm sm' : Int32} {tx tx' : Nat → Int32} {ln ln' : Int32} {dg dg' : Int64} {r : UInt64} (hm : MD l y wy rm D k av (wMo k h th f asd sl kp sv sm tx ln dg) r (wMo k h th' f' asd' sl' kp' sv' sm' tx' ln' dg')) (hr : rmOK rm) : OkD l D k y wy av (wMo k h th f asd sl kp sv sm tx ln dg) r (wMo k h th' f' asd' sl' kp' sv' sm' tx' ln' dg') :=
  ⟨rm, hr, hm.toY [h 0, h 1, h 2, h 3, h 4, h 5, h 6] rfl rfl⟩
/-- a call of both that may throw: what comes of it -/
def PW (l : Launch) (D : va_G) (k : Nat → ClassId) (x0 h0 ou : Nat) (yW : MethodName) (wW : List Cond) (yM : MethodName) (wM : List Cond) (avX avM : List Value) (X M : va_W) : Prop :=
  ∃ (X' M' : va_W) (code r : Int32), Both k x0 h0 code X' M' ∧ OkW l D k yW wW avX ou X code r X' ∧ OkI l D k yM wM avM M r M'
/-- a call of both that doesn't -/
def PP (l : Launch) (D : va_G) (k : Nat → ClassId) (x0 h0 : Nat) (yX : MethodName) (wX : List Cond) (yM : MethodName) (wM : List Cond) (X M : va_W) : Prop :=
  ∃ (X' M' : va_W) (th r : Int32), Both k x0 h0 th X' M' ∧ OkI l D k yX wX [.ref x0] X r X' ∧ OkI l D k yM wM [.ref h0] M r M'
def PPl (l : Launch) (D : va_G) (k : Nat → ClassId) (x0 h0 : Nat) (yX : MethodName) (wX : List Cond) (yM : MethodName) (wM : List Cond) (X M : va_W) : Prop :=
  ∃ (X' M' : va_W) (th : Int32) (r : Int64), Both k x0 h0 th X' M' ∧ OkL l D k yX wX [.ref x0] X r X' ∧ OkL l D k yM wM [.ref h0] M r M'
def PPd (l : Launch) (D : va_G) (k : Nat → ClassId) (x0 h0 : Nat) (yX : MethodName) (wX : List Cond) (yM : MethodName) (wM : List Cond) (X M : va_W) : Prop :=
  ∃ (X' M' : va_W) (th : Int32) (r : UInt64), Both k x0 h0 th X' M' ∧ OkD l D k yX wX [.ref x0] X r X' ∧ OkD l D k yM wM [.ref h0] M r M'
theorem updL_0 (g : Nat → Int64) (x : Int64) : vp_updL g 0 x 0 = x := rfl
theorem svN_le {n : Nat} (h : n ≤ 6) : svN n ≤ 6 := by
  rw [svN_eq h]
  unfold snM
  by_cases c : n = 6
  · rw [if_pos c]; omega
  · rw [if_neg c]; omega
theorem pc_f {x : Int32} (h : inB x 0 8 = false) : pcB x = false := (pc_in x).trans h
theorem pc_t {x : Int32} (h : inB x 0 8 = true) : pcB x = true := (pc_in x).trans h
theorem sl_in (x : Int32) : slB x = inB x 0 1 := by
  rw [Bool.eq_iff_iff]
  constructor
  · intro h
    obtain ⟨h1, h2⟩ : ¬ x < 0 ∧ ¬ (2 : Int32) ≤ x := of_decide_eq_true h
    obtain ⟨j, hj, rfl⟩ := nI_of h1
    have h3 : ¬ 2 ≤ j := fun h3 => h2 (nI_le (a := 2) h3 hj)
    exact inB_n (a := 0) (b := 1) (Nat.zero_le _) (by omega) (by omega)
  · intro h
    obtain ⟨j, hj, rfl⟩ := inB_ex (b := 1) (by omega) h
    rcases (show j = 0 ∨ j = 1 by omega) with rfl | rfl
    · decide +kernel
    · decide +kernel
theorem in_33 {x : Int32} (h : inB x 33 126 = true) : ∃ c, 33 ≤ c ∧ c ≤ 126 ∧ x = nI c := by
  obtain ⟨h1, h2⟩ : ¬ x < 33 ∧ ¬ (126 : Int32) < x := of_decide_eq_true h
  have h3 : ¬ x < 0 := fun h3 => h1 (Int32.lt_trans h3 (by decide +kernel))
  obtain ⟨j, hj, rfl⟩ := nI_of h3
  refine ⟨j, ?_, ?_, rfl⟩
  · exact Nat.le_of_not_lt (fun h4 => h1 (nI_lt (b := 33) h4 (by omega)))
  · exact Nat.le_of_not_lt (fun h4 => h2 (nI_lt (a := 126) h4 hj))
