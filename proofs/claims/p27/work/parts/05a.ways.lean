theorem pcB_t {j : Nat} (h : j < 9) : pcB (nI j) = true := by
  have : ∀ j : Fin 9, pcB (nI j.val) = true := by decide
  exact this ⟨j, h⟩
/-- a row that goes on, from a place on, with a list -/
def apL (f : Nat → Int32) (na : Nat) (L : List Int32) : Nat → Int32 := fun j => if j < na then f j else if j < na + L.length then L.getD (j - na) 0 else f j
theorem apL_nil (f : Nat → Int32) (na : Nat) : apL f na [] = f := by
  funext j
  unfold apL
  by_cases h : j < na <;> simp [h]
theorem apL_snoc (f : Nat → Int32) (na : Nat) (L : List Int32) (x : Int32) : upd (apL f na L) (na + L.length) x = apL f na (L ++ [x]) := by
  funext j
  unfold upd apL
  by_cases h1 : j < na
  · simp [h1, show ¬ j = na + L.length from by omega]
  · by_cases h2 : j = na + L.length
    · subst h2
      rw [if_pos rfl, if_neg h1, if_pos (by simp)]
      simp [List.getD_eq_getElem?_getD]
    · by_cases h3 : j < na + L.length
      · simp [h1, h2, h3, show j < na + (L.length + 1) from by omega, List.getD_eq_getElem?_getD, List.getElem?_append_left (show j - na < L.length from by omega)]
      · simp [h1, h2, h3, show ¬ j < na + (L.length + 1) from by omega]
theorem apL_one (f : Nat → Int32) (na : Nat) (x : Int32) : upd f na x = apL f na [x] := by
  have h := apL_snoc f na [] x
  rwa [apL_nil] at h
theorem apL_app (f : Nat → Int32) (na : Nat) (L1 L2 : List Int32) : apL (apL f na L1) (na + L1.length) L2 = apL f na (L1 ++ L2) := by
  funext j
  unfold apL
  by_cases h1 : j < na
  · simp [h1, show j < na + L1.length from by omega]
  · by_cases h2 : j < na + L1.length
    · simp [h1, h2, show j < na + (L1.length + L2.length) from by omega, List.getD_eq_getElem?_getD, List.getElem?_append_left (show j - na < L1.length from by omega)]
    · by_cases h3 : j < na + L1.length + L2.length
      · simp [h1, h2, h3, show j < na + (L1.length + L2.length) from by omega, List.getD_eq_getElem?_getD, List.getElem?_append_right (show L1.length ≤ j - na from by omega), Nat.sub_sub]
      · simp [h1, h2, h3, show ¬ j < na + (L1.length + L2.length) from by omega]
theorem apL_app0 (f : Nat → Int32) (L1 L2 : List Int32) : apL (apL f 0 L1) L1.length L2 = apL f 0 (L1 ++ L2) := by
  have h := apL_app f 0 L1 L2
  rwa [Nat.zero_add] at h
theorem apL_snoc0 (f : Nat → Int32) (L : List Int32) (x : Int32) : upd (apL f 0 L) L.length x = apL f 0 (L ++ [x]) := by
  have h := apL_snoc f 0 L x
  rwa [Nat.zero_add] at h
theorem apL_get0 (f : Nat → Int32) (L : List Int32) {j : Nat} (h : j < L.length) : apL f 0 L j = L[j] := by
  unfold apL
  simp [h]
def loopL (f : Nat → List Int32) (st : Nat) : Nat → List Int32
  | 0 => []
  | t + 1 => loopL f st t ++ f (st + t)
theorem loopL_s (f : Nat → List Int32) {st i : Nat} (h : st ≤ i) : loopL f st (i + 1 - st) = loopL f st (i - st) ++ f i := by
  rw [show i + 1 - st = (i - st) + 1 from by omega, loopL, show st + (i - st) = i from by omega]
theorem loopL_mono (f : Nat → List Int32) (st : Nat) : ∀ t u : Nat, (loopL f st t).length ≤ (loopL f st (t + u)).length
  | t, 0 => Nat.le_refl _
  | t, u + 1 => by
    have h := loopL_mono f st t u
    show _ ≤ (loopL f st (t + u) ++ f (st + (t + u))).length
    rw [List.length_append]
    omega
theorem loopL_le (f : Nat → List Int32) (st i t : Nat) (h1 : st ≤ i) (h2 : i < st + t) : (loopL f st (i - st)).length + (f i).length ≤ (loopL f st t).length := by
  have h := loopL_mono f st (i + 1 - st) (t - (i + 1 - st))
  rw [show i + 1 - st + (t - (i + 1 - st)) = t from by omega, loopL_s f h1, List.length_append] at h
  exact h
theorem loopL_len (f : Nat → List Int32) (st : Nat) : ∀ t : Nat, st + t ≤ 9 → (∀ x, st ≤ x → x < st + t → (f x).length ≤ 2 ^ (8 - x)) → (loopL f st t).length + 2 ^ (9 - (st + t)) ≤ 2 ^ (9 - st)
  | 0, _, _ => by simp [loopL]
  | t + 1, h, hf => by
    have h1 := loopL_len f st t (by omega) (fun x a b => hf x a (by omega))
    have h2 := hf (st + t) (by omega) (by omega)
    rw [loopL, List.length_append]
    have h3 : 2 ^ (9 - (st + t)) = 2 ^ (8 - (st + t)) + 2 ^ (8 - (st + t)) := by
      rw [show 9 - (st + t) = (8 - (st + t)) + 1 from by omega, Nat.pow_succ]; omega
    rw [show 9 - (st + (t + 1)) = 8 - (st + t) from by omega]
    omega
def hdL (Mk : Nat → Int32) (q : Nat) (ah : Int32) : List Int32 := if Mk q &&& 2 = 0 then [] else [ah ||| (1 <<< (nI q &&& 31))]
def stepL (J : Nat → Int32) (q : Nat) (w : Nat → List Int32) : Nat → List Int32 := fun x => if bitv (J q) (nI x) = 1 then w x else []
/-- the ways from a piece on, behind those that are walked already -/
def walkL (J Mk : Nat → Int32) : Nat → Nat → Int32 → List Int32
  | 0, _, _ => []
  | n + 1, q, ah => hdL Mk q ah ++ loopL (stepL J q (fun x => walkL J Mk n x (ah ||| (1 <<< (nI q &&& 31))))) (q + 1) (9 - (q + 1))
theorem walkL_s (J Mk : Nat → Int32) (n q : Nat) (ah : Int32) : walkL J Mk (n + 1) q ah = hdL Mk q ah ++ loopL (stepL J q (fun x => walkL J Mk n x (ah ||| (1 <<< (nI q &&& 31))))) (q + 1) (9 - (q + 1)) := rfl
theorem hdL_len (Mk : Nat → Int32) (q : Nat) (ah : Int32) : (hdL Mk q ah).length ≤ 1 := by unfold hdL; split <;> simp
theorem walkL_len (J Mk : Nat → Int32) : ∀ (n q : Nat) (ah : Int32), q < 9 → (walkL J Mk n q ah).length ≤ 2 ^ (8 - q)
  | 0, q, ah, _ => by simp [walkL]
  | n + 1, q, ah, hq => by
    have h := loopL_len (stepL J q (fun x => walkL J Mk n x (ah ||| (1 <<< (nI q &&& 31))))) (q + 1) (9 - (q + 1)) (by omega) (fun x a b => by
      unfold stepL
      split
      · exact walkL_len J Mk n x _ (by omega)
      · exact Nat.zero_le _)
    have h2 := hdL_len Mk q ah
    rw [walkL_s, List.length_append]
    rw [show 9 - (q + 1 + (9 - (q + 1))) = 0 from by omega, show 9 - (q + 1) = 8 - q from by omega] at h
    rw [show 9 - (q + 1) = 8 - q from by omega]
    omega
/-- all ways, in their order; the open ones -/
def allL (S : Nat → Nat → Int32) : List Int32 := loopL (fun q => if S 1 q &&& 1 = 0 then [] else walkL (S 2) (S 1) 9 q 0) 0 9
theorem allL_len (S : Nat → Nat → Int32) : (allL S).length ≤ 511 := by
  have h := loopL_len (fun q => if S 1 q &&& 1 = 0 then [] else walkL (S 2) (S 1) 9 q 0) 0 9 (by omega) (fun x a b => by
    show (if S 1 x &&& 1 = 0 then [] else walkL (S 2) (S 1) 9 x 0).length ≤ _
    split
    · exact Nat.zero_le _
    · exact walkL_len _ _ 9 x _ (by omega))
  unfold allL
  omega
def opnF (S : Nat → Nat → Int32) (L : List Int32) : List Int32 := L.filter (fun m => opR (S 3) m 9 0)
def opnL (S : Nat → Nat → Int32) : List Int32 := opnF S (allL S)
theorem opnF_t (S : Nat → Nat → Int32) (L : List Int32) {i : Nat} (h : i < L.length) (ho : opR (S 3) L[i] 9 0 = true) : opnF S (L.take (i + 1)) = opnF S (L.take i) ++ [L[i]] := by
  unfold opnF
  rw [List.take_succ_eq_append_getElem h, List.filter_append]
  simp [ho]
theorem opnF_f (S : Nat → Nat → Int32) (L : List Int32) {i : Nat} (h : i < L.length) (ho : opR (S 3) L[i] 9 0 = false) : opnF S (L.take (i + 1)) = opnF S (L.take i) := by
  unfold opnF
  rw [List.take_succ_eq_append_getElem h, List.filter_append]
  simp [ho]
theorem opnF_len (S : Nat → Nat → Int32) (L : List Int32) (i : Nat) : (opnF S (L.take i)).length ≤ i := by
  have h1 := List.length_filter_le (fun m => opR (S 3) m 9 0) (L.take i)
  have h2 := List.length_take_le i L
  unfold opnF
  omega
/-- are the joins, marks and bars those that were listed -/
def lsR (W T : Nat → Nat → Int32) : Nat → Nat → Bool
  | 0, _ => true
  | n + 1, i => if W 2 i = T 2 i then (if W 1 i = T 1 i then (if W 3 i = T 3 i then lsR W T n (i + 1) else false) else false) else false
theorem lsR_s (W T : Nat → Nat → Int32) {i : Nat} (h : ¬ 9 ≤ i) : lsR W T (9 - i) i = if W 2 i = T 2 i then (if W 1 i = T 1 i then (if W 3 i = T 3 i then lsR W T (9 - (i + 1)) (i + 1) else false) else false) else false := by
  rw [show 9 - i = (9 - (i + 1)) + 1 from by omega, lsR]
abbrev wWy (k : Nat → ClassId) (a b : Nat → Nat) (S : Nat → Nat → Int32) (al op wf : Nat → Int32) (na no : Int32) : va_W :=
  [(a 0, .inr (3, [.ref (a 1), .ref (a 2), .int na, .int no, .ref (b 0), .ref (a 3)])), (a 1, .inl (k 0, 512, .inl al)), (a 2, .inl (k 0, 512, .inl op)), (a 3, .inl (k 0, 9, .inl wf)),
   (b 0, .inr (1, [.ref (b 1), .ref (b 2), .ref (b 3), .ref (b 4), .ref (b 5), .ref (b 6), .ref (b 7), .int (S 7 0), .int (S 7 1), .int (S 7 2)])),
   (b 1, .inl (k 0, 9, .inl (S 0))), (b 2, .inl (k 0, 9, .inl (S 1))), (b 3, .inl (k 0, 9, .inl (S 2))), (b 4, .inl (k 0, 9, .inl (S 3))), (b 5, .inl (k 0, 9, .inl (S 4))), (b 6, .inl (k 0, 12, .inl (S 5))), (b 7, .inl (k 0, 12, .inl (S 6)))]
abbrev wWays (k : Nat → ClassId) (a b : Nat → Nat) (S : Nat → Nat → Int32) (al op wf : Nat → Int32) : va_W := wWy k a b S (apL al 0 (allL S)) (apL op 0 (opnL S)) wf (nI (allL S).length) (nI (opnL S).length)
/-- what is listed behind a look at a graph -/
def lsS (W T : Nat → Nat → Int32) : Nat → Nat → Int32 := if lsR W T 9 0 = true then W else mkS (T 0) (T 1) (T 2) (T 3) (W 4) (W 5) (W 6) (W 7)
def lsA (W T : Nat → Nat → Int32) (al : Nat → Int32) : Nat → Int32 := if lsR W T 9 0 = true then al else apL al 0 (allL W)
def lsO (W T : Nat → Nat → Int32) (op : Nat → Int32) : Nat → Int32 := if lsR W T 9 0 = true then op else apL op 0 (opnL W)

set_option maxHeartbeats 1000000 in
set_option maxRecDepth 100000 in
theorem c_X3_isListed (l : Launch) (D : va_G) (k : Nat → ClassId) (a b g : Nat → Nat) (S T : Nat → Nat → Int32) (al op wf : Nat → Int32) (na no : Int32)  : MI l yX3_isListed wsX3_isListed ({ frames := 0, cells := 0, slots := 0, locals := 0 }) D k [.ref (a 0), .ref (g 0)] (wWy k a b S al op wf na no ++ (wSt k g T)) (bI (lsR S T 9 0)) (wWy k a b S al op wf na no ++ (wSt k g T)) := by
  intro sz
  refine Met.ofW (cc := cX3_isListed) (maxL := 3) (ret := (some .boolean)) (by decide) rfl ?_
  intro p e s m args below meth c s₁ B hml hv
  obtain ⟨rfl, hN, hsz, hP, hK, hD0⟩ := hv
  have hx := B.exec
  have hb := B.bytes
  have hr := B.returns
  have hts := atoms_spec (ws := wsX3_isListed) B.pre
  have hown : s.vm.findClass RX3 = some m.cls := findClass_of_methodNamed B.named
  have hlocks := B.notSynchronized
  subst hsz
  have hD := hD0.self (sz := s.heap.size)
  generalize hAe : va_A (wWy k a b S al op wf na no ++ (wSt k g T)) s.heap.size = A at hD ⊢
  have hA : ∀ q : Nat, s.heap.size ≤ q → A q := fun q h => by rw [← hAe]; exact Or.inr h
  have hS : va_S A s.heap s.heap [] := va_S.rf
  have hl := lv_entry ([.ref (a 0), .ref (g 0)]) (n := 3) (Nat.le_of_ble_eq_true rfl)
  rw [lg_entry_eq]
  generalize (lg_sl ([.ref (a 0), .ref (g 0)]) ++ List.replicate (3 - (lg_sl ([.ref (a 0), .ref (g 0)])).length) Slot.unset).toArray = ls at hl ⊢
  have hl : lv_has ls 3 [(0, .ref (a 0)), (1, .ref (g 0))] := hl
  obtain ⟨H, hHe⟩ : ∃ H, H = s.heap := ⟨_, rfl⟩
  have hP : va_P D vwCl (wWy k a b S al op wf na no ++ (wSt k g T)) H := by rw [hHe]; exact hP
  have hS : va_S A s.heap H [] := by rw [hHe]; exact hS
  rw [← hHe]
  refine absQ (fun Q hQ => ?_)
  refine lv_iconst (v := 0) hx hb dX3_isListed_0 (by decide) ?_
  refine lv_istore_n (lv' := [(2, .int 0), (0, .ref (a 0)), (1, .ref (g 0))]) hx hb dX3_isListed_1 rfl hl (by decide) rfl (fun ls hl => ?_)
  suffices LOOP_i : ∀ (fu_i i : Nat) , 9 - i < fu_i → i ≤ 9 → lsR S T (9 - i) i = lsR S T 9 0 → ∀ (H : Heap) (locs : List Loc) (ls : Array Slot), va_P D vwCl (wWy k a b S al op wf na no ++ (wSt k g T)) H → va_D A (wWy k a b S al op wf na no ++ (wSt k g T)) → va_S A s.heap H locs → lv_has ls 3 [(2, .int (nI i)), (0, .ref (a 0)), (1, .ref (g 0))] → W p l e ({ frames := 0, cells := 0, slots := 0, locals := 0 } : Room) s m ([.ref (a 0), .ref (g 0)] : List Value).toArray below meth c H locs 0 0 Q (F0 m 2 ls []) from LOOP_i (9 + 1) 0  (by omega) (by omega)  (rfl) _ _ _ hP hD hS (lv_sub hl [0, 1, 2] rfl)
  clear hP hD hS hl hHe
  intro fu_i
  induction fu_i with
  | zero => intro i  hn_i; omega
  | succ fu_i ih_i =>
    intro i  hn_i hle_i  hv H locs ls hP hD hS hl
    refine lv_iload_n hx hb dX3_isListed_2 rfl (lv_at hl 0 rfl) ?_
    refine lv_bipush (v := 9) hx hb dX3_isListed_3 (by decide) ?_
    refine lv_icmp_ge (tgt := 70) hx hb dX3_isListed_5 (by decide) (fun c_1 => ?_) (fun c_1 => ?_)
    · have c_1 : 9 ≤ i := (nI_leI (a := 9) (b := i) (by omega) (by omega)).mp c_1
      obtain rfl : i = 9 := by omega
      refine lv_iconst (v := 1) hx hb dX3_isListed_70 (by decide) ?_
      subst hQ
      exact rt_z hx hb hr hlocks hS dX3_isListed_71 (hP) (rfl) (by rw [← hv]; rfl)
    · have c_1 : ¬ (9 ≤ i) := fun h9 => c_1 ((nI_leI (a := 9) (b := i) (by omega) (by omega)).mpr h9)
      refine lv_aload_n hx hb dX3_isListed_8 rfl (lv_at hl 1 rfl) ?_
      refine va_get (D := D) (ci := 3) (v := .ref (b 0)) (C := RX3) (T := TX3) (N := 6) hx hb hts (fun _ h9 => (List.mem_cons_of_mem _ (List.mem_append_left _ (List.mem_append_right _ h9)))) hown hK hP 0 rfl rfl 4 (by decide) (hts _ (List.mem_of_getElem? (i := 1) rfl)) (fun _ h9 => h9) rfl dX3_isListed_9 ?_
      refine va_get (D := D) (ci := 1) (v := .ref (b 3)) (C := RX1) (T := TX1) (N := 10) hx hb hts (fun _ h9 => (List.mem_cons_of_mem _ (List.mem_append_right _ h9))) hown hK hP 4 rfl rfl 2 (by decide) (hts _ (List.mem_of_getElem? (i := 2) rfl)) (fun _ h9 => h9) rfl dX3_isListed_12 ?_
      refine lv_iload_n hx hb dX3_isListed_15 rfl (lv_at hl 0 rfl) ?_
      refine ar_ld hx hb hK hP 7 rfl i (nI_clamp (by omega)) (vp_in_nI (by omega) (by omega)) dX3_isListed_16 ?_
      refine lv_aload_n hx hb dX3_isListed_17 rfl (lv_at hl 2 rfl) ?_
      refine va_get (D := D) (ci := 1) (v := .ref (g 3)) (C := RX1) (T := TX1) (N := 10) hx hb hts (fun _ h9 => (List.mem_cons_of_mem _ (List.mem_append_right _ h9))) hown hK hP 12 rfl rfl 2 (by decide) (hts _ (List.mem_of_getElem? (i := 2) rfl)) (fun _ h9 => h9) rfl dX3_isListed_18 ?_
      refine lv_iload_n hx hb dX3_isListed_21 rfl (lv_at hl 0 rfl) ?_
      refine ar_ld hx hb hK hP 15 rfl i (nI_clamp (by omega)) (vp_in_nI (by omega) (by omega)) dX3_isListed_22 ?_
      refine lv_icmp_ne (tgt := 62) hx hb dX3_isListed_23 (by decide) (fun c_2 => ?_) (fun c_2 => ?_)
      · refine lv_iconst (v := 0) hx hb dX3_isListed_62 (by decide) ?_
        subst hQ
        exact rt_z hx hb hr hlocks hS dX3_isListed_63 (hP) (rfl) (by rw [← hv, lsR_s _ _ c_1]; simp [bI, c_1, c_2])
      · refine lv_aload_n hx hb dX3_isListed_26 rfl (lv_at hl 1 rfl) ?_
        refine va_get (D := D) (ci := 3) (v := .ref (b 0)) (C := RX3) (T := TX3) (N := 6) hx hb hts (fun _ h9 => (List.mem_cons_of_mem _ (List.mem_append_left _ (List.mem_append_right _ h9)))) hown hK hP 0 rfl rfl 4 (by decide) (hts _ (List.mem_of_getElem? (i := 1) rfl)) (fun _ h9 => h9) rfl dX3_isListed_27 ?_
        refine va_get (D := D) (ci := 1) (v := .ref (b 2)) (C := RX1) (T := TX1) (N := 10) hx hb hts (fun _ h9 => (List.mem_cons_of_mem _ (List.mem_append_right _ h9))) hown hK hP 4 rfl rfl 1 (by decide) (hts _ (List.mem_of_getElem? (i := 3) rfl)) (fun _ h9 => h9) rfl dX3_isListed_30 ?_
        refine lv_iload_n hx hb dX3_isListed_33 rfl (lv_at hl 0 rfl) ?_
        refine ar_ld hx hb hK hP 6 rfl i (nI_clamp (by omega)) (vp_in_nI (by omega) (by omega)) dX3_isListed_34 ?_
        refine lv_aload_n hx hb dX3_isListed_35 rfl (lv_at hl 2 rfl) ?_
        refine va_get (D := D) (ci := 1) (v := .ref (g 2)) (C := RX1) (T := TX1) (N := 10) hx hb hts (fun _ h9 => (List.mem_cons_of_mem _ (List.mem_append_right _ h9))) hown hK hP 12 rfl rfl 1 (by decide) (hts _ (List.mem_of_getElem? (i := 3) rfl)) (fun _ h9 => h9) rfl dX3_isListed_36 ?_
        refine lv_iload_n hx hb dX3_isListed_39 rfl (lv_at hl 0 rfl) ?_
        refine ar_ld hx hb hK hP 14 rfl i (nI_clamp (by omega)) (vp_in_nI (by omega) (by omega)) dX3_isListed_40 ?_
        refine lv_icmp_ne (tgt := 62) hx hb dX3_isListed_41 (by decide) (fun c_3 => ?_) (fun c_3 => ?_)
        · refine lv_iconst (v := 0) hx hb dX3_isListed_62 (by decide) ?_
          subst hQ
          exact rt_z hx hb hr hlocks hS dX3_isListed_63 (hP) (rfl) (by rw [← hv, lsR_s _ _ c_1]; simp [bI, c_1, c_2, c_3])
        · refine lv_aload_n hx hb dX3_isListed_44 rfl (lv_at hl 1 rfl) ?_
          refine va_get (D := D) (ci := 3) (v := .ref (b 0)) (C := RX3) (T := TX3) (N := 6) hx hb hts (fun _ h9 => (List.mem_cons_of_mem _ (List.mem_append_left _ (List.mem_append_right _ h9)))) hown hK hP 0 rfl rfl 4 (by decide) (hts _ (List.mem_of_getElem? (i := 1) rfl)) (fun _ h9 => h9) rfl dX3_isListed_45 ?_
          refine va_get (D := D) (ci := 1) (v := .ref (b 4)) (C := RX1) (T := TX1) (N := 10) hx hb hts (fun _ h9 => (List.mem_cons_of_mem _ (List.mem_append_right _ h9))) hown hK hP 4 rfl rfl 3 (by decide) (hts _ (List.mem_of_getElem? (i := 4) rfl)) (fun _ h9 => h9) rfl dX3_isListed_48 ?_
          refine lv_iload_n hx hb dX3_isListed_51 rfl (lv_at hl 0 rfl) ?_
          refine ar_ld hx hb hK hP 8 rfl i (nI_clamp (by omega)) (vp_in_nI (by omega) (by omega)) dX3_isListed_52 ?_
          refine lv_aload_n hx hb dX3_isListed_53 rfl (lv_at hl 2 rfl) ?_
          refine va_get (D := D) (ci := 1) (v := .ref (g 4)) (C := RX1) (T := TX1) (N := 10) hx hb hts (fun _ h9 => (List.mem_cons_of_mem _ (List.mem_append_right _ h9))) hown hK hP 12 rfl rfl 3 (by decide) (hts _ (List.mem_of_getElem? (i := 4) rfl)) (fun _ h9 => h9) rfl dX3_isListed_54 ?_
          refine lv_iload_n hx hb dX3_isListed_57 rfl (lv_at hl 0 rfl) ?_
          refine ar_ld hx hb hK hP 16 rfl i (nI_clamp (by omega)) (vp_in_nI (by omega) (by omega)) dX3_isListed_58 ?_
          refine lv_icmp_eq (tgt := 64) hx hb dX3_isListed_59 (by decide) (fun c_4 => ?_) (fun c_4 => ?_)
          · refine lv_iinc (v := (nI (i + 1))) (lv' := [(2, .int (nI (i + 1))), (0, .ref (a 0)), (1, .ref (g 0))]) hx hb dX3_isListed_64 hl (k := 0) rfl (nI_1 i) (by decide) rfl (fun ls hl => ?_)
            refine lv_goto (tgt := 2) hx hb dX3_isListed_67 (by decide) ?_
            exact ih_i (i + 1)  (by omega) (by omega)  (by rw [← hv, lsR_s _ _ c_1]; simp [c_1, c_2, c_3, c_4]) _ _ _ hP hD hS (lv_sub hl [0, 1, 2] rfl)
          · refine lv_iconst (v := 0) hx hb dX3_isListed_62 (by decide) ?_
            subst hQ
            exact rt_z hx hb hr hlocks hS dX3_isListed_63 (hP) (rfl) (by rw [← hv, lsR_s _ _ c_1]; simp [bI, c_1, c_2, c_3, c_4])
