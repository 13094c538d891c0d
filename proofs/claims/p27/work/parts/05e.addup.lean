theorem dn_neg {u : Nat} (h : u ≤ 9) (c : nI u + (-1 : Int32) < 0) : u = 0 := by
  have : ∀ j : Fin 10, nI j.val + (-1 : Int32) < 0 → j.val = 0 := by decide
  exact this ⟨u, by omega⟩ c
theorem dn_pos {u : Nat} (h : u ≤ 9) (c : ¬ nI u + (-1 : Int32) < 0) : ∃ q : Nat, u = q + 1 ∧ nI u + (-1 : Int32) = nI q := by
  cases u with
  | zero => exact absurd (by decide) c
  | succ q => exact ⟨q, rfl, pk_m1 q⟩
/-- a row filled from its end -/
def dnF (g f : Nat → Int32) (n : Nat) : Nat → Int32 := fun j => if 9 - n ≤ j ∧ j < 9 then g j else f j
theorem dnF_0 (g f : Nat → Int32) : dnF g f 0 = f := by
  funext j
  exact if_neg (by omega)
theorem dnF_s (g f : Nat → Int32) {n q : Nat} (h : 9 - n = q + 1) : upd (dnF g f n) q (g q) = dnF g f (n + 1) := by
  funext j
  unfold upd dnF
  by_cases hj : j = q
  · subst hj; rw [if_pos rfl, if_pos (by omega)]
  · rw [if_neg hj]
    by_cases h2 : 9 - n ≤ j ∧ j < 9
    · rw [if_pos h2, if_pos (by omega)]
    · rw [if_neg h2, if_neg (by omega)]
theorem dnF_in (g f : Nat → Int32) {n j : Nat} (h : 9 - n ≤ j) (h2 : j < 9) : dnF g f n j = g j := if_pos ⟨h, h2⟩
theorem up_up (f : Nat → Int32) (i : Nat) (x y : Int32) : upd (upd f i x) i y = upd f i y := by
  funext j
  unfold upd
  by_cases h : j = i <;> simp [h]
theorem up_ne (f : Nat → Int32) {i j : Nat} (x : Int32) (h : j ≠ i) : upd f i x j = f j := if_neg h
theorem up_eq (f : Nat → Int32) (i : Nat) (x : Int32) : upd f i x i = x := if_pos rfl
/-- ways from a piece on, told by adding up -/
def auS (J : Nat → Int32) (w : Nat → Int32) (q : Nat) (b : Int32) : Nat → Int32
  | 0 => b
  | t + 1 => auS J w q b t + bitv (J q) (nI (q + 1 + t)) * w (q + 1 + t)
def auB (Mk : Nat → Int32) (q : Nat) : Int32 := if Mk q &&& 2 = 0 then 0 else 1
def auN (J Mk : Nat → Int32) : Nat → Nat → Int32
  | 0, _ => 0
  | n + 1, q => auS J (auN J Mk n) q (auB Mk q) (9 - (q + 1))
theorem auS_cong {J w w2 : Nat → Int32} {q : Nat} {b : Int32} : ∀ t : Nat, (∀ x, q < x → x < q + 1 + t → w x = w2 x) → auS J w q b t = auS J w2 q b t
  | 0, _ => rfl
  | t + 1, h => by rw [auS, auS, auS_cong t (fun x a b => h x a (by omega)), h (q + 1 + t) (by omega) (by omega)]
theorem auN_fuel (J Mk : Nat → Int32) : ∀ n q : Nat, 9 - q ≤ n → q < 9 → auN J Mk (n + 1) q = auN J Mk n q
  | 0, q, h, h2 => by omega
  | n + 1, q, h, h2 => by
    show auS J (auN J Mk (n + 1)) q (auB Mk q) (9 - (q + 1)) = auS J (auN J Mk n) q (auB Mk q) (9 - (q + 1))
    exact auS_cong _ (fun x a b => auN_fuel J Mk n x (by omega) (by omega))
/-- from a piece on; and of all starts, the last i of them -/
def auG (J Mk : Nat → Int32) (q : Nat) : Int32 := auN J Mk 9 q
theorem auG_s (J Mk : Nat → Int32) {q : Nat} (h : q < 9) : auG J Mk q = auS J (auG J Mk) q (auB Mk q) (9 - (q + 1)) := by
  show auS J (auN J Mk 8) q (auB Mk q) (9 - (q + 1)) = _
  exact auS_cong _ (fun x a b => (auN_fuel J Mk 8 x (by omega) (by omega)).symm)
def auT (J Mk : Nat → Int32) : Nat → Int32
  | 0 => 0
  | i + 1 => if Mk (8 - i) &&& 1 = 0 then auT J Mk i else auT J Mk i + auG J Mk (8 - i)
theorem auS_s (J w : Nat → Int32) (b : Int32) {q i : Nat} (h : q + 1 ≤ i) : auS J w q b (i + 1 - (q + 1)) = auS J w q b (i - (q + 1)) + bitv (J q) (nI i) * w i := by
  rw [show i + 1 - (q + 1) = (i - (q + 1)) + 1 from by omega, auS, show q + 1 + (i - (q + 1)) = i from by omega]

set_option maxHeartbeats 1000000 in
set_option maxRecDepth 100000 in
theorem c_X3_addUp (l : Launch) (D : va_G) (k : Nat → ClassId) (a b g : Nat → Nat) (S T : Nat → Nat → Int32) (al op wf : Nat → Int32) (na no : Int32)  : MI l yX3_addUp wsX3_addUp ({ frames := 1, cells := 0, slots := 0, locals := 21 }) D k [.ref (a 0), .ref (g 0)] (wWy k a b S al op wf na no ++ (wSt k g T)) (auT (T 2) (T 1) 9) (wWy k a b S al op (dnF (auG (T 2) (T 1)) wf 9) na no ++ wSt k g T) := by
  intro sz
  refine Met.ofW (cc := cX3_addUp) (maxL := 5) (ret := (some .int)) (by decide) rfl ?_
  intro p e s m args below meth c s₁ B hml hv
  obtain ⟨rfl, hN, hsz, hP, hK, hD0⟩ := hv
  have hx := B.exec
  have hb := B.bytes
  have hr := B.returns
  have hts := atoms_spec (ws := wsX3_addUp) B.pre
  have hown : s.vm.findClass RX3 = some m.cls := findClass_of_methodNamed B.named
  have hlocks := B.notSynchronized
  subst hsz
  have hD := hD0.self (sz := s.heap.size)
  generalize hAe : va_A (wWy k a b S al op wf na no ++ (wSt k g T)) s.heap.size = A at hD ⊢
  have hA : ∀ q : Nat, s.heap.size ≤ q → A q := fun q h => by rw [← hAe]; exact Or.inr h
  have hS : va_S A s.heap s.heap [] := va_S.rf
  have hl := lv_entry ([.ref (a 0), .ref (g 0)]) (n := 5) (Nat.le_of_ble_eq_true rfl)
  rw [lg_entry_eq]
  generalize (lg_sl ([.ref (a 0), .ref (g 0)]) ++ List.replicate (5 - (lg_sl ([.ref (a 0), .ref (g 0)])).length) Slot.unset).toArray = ls at hl ⊢
  have hl : lv_has ls 5 [(0, .ref (a 0)), (1, .ref (g 0))] := hl
  obtain ⟨H, hHe⟩ : ∃ H, H = s.heap := ⟨_, rfl⟩
  have hP : va_P D vwCl (wWy k a b S al op wf na no ++ (wSt k g T)) H := by rw [hHe]; exact hP
  have hS : va_S A s.heap H [] := by rw [hHe]; exact hS
  rw [← hHe]
  refine absQ (fun Q hQ => ?_)
  refine lv_iconst (v := 0) hx hb dX3_addUp_0 (by decide) ?_
  refine lv_istore_n (lv' := [(2, .int 0), (0, .ref (a 0)), (1, .ref (g 0))]) hx hb dX3_addUp_1 rfl hl (by decide) rfl (fun ls hl => ?_)
  refine lv_bipush (v := 8) hx hb dX3_addUp_2 (by decide) ?_
  refine lv_istore_n (lv' := [(3, .int 8), (2, .int 0), (0, .ref (a 0)), (1, .ref (g 0))]) hx hb dX3_addUp_4 rfl hl (by decide) rfl (fun ls hl => ?_)
  suffices LOOP_i : ∀ (fu_i i : Nat) (x3 : Int32) (x2 : Int32) (g3 : Nat → Int32), 9 - i < fu_i → i ≤ 9 → x3 = nI (9 - i) + (-1 : Int32) → x2 = auT (T 2) (T 1) i → g3 = dnF (auG (T 2) (T 1)) wf i → ∀ (H : Heap) (locs : List Loc) (ls : Array Slot), va_P D vwCl ([(a 0, .inr (3, [.ref (a 1), .ref (a 2), .int na, .int no, .ref (b 0), .ref (a 3)])), (a 1, .inl (k 0, 512, .inl al)), (a 2, .inl (k 0, 512, .inl op)), (a 3, .inl (k 0, 9, .inl g3)), (b 0, .inr (1, [.ref (b 1), .ref (b 2), .ref (b 3), .ref (b 4), .ref (b 5), .ref (b 6), .ref (b 7), .int (S 7 0), .int (S 7 1), .int (S 7 2)])), (b 1, .inl (k 0, 9, .inl (S 0))), (b 2, .inl (k 0, 9, .inl (S 1))), (b 3, .inl (k 0, 9, .inl (S 2))), (b 4, .inl (k 0, 9, .inl (S 3))), (b 5, .inl (k 0, 9, .inl (S 4))), (b 6, .inl (k 0, 12, .inl (S 5))), (b 7, .inl (k 0, 12, .inl (S 6)))] ++ (wSt k g T)) H → va_D A ([(a 0, .inr (3, [.ref (a 1), .ref (a 2), .int na, .int no, .ref (b 0), .ref (a 3)])), (a 1, .inl (k 0, 512, .inl al)), (a 2, .inl (k 0, 512, .inl op)), (a 3, .inl (k 0, 9, .inl g3)), (b 0, .inr (1, [.ref (b 1), .ref (b 2), .ref (b 3), .ref (b 4), .ref (b 5), .ref (b 6), .ref (b 7), .int (S 7 0), .int (S 7 1), .int (S 7 2)])), (b 1, .inl (k 0, 9, .inl (S 0))), (b 2, .inl (k 0, 9, .inl (S 1))), (b 3, .inl (k 0, 9, .inl (S 2))), (b 4, .inl (k 0, 9, .inl (S 3))), (b 5, .inl (k 0, 9, .inl (S 4))), (b 6, .inl (k 0, 12, .inl (S 5))), (b 7, .inl (k 0, 12, .inl (S 6)))] ++ (wSt k g T)) → va_S A s.heap H locs → lv_has ls 5 [(3, .int x3), (2, .int x2), (0, .ref (a 0)), (1, .ref (g 0))] → W p l e ({ frames := 1, cells := 0, slots := 0, locals := 21 } : Room) s m ([.ref (a 0), .ref (g 0)] : List Value).toArray below meth c H locs 0 0 Q (F0 m 5 ls []) from LOOP_i (9 + 1) 0 8 0 wf (by omega) (by omega) (by decide) (rfl) ((dnF_0 _ _).symm)  _ _ _ hP hD hS (lv_sub hl [0, 1, 2, 3] rfl)
  clear hP hD hS hl hHe
  intro fu_i
  induction fu_i with
  | zero => intro i x3 x2 g3 hn_i; omega
  | succ fu_i ih_i =>
    intro i x3 x2 g3 hn_i hle_i e_x3 e_x2 e_g3  H locs ls hP hD hS hl
    subst e_x3
    subst e_x2
    subst e_g3
    refine lv_iload_n hx hb dX3_addUp_5 rfl (lv_at hl 0 rfl) ?_
    refine lv_if_lt (tgt := 103) hx hb dX3_addUp_6 (by decide) (fun c_1 => ?_) (fun c_1 => ?_)
    · have h9 := dn_neg (show 9 - i ≤ 9 from by omega) c_1
      obtain rfl : i = 9 := by omega
      refine lv_iload_n hx hb dX3_addUp_103 rfl (lv_at hl 1 rfl) ?_
      subst hQ
      exact rt_i hx hb hr hlocks hS dX3_addUp_104 (hP) (rfl)
    · obtain ⟨q, hq, hx2⟩ := dn_pos (show 9 - i ≤ 9 from by omega) c_1
      rw [hx2] at hl
      have hl : lv_has ls 5 [(3, .int (nI q)), (2, .int (auT (T 2) (T 1) i)), (0, .ref (a 0)), (1, .ref (g 0))] := hl
      have hq9 : q < 9 := by omega
      have hi8 : 8 - i = q := by omega
      refine lv_aload_n hx hb dX3_addUp_9 rfl (lv_at hl 2 rfl) ?_
      refine va_get (D := D) (ci := 3) (v := .ref (a 3)) (C := RX3) (T := TX3) (N := 6) hx hb hts (fun _ h9 => (List.mem_cons_of_mem _ (List.mem_append_left _ (List.mem_append_right _ h9)))) hown hK hP 0 rfl rfl 5 (by decide) (hts _ (List.mem_of_getElem? (i := 1) rfl)) (fun _ h9 => h9) rfl dX3_addUp_10 ?_
      refine lv_iload_n hx hb dX3_addUp_13 rfl (lv_at hl 0 rfl) ?_
      refine lv_aload_n hx hb dX3_addUp_14 rfl (lv_at hl 3 rfl) ?_
      refine va_get (D := D) (ci := 1) (v := .ref (g 2)) (C := RX1) (T := TX1) (N := 10) hx hb hts (fun _ h9 => (List.mem_cons_of_mem _ (List.mem_append_right _ h9))) hown hK hP 12 rfl rfl 1 (by decide) (hts _ (List.mem_of_getElem? (i := 2) rfl)) (fun _ h9 => h9) rfl dX3_addUp_15 ?_
      refine lv_iload_n hx hb dX3_addUp_18 rfl (lv_at hl 0 rfl) ?_
      refine ar_ld hx hb hK hP 14 rfl q (nI_clamp (by omega)) (vp_in_nI (by omega) (by omega)) dX3_addUp_19 ?_
      refine lv_iconst (v := 2) hx hb dX3_addUp_20 (by decide) ?_
      refine lv_iand hx hb dX3_addUp_21 ?_
      refine lv_if_eq (tgt := 29) hx hb dX3_addUp_22 (by decide) (fun c_2 => ?_) (fun c_2 => ?_)
      · refine lv_iconst (v := 0) hx hb dX3_addUp_29 (by decide) ?_
        refine ar_st hx hb hK hP hD hS 3 rfl q (nI_clamp (by omega)) (vp_in_nI (by omega) (by omega)) dX3_addUp_30 (wn := ([(a 0, .inr (3, [.ref (a 1), .ref (a 2), .int na, .int no, .ref (b 0), .ref (a 3)])), (a 1, .inl (k 0, 512, .inl al)), (a 2, .inl (k 0, 512, .inl op)), (a 3, .inl (k 0, 9, .inl (upd (dnF (auG (T 2) (T 1)) wf i) q 0))), (b 0, .inr (1, [.ref (b 1), .ref (b 2), .ref (b 3), .ref (b 4), .ref (b 5), .ref (b 6), .ref (b 7), .int (S 7 0), .int (S 7 1), .int (S 7 2)])), (b 1, .inl (k 0, 9, .inl (S 0))), (b 2, .inl (k 0, 9, .inl (S 1))), (b 3, .inl (k 0, 9, .inl (S 2))), (b 4, .inl (k 0, 9, .inl (S 3))), (b 5, .inl (k 0, 9, .inl (S 4))), (b 6, .inl (k 0, 12, .inl (S 5))), (b 7, .inl (k 0, 12, .inl (S 6)))] ++ (wSt k g T))) rfl (fun H locs hP hD hS => ?_)
        refine lv_iload_n hx hb dX3_addUp_31 rfl (lv_at hl 0 rfl) ?_
        refine lv_iconst (v := 1) hx hb dX3_addUp_32 (by decide) ?_
        refine lv_iadd hx hb dX3_addUp_33 ?_
        refine tp_e (y := (nI (q + 1))) (nI_add _ _) ?_
        refine lv_istore (lv' := [(4, .int (nI (q + 1))), (3, .int (nI q)), (2, .int (auT (T 2) (T 1) i)), (0, .ref (a 0)), (1, .ref (g 0))]) hx hb dX3_addUp_34 hl (by decide) rfl (fun ls hl => ?_)
        suffices LOOP_j : ∀ (fu_j j : Nat) (g4 : Nat → Int32), 9 - j < fu_j → j ≤ 9 → g4 = upd (dnF (auG (T 2) (T 1)) wf i) q (auS (T 2) (auG (T 2) (T 1)) q (auB (T 1) q) (j - (q + 1))) → (q + 1) ≤ j → ∀ (H : Heap) (locs : List Loc) (ls : Array Slot), va_P D vwCl ([(a 0, .inr (3, [.ref (a 1), .ref (a 2), .int na, .int no, .ref (b 0), .ref (a 3)])), (a 1, .inl (k 0, 512, .inl al)), (a 2, .inl (k 0, 512, .inl op)), (a 3, .inl (k 0, 9, .inl g4)), (b 0, .inr (1, [.ref (b 1), .ref (b 2), .ref (b 3), .ref (b 4), .ref (b 5), .ref (b 6), .ref (b 7), .int (S 7 0), .int (S 7 1), .int (S 7 2)])), (b 1, .inl (k 0, 9, .inl (S 0))), (b 2, .inl (k 0, 9, .inl (S 1))), (b 3, .inl (k 0, 9, .inl (S 2))), (b 4, .inl (k 0, 9, .inl (S 3))), (b 5, .inl (k 0, 9, .inl (S 4))), (b 6, .inl (k 0, 12, .inl (S 5))), (b 7, .inl (k 0, 12, .inl (S 6)))] ++ (wSt k g T)) H → va_D A ([(a 0, .inr (3, [.ref (a 1), .ref (a 2), .int na, .int no, .ref (b 0), .ref (a 3)])), (a 1, .inl (k 0, 512, .inl al)), (a 2, .inl (k 0, 512, .inl op)), (a 3, .inl (k 0, 9, .inl g4)), (b 0, .inr (1, [.ref (b 1), .ref (b 2), .ref (b 3), .ref (b 4), .ref (b 5), .ref (b 6), .ref (b 7), .int (S 7 0), .int (S 7 1), .int (S 7 2)])), (b 1, .inl (k 0, 9, .inl (S 0))), (b 2, .inl (k 0, 9, .inl (S 1))), (b 3, .inl (k 0, 9, .inl (S 2))), (b 4, .inl (k 0, 9, .inl (S 3))), (b 5, .inl (k 0, 9, .inl (S 4))), (b 6, .inl (k 0, 12, .inl (S 5))), (b 7, .inl (k 0, 12, .inl (S 6)))] ++ (wSt k g T)) → va_S A s.heap H locs → lv_has ls 5 [(4, .int (nI j)), (3, .int (nI q)), (2, .int (auT (T 2) (T 1) i)), (0, .ref (a 0)), (1, .ref (g 0))] → W p l e ({ frames := 1, cells := 0, slots := 0, locals := 21 } : Room) s m ([.ref (a 0), .ref (g 0)] : List Value).toArray below meth c H locs 0 0 Q (F0 m 36 ls []) from LOOP_j (9 + 1) (q + 1) (upd (dnF (auG (T 2) (T 1)) wf i) q 0) (by omega) (by omega) (by rw [show q + 1 - (q + 1) = 0 from by omega, auS, auB, if_pos c_2]) (by omega) _ _ _ hP hD hS (lv_sub hl [0, 1, 2, 3, 4] rfl)
        clear hP hD hS hl
        intro fu_j
        induction fu_j with
        | zero => intro j g4 hn_j; omega
        | succ fu_j ih_j =>
          intro j g4 hn_j hle_j e_g4 hlo_j H locs ls hP hD hS hl
          subst e_g4
          refine lv_iload hx hb dX3_addUp_36 (lv_at hl 0 rfl) ?_
          refine lv_bipush (v := 9) hx hb dX3_addUp_38 (by decide) ?_
          refine lv_icmp_ge (tgt := 77) hx hb dX3_addUp_40 (by decide) (fun c_3 => ?_) (fun c_3 => ?_)
          · have c_3 : 9 ≤ j := (nI_leI (a := 9) (b := j) (by omega) (by omega)).mp c_3
            obtain rfl : j = 9 := by omega
            refine lv_aload_n hx hb dX3_addUp_77 rfl (lv_at hl 4 rfl) ?_
            refine va_get (D := D) (ci := 1) (v := .ref (g 2)) (C := RX1) (T := TX1) (N := 10) hx hb hts (fun _ h9 => (List.mem_cons_of_mem _ (List.mem_append_right _ h9))) hown hK hP 12 rfl rfl 1 (by decide) (hts _ (List.mem_of_getElem? (i := 2) rfl)) (fun _ h9 => h9) rfl dX3_addUp_78 ?_
            refine lv_iload_n hx hb dX3_addUp_81 rfl (lv_at hl 1 rfl) ?_
            refine ar_ld hx hb hK hP 14 rfl q (nI_clamp (by omega)) (vp_in_nI (by omega) (by omega)) dX3_addUp_82 ?_
            refine lv_iconst (v := 1) hx hb dX3_addUp_83 (by decide) ?_
            refine lv_iand hx hb dX3_addUp_84 ?_
            refine lv_if_eq (tgt := 97) hx hb dX3_addUp_85 (by decide) (fun c_4 => ?_) (fun c_4 => ?_)
            · refine lv_iinc (v := (nI q) + (-1)) (lv' := [(3, .int ((nI q) + (-1))), (4, .int (nI 9)), (2, .int (auT (T 2) (T 1) i)), (0, .ref (a 0)), (1, .ref (g 0))]) hx hb dX3_addUp_97 hl (k := 1) rfl rfl (by decide) rfl (fun ls hl => ?_)
              refine lv_goto (tgt := 5) hx hb dX3_addUp_100 (by decide) ?_
              exact ih_i (i + 1) ((nI q) + (-1)) (auT (T 2) (T 1) i) (upd (dnF (auG (T 2) (T 1)) wf i) q (auS (T 2) (auG (T 2) (T 1)) q (auB (T 1) q) (9 - (q + 1)))) (by omega) (by omega) (by rw [show 9 - (i + 1) = q from by omega]) (by rw [auT, hi8, if_pos c_4]) (by rw [← auG_s _ _ hq9]; exact dnF_s _ _ hq)  _ _ _ hP hD hS (lv_sub hl [0, 2, 3, 4] rfl)
            · refine lv_iload_n hx hb dX3_addUp_88 rfl (lv_at hl 2 rfl) ?_
              refine lv_aload_n hx hb dX3_addUp_89 rfl (lv_at hl 3 rfl) ?_
              refine va_get (D := D) (ci := 3) (v := .ref (a 3)) (C := RX3) (T := TX3) (N := 6) hx hb hts (fun _ h9 => (List.mem_cons_of_mem _ (List.mem_append_left _ (List.mem_append_right _ h9)))) hown hK hP 0 rfl rfl 5 (by decide) (hts _ (List.mem_of_getElem? (i := 1) rfl)) (fun _ h9 => h9) rfl dX3_addUp_90 ?_
              refine lv_iload_n hx hb dX3_addUp_93 rfl (lv_at hl 1 rfl) ?_
              refine ar_ld hx hb hK hP 3 rfl q (nI_clamp (by omega)) (vp_in_nI (by omega) (by omega)) dX3_addUp_94 ?_
              refine lv_iadd hx hb dX3_addUp_95 ?_
              refine lv_istore_n (lv' := [(2, .int ((auT (T 2) (T 1) i) + ((upd (dnF (auG (T 2) (T 1)) wf i) q (auS (T 2) (auG (T 2) (T 1)) q (auB (T 1) q) (9 - (q + 1)))) q))), (4, .int (nI 9)), (3, .int (nI q)), (0, .ref (a 0)), (1, .ref (g 0))]) hx hb dX3_addUp_96 rfl hl (by decide) rfl (fun ls hl => ?_)
              refine lv_iinc (v := (nI q) + (-1)) (lv' := [(3, .int ((nI q) + (-1))), (2, .int ((auT (T 2) (T 1) i) + ((upd (dnF (auG (T 2) (T 1)) wf i) q (auS (T 2) (auG (T 2) (T 1)) q (auB (T 1) q) (9 - (q + 1)))) q))), (4, .int (nI 9)), (0, .ref (a 0)), (1, .ref (g 0))]) hx hb dX3_addUp_97 hl (k := 2) rfl rfl (by decide) rfl (fun ls hl => ?_)
              refine lv_goto (tgt := 5) hx hb dX3_addUp_100 (by decide) ?_
              exact ih_i (i + 1) ((nI q) + (-1)) ((auT (T 2) (T 1) i) + ((upd (dnF (auG (T 2) (T 1)) wf i) q (auS (T 2) (auG (T 2) (T 1)) q (auB (T 1) q) (9 - (q + 1)))) q)) (upd (dnF (auG (T 2) (T 1)) wf i) q (auS (T 2) (auG (T 2) (T 1)) q (auB (T 1) q) (9 - (q + 1)))) (by omega) (by omega) (by rw [show 9 - (i + 1) = q from by omega]) (by rw [auT, hi8, if_neg c_4]; rw [up_eq, ← auG_s _ _ hq9]) (by rw [← auG_s _ _ hq9]; exact dnF_s _ _ hq)  _ _ _ hP hD hS (lv_sub hl [0, 1, 3, 4] rfl)
          · have c_3 : ¬ (9 ≤ j) := fun h9 => c_3 ((nI_leI (a := 9) (b := j) (by omega) (by omega)).mpr h9)
            refine lv_aload_n hx hb dX3_addUp_43 rfl (lv_at hl 3 rfl) ?_
            refine va_get (D := D) (ci := 3) (v := .ref (a 3)) (C := RX3) (T := TX3) (N := 6) hx hb hts (fun _ h9 => (List.mem_cons_of_mem _ (List.mem_append_left _ (List.mem_append_right _ h9)))) hown hK hP 0 rfl rfl 5 (by decide) (hts _ (List.mem_of_getElem? (i := 1) rfl)) (fun _ h9 => h9) rfl dX3_addUp_44 ?_
            refine lv_iload_n hx hb dX3_addUp_47 rfl (lv_at hl 1 rfl) ?_
            refine lv_dup2_11 hx hb dX3_addUp_48 rfl rfl ?_
            refine ar_ld hx hb hK hP 3 rfl q (nI_clamp (by omega)) (vp_in_nI (by omega) (by omega)) dX3_addUp_49 ?_
            refine lv_aload_n hx hb dX3_addUp_50 rfl (lv_at hl 4 rfl) ?_
            refine va_get (D := D) (ci := 1) (v := .ref (g 3)) (C := RX1) (T := TX1) (N := 10) hx hb hts (fun _ h9 => (List.mem_cons_of_mem _ (List.mem_append_right _ h9))) hown hK hP 12 rfl rfl 2 (by decide) (hts _ (List.mem_of_getElem? (i := 3) rfl)) (fun _ h9 => h9) rfl dX3_addUp_51 ?_
            refine lv_iload_n hx hb dX3_addUp_54 rfl (lv_at hl 1 rfl) ?_
            refine ar_ld hx hb hK hP 15 rfl q (nI_clamp (by omega)) (vp_in_nI (by omega) (by omega)) dX3_addUp_55 ?_
            refine lv_iload hx hb dX3_addUp_56 (lv_at hl 0 rfl) ?_
            have hPc : va_P D vwCl ([]) H := hP.sub [] rfl
            have hDc : va_D A ([]) := hD.sub [] (by decide +kernel) rfl
            refine cl_i0 (va_runSN (As := [.int ((T 2) q), .int (nI j)]) (rest := [.int ((upd (dnF (auG (T 2) (T 1)) wf i) q (auS (T 2) (auG (T 2) (T 1)) q (auB (T 1) q) (j - (q + 1)))) q), .int (nI q), .ref (a 3)]) ⟨hx, hb, hml, hown, hts⟩ (c_X4_bit l D k ((T 2) q) (nI j) H.size) ⟨va_cnB 2 hts gX3_addUp_X4_bit_n60 rfl rfl rfl hN.2.2.2.2.2.2.2.1 (hts (.initialized RX4) (List.mem_of_getElem? (i := 5) rfl)) (by decide +kernel) ⟨Nat.le_of_ble_eq_true rfl, Nat.le_of_ble_eq_true rfl⟩, hts (.static yX4_bit) (List.mem_of_getElem? (i := 4) rfl), trivial⟩ ⟨pr_blind, pr_at hN hPc hK hDc⟩ rfl rfl hl.1 rfl (lv_room (Nat.le_of_ble_eq_true rfl)) dX3_addUp_58 ⟨Nat.le_of_ble_eq_true rfl, Nat.le_of_ble_eq_true rfl⟩) hP hD hS hA [] rfl (fun H locs hP hD hS => ?_)
            clear hPc hDc
            refine lv_aload_n hx hb dX3_addUp_61 rfl (lv_at hl 3 rfl) ?_
            refine va_get (D := D) (ci := 3) (v := .ref (a 3)) (C := RX3) (T := TX3) (N := 6) hx hb hts (fun _ h9 => (List.mem_cons_of_mem _ (List.mem_append_left _ (List.mem_append_right _ h9)))) hown hK hP 0 rfl rfl 5 (by decide) (hts _ (List.mem_of_getElem? (i := 1) rfl)) (fun _ h9 => h9) rfl dX3_addUp_62 ?_
            refine lv_iload hx hb dX3_addUp_65 (lv_at hl 0 rfl) ?_
            refine ar_ld hx hb hK hP 3 rfl j (nI_clamp (by omega)) (vp_in_nI (by omega) (by omega)) dX3_addUp_67 ?_
            refine lv_imul hx hb dX3_addUp_68 ?_
            refine lv_iadd hx hb dX3_addUp_69 ?_
            refine ar_st hx hb hK hP hD hS 3 rfl q (nI_clamp (by omega)) (vp_in_nI (by omega) (by omega)) dX3_addUp_70 (wn := ([(a 0, .inr (3, [.ref (a 1), .ref (a 2), .int na, .int no, .ref (b 0), .ref (a 3)])), (a 1, .inl (k 0, 512, .inl al)), (a 2, .inl (k 0, 512, .inl op)), (a 3, .inl (k 0, 9, .inl (upd (upd (dnF (auG (T 2) (T 1)) wf i) q (auS (T 2) (auG (T 2) (T 1)) q (auB (T 1) q) (j - (q + 1)))) q (((upd (dnF (auG (T 2) (T 1)) wf i) q (auS (T 2) (auG (T 2) (T 1)) q (auB (T 1) q) (j - (q + 1)))) q) + ((bitv ((T 2) q) (nI j)) * ((upd (dnF (auG (T 2) (T 1)) wf i) q (auS (T 2) (auG (T 2) (T 1)) q (auB (T 1) q) (j - (q + 1)))) j)))))), (b 0, .inr (1, [.ref (b 1), .ref (b 2), .ref (b 3), .ref (b 4), .ref (b 5), .ref (b 6), .ref (b 7), .int (S 7 0), .int (S 7 1), .int (S 7 2)])), (b 1, .inl (k 0, 9, .inl (S 0))), (b 2, .inl (k 0, 9, .inl (S 1))), (b 3, .inl (k 0, 9, .inl (S 2))), (b 4, .inl (k 0, 9, .inl (S 3))), (b 5, .inl (k 0, 9, .inl (S 4))), (b 6, .inl (k 0, 12, .inl (S 5))), (b 7, .inl (k 0, 12, .inl (S 6)))] ++ (wSt k g T))) rfl (fun H locs hP hD hS => ?_)
            refine lv_iinc (v := (nI (j + 1))) (lv' := [(4, .int (nI (j + 1))), (3, .int (nI q)), (2, .int (auT (T 2) (T 1) i)), (0, .ref (a 0)), (1, .ref (g 0))]) hx hb dX3_addUp_71 hl (k := 0) rfl (nI_1 j) (by decide) rfl (fun ls hl => ?_)
            refine lv_goto (tgt := 36) hx hb dX3_addUp_74 (by decide) ?_
            exact ih_j (j + 1) (upd (upd (dnF (auG (T 2) (T 1)) wf i) q (auS (T 2) (auG (T 2) (T 1)) q (auB (T 1) q) (j - (q + 1)))) q (((upd (dnF (auG (T 2) (T 1)) wf i) q (auS (T 2) (auG (T 2) (T 1)) q (auB (T 1) q) (j - (q + 1)))) q) + ((bitv ((T 2) q) (nI j)) * ((upd (dnF (auG (T 2) (T 1)) wf i) q (auS (T 2) (auG (T 2) (T 1)) q (auB (T 1) q) (j - (q + 1)))) j)))) (by omega) (by omega) (by rw [up_up, up_eq, up_ne _ _ (show j ≠ q from by omega), dnF_in _ _ (show 9 - i ≤ j from by omega) (by omega), auS_s _ _ _ (show q + 1 ≤ j from by omega)]) (by omega) _ _ _ hP hD hS (lv_sub hl [0, 1, 2, 3, 4] rfl)
      · refine lv_iconst (v := 1) hx hb dX3_addUp_25 (by decide) ?_
        refine lv_goto (tgt := 30) hx hb dX3_addUp_26 (by decide) ?_
        refine ar_st hx hb hK hP hD hS 3 rfl q (nI_clamp (by omega)) (vp_in_nI (by omega) (by omega)) dX3_addUp_30 (wn := ([(a 0, .inr (3, [.ref (a 1), .ref (a 2), .int na, .int no, .ref (b 0), .ref (a 3)])), (a 1, .inl (k 0, 512, .inl al)), (a 2, .inl (k 0, 512, .inl op)), (a 3, .inl (k 0, 9, .inl (upd (dnF (auG (T 2) (T 1)) wf i) q 1))), (b 0, .inr (1, [.ref (b 1), .ref (b 2), .ref (b 3), .ref (b 4), .ref (b 5), .ref (b 6), .ref (b 7), .int (S 7 0), .int (S 7 1), .int (S 7 2)])), (b 1, .inl (k 0, 9, .inl (S 0))), (b 2, .inl (k 0, 9, .inl (S 1))), (b 3, .inl (k 0, 9, .inl (S 2))), (b 4, .inl (k 0, 9, .inl (S 3))), (b 5, .inl (k 0, 9, .inl (S 4))), (b 6, .inl (k 0, 12, .inl (S 5))), (b 7, .inl (k 0, 12, .inl (S 6)))] ++ (wSt k g T))) rfl (fun H locs hP hD hS => ?_)
        refine lv_iload_n hx hb dX3_addUp_31 rfl (lv_at hl 0 rfl) ?_
        refine lv_iconst (v := 1) hx hb dX3_addUp_32 (by decide) ?_
        refine lv_iadd hx hb dX3_addUp_33 ?_
        refine tp_e (y := (nI (q + 1))) (nI_add _ _) ?_
        refine lv_istore (lv' := [(4, .int (nI (q + 1))), (3, .int (nI q)), (2, .int (auT (T 2) (T 1) i)), (0, .ref (a 0)), (1, .ref (g 0))]) hx hb dX3_addUp_34 hl (by decide) rfl (fun ls hl => ?_)
        suffices LOOP_j : ∀ (fu_j j : Nat) (g4 : Nat → Int32), 9 - j < fu_j → j ≤ 9 → g4 = upd (dnF (auG (T 2) (T 1)) wf i) q (auS (T 2) (auG (T 2) (T 1)) q (auB (T 1) q) (j - (q + 1))) → (q + 1) ≤ j → ∀ (H : Heap) (locs : List Loc) (ls : Array Slot), va_P D vwCl ([(a 0, .inr (3, [.ref (a 1), .ref (a 2), .int na, .int no, .ref (b 0), .ref (a 3)])), (a 1, .inl (k 0, 512, .inl al)), (a 2, .inl (k 0, 512, .inl op)), (a 3, .inl (k 0, 9, .inl g4)), (b 0, .inr (1, [.ref (b 1), .ref (b 2), .ref (b 3), .ref (b 4), .ref (b 5), .ref (b 6), .ref (b 7), .int (S 7 0), .int (S 7 1), .int (S 7 2)])), (b 1, .inl (k 0, 9, .inl (S 0))), (b 2, .inl (k 0, 9, .inl (S 1))), (b 3, .inl (k 0, 9, .inl (S 2))), (b 4, .inl (k 0, 9, .inl (S 3))), (b 5, .inl (k 0, 9, .inl (S 4))), (b 6, .inl (k 0, 12, .inl (S 5))), (b 7, .inl (k 0, 12, .inl (S 6)))] ++ (wSt k g T)) H → va_D A ([(a 0, .inr (3, [.ref (a 1), .ref (a 2), .int na, .int no, .ref (b 0), .ref (a 3)])), (a 1, .inl (k 0, 512, .inl al)), (a 2, .inl (k 0, 512, .inl op)), (a 3, .inl (k 0, 9, .inl g4)), (b 0, .inr (1, [.ref (b 1), .ref (b 2), .ref (b 3), .ref (b 4), .ref (b 5), .ref (b 6), .ref (b 7), .int (S 7 0), .int (S 7 1), .int (S 7 2)])), (b 1, .inl (k 0, 9, .inl (S 0))), (b 2, .inl (k 0, 9, .inl (S 1))), (b 3, .inl (k 0, 9, .inl (S 2))), (b 4, .inl (k 0, 9, .inl (S 3))), (b 5, .inl (k 0, 9, .inl (S 4))), (b 6, .inl (k 0, 12, .inl (S 5))), (b 7, .inl (k 0, 12, .inl (S 6)))] ++ (wSt k g T)) → va_S A s.heap H locs → lv_has ls 5 [(4, .int (nI j)), (3, .int (nI q)), (2, .int (auT (T 2) (T 1) i)), (0, .ref (a 0)), (1, .ref (g 0))] → W p l e ({ frames := 1, cells := 0, slots := 0, locals := 21 } : Room) s m ([.ref (a 0), .ref (g 0)] : List Value).toArray below meth c H locs 0 0 Q (F0 m 36 ls []) from LOOP_j (9 + 1) (q + 1) (upd (dnF (auG (T 2) (T 1)) wf i) q 1) (by omega) (by omega) (by rw [show q + 1 - (q + 1) = 0 from by omega, auS, auB, if_neg c_2]) (by omega) _ _ _ hP hD hS (lv_sub hl [0, 1, 2, 3, 4] rfl)
        clear hP hD hS hl
        intro fu_j
        induction fu_j with
        | zero => intro j g4 hn_j; omega
        | succ fu_j ih_j =>
          intro j g4 hn_j hle_j e_g4 hlo_j H locs ls hP hD hS hl
          subst e_g4
          refine lv_iload hx hb dX3_addUp_36 (lv_at hl 0 rfl) ?_
          refine lv_bipush (v := 9) hx hb dX3_addUp_38 (by decide) ?_
          refine lv_icmp_ge (tgt := 77) hx hb dX3_addUp_40 (by decide) (fun c_5 => ?_) (fun c_5 => ?_)
          · have c_5 : 9 ≤ j := (nI_leI (a := 9) (b := j) (by omega) (by omega)).mp c_5
            obtain rfl : j = 9 := by omega
            refine lv_aload_n hx hb dX3_addUp_77 rfl (lv_at hl 4 rfl) ?_
            refine va_get (D := D) (ci := 1) (v := .ref (g 2)) (C := RX1) (T := TX1) (N := 10) hx hb hts (fun _ h9 => (List.mem_cons_of_mem _ (List.mem_append_right _ h9))) hown hK hP 12 rfl rfl 1 (by decide) (hts _ (List.mem_of_getElem? (i := 2) rfl)) (fun _ h9 => h9) rfl dX3_addUp_78 ?_
            refine lv_iload_n hx hb dX3_addUp_81 rfl (lv_at hl 1 rfl) ?_
            refine ar_ld hx hb hK hP 14 rfl q (nI_clamp (by omega)) (vp_in_nI (by omega) (by omega)) dX3_addUp_82 ?_
            refine lv_iconst (v := 1) hx hb dX3_addUp_83 (by decide) ?_
            refine lv_iand hx hb dX3_addUp_84 ?_
            refine lv_if_eq (tgt := 97) hx hb dX3_addUp_85 (by decide) (fun c_6 => ?_) (fun c_6 => ?_)
            · refine lv_iinc (v := (nI q) + (-1)) (lv' := [(3, .int ((nI q) + (-1))), (4, .int (nI 9)), (2, .int (auT (T 2) (T 1) i)), (0, .ref (a 0)), (1, .ref (g 0))]) hx hb dX3_addUp_97 hl (k := 1) rfl rfl (by decide) rfl (fun ls hl => ?_)
              refine lv_goto (tgt := 5) hx hb dX3_addUp_100 (by decide) ?_
              exact ih_i (i + 1) ((nI q) + (-1)) (auT (T 2) (T 1) i) (upd (dnF (auG (T 2) (T 1)) wf i) q (auS (T 2) (auG (T 2) (T 1)) q (auB (T 1) q) (9 - (q + 1)))) (by omega) (by omega) (by rw [show 9 - (i + 1) = q from by omega]) (by rw [auT, hi8, if_pos c_6]) (by rw [← auG_s _ _ hq9]; exact dnF_s _ _ hq)  _ _ _ hP hD hS (lv_sub hl [0, 2, 3, 4] rfl)
            · refine lv_iload_n hx hb dX3_addUp_88 rfl (lv_at hl 2 rfl) ?_
              refine lv_aload_n hx hb dX3_addUp_89 rfl (lv_at hl 3 rfl) ?_
              refine va_get (D := D) (ci := 3) (v := .ref (a 3)) (C := RX3) (T := TX3) (N := 6) hx hb hts (fun _ h9 => (List.mem_cons_of_mem _ (List.mem_append_left _ (List.mem_append_right _ h9)))) hown hK hP 0 rfl rfl 5 (by decide) (hts _ (List.mem_of_getElem? (i := 1) rfl)) (fun _ h9 => h9) rfl dX3_addUp_90 ?_
              refine lv_iload_n hx hb dX3_addUp_93 rfl (lv_at hl 1 rfl) ?_
              refine ar_ld hx hb hK hP 3 rfl q (nI_clamp (by omega)) (vp_in_nI (by omega) (by omega)) dX3_addUp_94 ?_
              refine lv_iadd hx hb dX3_addUp_95 ?_
              refine lv_istore_n (lv' := [(2, .int ((auT (T 2) (T 1) i) + ((upd (dnF (auG (T 2) (T 1)) wf i) q (auS (T 2) (auG (T 2) (T 1)) q (auB (T 1) q) (9 - (q + 1)))) q))), (4, .int (nI 9)), (3, .int (nI q)), (0, .ref (a 0)), (1, .ref (g 0))]) hx hb dX3_addUp_96 rfl hl (by decide) rfl (fun ls hl => ?_)
              refine lv_iinc (v := (nI q) + (-1)) (lv' := [(3, .int ((nI q) + (-1))), (2, .int ((auT (T 2) (T 1) i) + ((upd (dnF (auG (T 2) (T 1)) wf i) q (auS (T 2) (auG (T 2) (T 1)) q (auB (T 1) q) (9 - (q + 1)))) q))), (4, .int (nI 9)), (0, .ref (a 0)), (1, .ref (g 0))]) hx hb dX3_addUp_97 hl (k := 2) rfl rfl (by decide) rfl (fun ls hl => ?_)
              refine lv_goto (tgt := 5) hx hb dX3_addUp_100 (by decide) ?_
              exact ih_i (i + 1) ((nI q) + (-1)) ((auT (T 2) (T 1) i) + ((upd (dnF (auG (T 2) (T 1)) wf i) q (auS (T 2) (auG (T 2) (T 1)) q (auB (T 1) q) (9 - (q + 1)))) q)) (upd (dnF (auG (T 2) (T 1)) wf i) q (auS (T 2) (auG (T 2) (T 1)) q (auB (T 1) q) (9 - (q + 1)))) (by omega) (by omega) (by rw [show 9 - (i + 1) = q from by omega]) (by rw [auT, hi8, if_neg c_6]; rw [up_eq, ← auG_s _ _ hq9]) (by rw [← auG_s _ _ hq9]; exact dnF_s _ _ hq)  _ _ _ hP hD hS (lv_sub hl [0, 1, 3, 4] rfl)
          · have c_5 : ¬ (9 ≤ j) := fun h9 => c_5 ((nI_leI (a := 9) (b := j) (by omega) (by omega)).mpr h9)
            refine lv_aload_n hx hb dX3_addUp_43 rfl (lv_at hl 3 rfl) ?_
            refine va_get (D := D) (ci := 3) (v := .ref (a 3)) (C := RX3) (T := TX3) (N := 6) hx hb hts (fun _ h9 => (List.mem_cons_of_mem _ (List.mem_append_left _ (List.mem_append_right _ h9)))) hown hK hP 0 rfl rfl 5 (by decide) (hts _ (List.mem_of_getElem? (i := 1) rfl)) (fun _ h9 => h9) rfl dX3_addUp_44 ?_
            refine lv_iload_n hx hb dX3_addUp_47 rfl (lv_at hl 1 rfl) ?_
            refine lv_dup2_11 hx hb dX3_addUp_48 rfl rfl ?_
            refine ar_ld hx hb hK hP 3 rfl q (nI_clamp (by omega)) (vp_in_nI (by omega) (by omega)) dX3_addUp_49 ?_
            refine lv_aload_n hx hb dX3_addUp_50 rfl (lv_at hl 4 rfl) ?_
            refine va_get (D := D) (ci := 1) (v := .ref (g 3)) (C := RX1) (T := TX1) (N := 10) hx hb hts (fun _ h9 => (List.mem_cons_of_mem _ (List.mem_append_right _ h9))) hown hK hP 12 rfl rfl 2 (by decide) (hts _ (List.mem_of_getElem? (i := 3) rfl)) (fun _ h9 => h9) rfl dX3_addUp_51 ?_
            refine lv_iload_n hx hb dX3_addUp_54 rfl (lv_at hl 1 rfl) ?_
            refine ar_ld hx hb hK hP 15 rfl q (nI_clamp (by omega)) (vp_in_nI (by omega) (by omega)) dX3_addUp_55 ?_
            refine lv_iload hx hb dX3_addUp_56 (lv_at hl 0 rfl) ?_
            have hPc : va_P D vwCl ([]) H := hP.sub [] rfl
            have hDc : va_D A ([]) := hD.sub [] (by decide +kernel) rfl
            refine cl_i0 (va_runSN (As := [.int ((T 2) q), .int (nI j)]) (rest := [.int ((upd (dnF (auG (T 2) (T 1)) wf i) q (auS (T 2) (auG (T 2) (T 1)) q (auB (T 1) q) (j - (q + 1)))) q), .int (nI q), .ref (a 3)]) ⟨hx, hb, hml, hown, hts⟩ (c_X4_bit l D k ((T 2) q) (nI j) H.size) ⟨va_cnB 2 hts gX3_addUp_X4_bit_n60 rfl rfl rfl hN.2.2.2.2.2.2.2.1 (hts (.initialized RX4) (List.mem_of_getElem? (i := 5) rfl)) (by decide +kernel) ⟨Nat.le_of_ble_eq_true rfl, Nat.le_of_ble_eq_true rfl⟩, hts (.static yX4_bit) (List.mem_of_getElem? (i := 4) rfl), trivial⟩ ⟨pr_blind, pr_at hN hPc hK hDc⟩ rfl rfl hl.1 rfl (lv_room (Nat.le_of_ble_eq_true rfl)) dX3_addUp_58 ⟨Nat.le_of_ble_eq_true rfl, Nat.le_of_ble_eq_true rfl⟩) hP hD hS hA [] rfl (fun H locs hP hD hS => ?_)
            clear hPc hDc
            refine lv_aload_n hx hb dX3_addUp_61 rfl (lv_at hl 3 rfl) ?_
            refine va_get (D := D) (ci := 3) (v := .ref (a 3)) (C := RX3) (T := TX3) (N := 6) hx hb hts (fun _ h9 => (List.mem_cons_of_mem _ (List.mem_append_left _ (List.mem_append_right _ h9)))) hown hK hP 0 rfl rfl 5 (by decide) (hts _ (List.mem_of_getElem? (i := 1) rfl)) (fun _ h9 => h9) rfl dX3_addUp_62 ?_
            refine lv_iload hx hb dX3_addUp_65 (lv_at hl 0 rfl) ?_
            refine ar_ld hx hb hK hP 3 rfl j (nI_clamp (by omega)) (vp_in_nI (by omega) (by omega)) dX3_addUp_67 ?_
            refine lv_imul hx hb dX3_addUp_68 ?_
            refine lv_iadd hx hb dX3_addUp_69 ?_
            refine ar_st hx hb hK hP hD hS 3 rfl q (nI_clamp (by omega)) (vp_in_nI (by omega) (by omega)) dX3_addUp_70 (wn := ([(a 0, .inr (3, [.ref (a 1), .ref (a 2), .int na, .int no, .ref (b 0), .ref (a 3)])), (a 1, .inl (k 0, 512, .inl al)), (a 2, .inl (k 0, 512, .inl op)), (a 3, .inl (k 0, 9, .inl (upd (upd (dnF (auG (T 2) (T 1)) wf i) q (auS (T 2) (auG (T 2) (T 1)) q (auB (T 1) q) (j - (q + 1)))) q (((upd (dnF (auG (T 2) (T 1)) wf i) q (auS (T 2) (auG (T 2) (T 1)) q (auB (T 1) q) (j - (q + 1)))) q) + ((bitv ((T 2) q) (nI j)) * ((upd (dnF (auG (T 2) (T 1)) wf i) q (auS (T 2) (auG (T 2) (T 1)) q (auB (T 1) q) (j - (q + 1)))) j)))))), (b 0, .inr (1, [.ref (b 1), .ref (b 2), .ref (b 3), .ref (b 4), .ref (b 5), .ref (b 6), .ref (b 7), .int (S 7 0), .int (S 7 1), .int (S 7 2)])), (b 1, .inl (k 0, 9, .inl (S 0))), (b 2, .inl (k 0, 9, .inl (S 1))), (b 3, .inl (k 0, 9, .inl (S 2))), (b 4, .inl (k 0, 9, .inl (S 3))), (b 5, .inl (k 0, 9, .inl (S 4))), (b 6, .inl (k 0, 12, .inl (S 5))), (b 7, .inl (k 0, 12, .inl (S 6)))] ++ (wSt k g T))) rfl (fun H locs hP hD hS => ?_)
            refine lv_iinc (v := (nI (j + 1))) (lv' := [(4, .int (nI (j + 1))), (3, .int (nI q)), (2, .int (auT (T 2) (T 1) i)), (0, .ref (a 0)), (1, .ref (g 0))]) hx hb dX3_addUp_71 hl (k := 0) rfl (nI_1 j) (by decide) rfl (fun ls hl => ?_)
            refine lv_goto (tgt := 36) hx hb dX3_addUp_74 (by decide) ?_
            exact ih_j (j + 1) (upd (upd (dnF (auG (T 2) (T 1)) wf i) q (auS (T 2) (auG (T 2) (T 1)) q (auB (T 1) q) (j - (q + 1)))) q (((upd (dnF (auG (T 2) (T 1)) wf i) q (auS (T 2) (auG (T 2) (T 1)) q (auB (T 1) q) (j - (q + 1)))) q) + ((bitv ((T 2) q) (nI j)) * ((upd (dnF (auG (T 2) (T 1)) wf i) q (auS (T 2) (auG (T 2) (T 1)) q (auB (T 1) q) (j - (q + 1)))) j)))) (by omega) (by omega) (by rw [up_up, up_eq, up_ne _ _ (show j ≠ q from by omega), dnF_in _ _ (show 9 - i ≤ j from by omega) (by omega), auS_s _ _ _ (show q + 1 ≤ j from by omega)]) (by omega) _ _ _ hP hD hS (lv_sub hl [0, 1, 2, 3, 4] rfl)
