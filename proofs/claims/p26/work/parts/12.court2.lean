/-! LAID BY MY PROGRAM wip/gen/p26.py: contracts, method by method -/
def S_X3_take (ξ : XS) (σ : JS) (η : YS) (rows : List RD) (p0 : Int32) : Int32 × JS := (S_X0_state (S_X0_startWith σ p0), (S_X0_startWith σ p0))
set_option maxHeartbeats 4000000 in
set_option maxRecDepth 100000 in
theorem c_X3_take (l : Launch) (dC : Nat → ClassId) (dI : Nat → Nat → Nat) (cI cR : ClassId) (sz : Nat) (x rw j a1 a2 a3 y b1 b2 b3 : Nat) (ξ : XS) (σ : JS) (η : YS) (rows : List RD) (hCI : p_CI ξ rows) (p0 : Int32) (hw : S_X3_isWithin p0 1 6 = 1) : Met l yX3_take wsX3_take ({ frames := 3, cells := 0, slots := 0, locals := 66 }) (va_Pc [.ref x, .int p0] (fun U => U.heap.size = sz ∧ va_P (dC, dI) vwCl (wC cI cR x rw j a1 a2 a3 y b1 b2 b3 ξ σ η rows) U.heap ∧ cE (dC, dI) cI cR U ∧ va_D (fun _ => True) (wC cI cR x rw j a1 a2 a3 y b1 b2 b3 ξ σ η rows))) (va_Qi (fun (r : Int32) (_ : Unit) => r = (S_X3_take ξ σ η rows p0).1) (fun (_ : Unit) t => va_P (dC, dI) vwCl (wC cI cR x rw j a1 a2 a3 y b1 b2 b3 ξ ((S_X3_take ξ σ η rows p0).2) η rows) t.heap ∧ cE (dC, dI) cI cR t ∧ va_D (va_A (wC cI cR x rw j a1 a2 a3 y b1 b2 b3 ξ σ η rows) sz) (wC cI cR x rw j a1 a2 a3 y b1 b2 b3 ξ ((S_X3_take ξ σ η rows p0).2) η rows)) (va_A (wC cI cR x rw j a1 a2 a3 y b1 b2 b3 ξ σ η rows) sz)) 0 0 (va_A (wC cI cR x rw j a1 a2 a3 y b1 b2 b3 ξ σ η rows) sz) := by
  refine Met.ofW (cc := cX3_take) (maxL := 2) (ret := (some .int)) (by decide) rfl ?_
  intro p e s m args below meth c s₁ B hml hv
  obtain ⟨rfl, hsz, hP, hE, hD0⟩ := hv
  have hK := hE.1
  have hx := B.exec
  have hb := B.bytes
  have hr := B.returns
  have hts := atoms_spec (ws := wsX3_take) B.pre
  have hown : s.vm.findClass RX3 = some m.cls := findClass_of_methodNamed B.named
  have hlocks := B.notSynchronized
  subst hsz
  have hD := hD0.self (sz := s.heap.size)
  generalize hAe : va_A (wC cI cR x rw j a1 a2 a3 y b1 b2 b3 ξ σ η rows) s.heap.size = A at hD ⊢
  have hA : ∀ q : Nat, s.heap.size ≤ q → A q := fun q h => by rw [← hAe]; exact Or.inr h
  have hS : va_S A s.heap s.heap [] := va_S.rf
  have hP : va_P (dC, dI) vwCl ([(x, .inr (3, [.ref rw, .ref j, .ref y, .int ξ.2])), (rw, .inl (cR, 8, .inr (.inr (.inr (.inr ξ.1))))), (j, .inr (0, [.ref a1, .ref a2, .ref a3, .int σ.2.2.2.1, .int σ.2.2.2.2.1, .int σ.2.2.2.2.2.1, .int σ.2.2.2.2.2.2.1, .double σ.2.2.2.2.2.2.2])), (a1, .inl (cI, 6, .inl σ.1)), (a2, .inl (cI, 6, .inl σ.2.1)), (a3, .inl (cI, 6, .inl σ.2.2.1)), (y, .inr (2, [.ref b1, .ref b2, .ref b3, .int η.2.2.2])), (b1, .inl (cI, 512, .inl η.1)), (b2, .inl (cI, 512, .inl η.2.1)), (b3, .inl (cI, 512, .inl η.2.2.1))] ++ wRs cI rows) s.heap := hP
  have hD : va_D A ([(x, .inr (3, [.ref rw, .ref j, .ref y, .int ξ.2])), (rw, .inl (cR, 8, .inr (.inr (.inr (.inr ξ.1))))), (j, .inr (0, [.ref a1, .ref a2, .ref a3, .int σ.2.2.2.1, .int σ.2.2.2.2.1, .int σ.2.2.2.2.2.1, .int σ.2.2.2.2.2.2.1, .double σ.2.2.2.2.2.2.2])), (a1, .inl (cI, 6, .inl σ.1)), (a2, .inl (cI, 6, .inl σ.2.1)), (a3, .inl (cI, 6, .inl σ.2.2.1)), (y, .inr (2, [.ref b1, .ref b2, .ref b3, .int η.2.2.2])), (b1, .inl (cI, 512, .inl η.1)), (b2, .inl (cI, 512, .inl η.2.1)), (b3, .inl (cI, 512, .inl η.2.2.1))] ++ wRs cI rows) := hD
  have hl := lv_entry ([.ref x, .int p0]) (n := 2) (Nat.le_of_ble_eq_true rfl)
  rw [lg_entry_eq]
  generalize (lg_sl ([.ref x, .int p0]) ++ List.replicate (2 - (lg_sl ([.ref x, .int p0])).length) Slot.unset).toArray = ls at hl ⊢
  have hl : lv_has ls 2 [(0, .ref x), (1, .int p0)] := hl
  have q_0 := hts (.fieldLink RX3 18 "Cascadecourt" "juggler" "LCascadecourt$Juggler;") (by decide +kernel)
  have in_X3 : ∀ w ∈ wsX30, w ∈ wsX3_take := by decide +kernel
  refine lv_iload_n hx hb dX3_take_0 rfl (lv_at hl 1 rfl) ?_
  refine lv_iconst (v := 1) hx hb dX3_take_1 (by decide) ?_
  refine lv_bipush (v := 6) hx hb dX3_take_2 (by decide) ?_
  refine vp_callSi (va_Run.run (va_runS (As := [.int p0, .int 1, .int 6]) (rest := []) ⟨hx, hb, hml, hown, hts⟩ (c_X3_isWithin l p0 1 6) (va_cwS 3 hts gX3_take_X3_isWithin rfl rfl rfl (by decide +kernel) ⟨Nat.le_of_ble_eq_true rfl, Nat.le_of_ble_eq_true rfl⟩) ⟨fun a U g mk q => q, fun U hU hW => ⟨rfl, trivial⟩⟩ rfl rfl hl.1 rfl (lv_room (Nat.le_of_ble_eq_true rfl)) dX3_take_4 ⟨Nat.zero_le _, Nat.zero_le _⟩)) (fun r_4 h_4 => ?_)
  obtain ⟨rfl, hz_4⟩ := h_4
  refine lv_if_ne (tgt := 20) hx hb dX3_take_7 (by decide) (fun c_7 => ?_) (fun c_7 => ?_)
  · refine lv_aload_n hx hb dX3_take_20 rfl (lv_at hl 0 rfl) ?_
    refine va_get (D := (dC, dI)) (ci := 3) (v := .ref j) (C := RX3) (T := TX3) (N := 4) hx hb hts in_X3 hown hK hP 0 rfl rfl 1 (by decide) q_0 (fun _ h9 => h9) rfl dX3_take_21 ?_
    refine lv_iload_n hx hb dX3_take_24 rfl (lv_at hl 1 rfl) ?_
    have hPc := hP.sub (ws' := (wJ cI j a1 a2 a3 σ)) [2, 3, 4, 5] rfl
    have hDc := hD.sub (ws' := (wJ cI j a1 a2 a3 σ)) [2, 3, 4, 5] (by decide) rfl
    have hFc := va_free (wc := (wJ cI j a1 a2 a3 σ)) hD hS hA [2, 3, 4, 5] rfl
    refine va_callv (va_runV (As := [.int p0]) (rest := []) ⟨hx, hb, hml, hown, hts⟩ (c_X0_startWith l dC dI cI cR _ j a1 a2 a3 σ p0) (cwV 1 hts gX3_take_X0_startWith rfl rfl rfl (by decide +kernel) ⟨Nat.le_of_ble_eq_true rfl, Nat.le_of_ble_eq_true rfl⟩) ⟨fun a U g mk q => by obtain ⟨q0, q1, qP, qE, qD⟩ := q; exact ⟨q0, q1, qP, cE.same (s := U) rfl qE, qD⟩, va_recv hK hP (ci := 0) (q0 := 2) rfl rfl, fun U hU hW => ⟨rfl, by rw [hU], by rw [hU]; exact hPc, hE.warm hW, hDc.weaken (fun _ _ _ _ => trivial)⟩⟩ rfl rfl hl.1 rfl (lv_room (Nat.le_of_ble_eq_true rfl)) dX3_take_25 ⟨Nat.zero_le _, Nat.zero_le _⟩) hS (fun q _ h => hFc q h) hFc (fun u t H1 locs ht hvm h_25 hB hz1 hk1 hS => ?_)
    obtain ⟨hP1, -, hD1⟩ := hB
    rw [ht] at hP1
    obtain ⟨hP, hD⟩ := va_joinQ (X := [(x, .inr (3, [.ref rw, .ref j, .ref y, .int ξ.2])), (rw, .inl (cR, 8, .inr (.inr (.inr (.inr ξ.1))))), (j, .inr (0, [.ref a1, .ref a2, .ref a3, .int σ.2.2.2.1, .int σ.2.2.2.2.1, .int σ.2.2.2.2.2.1, .int σ.2.2.2.2.2.2.1, .double σ.2.2.2.2.2.2.2])), (a1, .inl (cI, 6, .inl σ.1)), (a2, .inl (cI, 6, .inl σ.2.1)), (a3, .inl (cI, 6, .inl σ.2.2.1)), (y, .inr (2, [.ref b1, .ref b2, .ref b3, .int η.2.2.2])), (b1, .inl (cI, 512, .inl η.1)), (b2, .inl (cI, 512, .inl η.2.1)), (b3, .inl (cI, 512, .inl η.2.2.1))]) (pl := wRs cI rows) (wr := [(x, .inr (3, [.ref rw, .ref j, .ref y, .int ξ.2])), (rw, .inl (cR, 8, .inr (.inr (.inr (.inr ξ.1))))), (y, .inr (2, [.ref b1, .ref b2, .ref b3, .int η.2.2.2])), (b1, .inl (cI, 512, .inl η.1)), (b2, .inl (cI, 512, .inl η.2.1)), (b3, .inl (cI, 512, .inl η.2.2.1))]) (w1 := (wJ cI j a1 a2 a3 (S_X0_startWith σ p0))) hP hD [2, 3, 4, 5] [0, 1, 6, 7, 8, 9] rfl rfl (by decide) (by decide) hk1 hFc hP1 hD1
    have hP : va_P (dC, dI) vwCl ([(x, .inr (3, [.ref rw, .ref j, .ref y, .int ξ.2])), (rw, .inl (cR, 8, .inr (.inr (.inr (.inr ξ.1))))), (j, .inr (0, [.ref a1, .ref a2, .ref a3, .int ((S_X0_startWith σ p0).2.2.2.1), .int ((S_X0_startWith σ p0).2.2.2.2.1), .int ((S_X0_startWith σ p0).2.2.2.2.2.1), .int ((S_X0_startWith σ p0).2.2.2.2.2.2.1), .double ((S_X0_startWith σ p0).2.2.2.2.2.2.2)])), (a1, .inl (cI, 6, .inl ((S_X0_startWith σ p0).1))), (a2, .inl (cI, 6, .inl ((S_X0_startWith σ p0).2.1))), (a3, .inl (cI, 6, .inl ((S_X0_startWith σ p0).2.2.1))), (y, .inr (2, [.ref b1, .ref b2, .ref b3, .int η.2.2.2])), (b1, .inl (cI, 512, .inl η.1)), (b2, .inl (cI, 512, .inl η.2.1)), (b3, .inl (cI, 512, .inl η.2.2.1))] ++ wRs cI rows) H1 := hP.part (cx := [(x, .inr (3, [.ref rw, .ref j, .ref y, .int ξ.2])), (rw, .inl (cR, 8, .inr (.inr (.inr (.inr ξ.1))))), (j, .inr (0, [.ref a1, .ref a2, .ref a3, .int ((S_X0_startWith σ p0).2.2.2.1), .int ((S_X0_startWith σ p0).2.2.2.2.1), .int ((S_X0_startWith σ p0).2.2.2.2.2.1), .int ((S_X0_startWith σ p0).2.2.2.2.2.2.1), .double ((S_X0_startWith σ p0).2.2.2.2.2.2.2)])), (a1, .inl (cI, 6, .inl ((S_X0_startWith σ p0).1))), (a2, .inl (cI, 6, .inl ((S_X0_startWith σ p0).2.1))), (a3, .inl (cI, 6, .inl ((S_X0_startWith σ p0).2.2.1))), (y, .inr (2, [.ref b1, .ref b2, .ref b3, .int η.2.2.2])), (b1, .inl (cI, 512, .inl η.1)), (b2, .inl (cI, 512, .inl η.2.1)), (b3, .inl (cI, 512, .inl η.2.2.1))]) [0, 1, 6, 7, 8, 9, 2, 3, 4, 5] rfl
    have hD : va_D A ([(x, .inr (3, [.ref rw, .ref j, .ref y, .int ξ.2])), (rw, .inl (cR, 8, .inr (.inr (.inr (.inr ξ.1))))), (j, .inr (0, [.ref a1, .ref a2, .ref a3, .int ((S_X0_startWith σ p0).2.2.2.1), .int ((S_X0_startWith σ p0).2.2.2.2.1), .int ((S_X0_startWith σ p0).2.2.2.2.2.1), .int ((S_X0_startWith σ p0).2.2.2.2.2.2.1), .double ((S_X0_startWith σ p0).2.2.2.2.2.2.2)])), (a1, .inl (cI, 6, .inl ((S_X0_startWith σ p0).1))), (a2, .inl (cI, 6, .inl ((S_X0_startWith σ p0).2.1))), (a3, .inl (cI, 6, .inl ((S_X0_startWith σ p0).2.2.1))), (y, .inr (2, [.ref b1, .ref b2, .ref b3, .int η.2.2.2])), (b1, .inl (cI, 512, .inl η.1)), (b2, .inl (cI, 512, .inl η.2.1)), (b3, .inl (cI, 512, .inl η.2.2.1))] ++ wRs cI rows) := hD.part (cx := [(x, .inr (3, [.ref rw, .ref j, .ref y, .int ξ.2])), (rw, .inl (cR, 8, .inr (.inr (.inr (.inr ξ.1))))), (j, .inr (0, [.ref a1, .ref a2, .ref a3, .int ((S_X0_startWith σ p0).2.2.2.1), .int ((S_X0_startWith σ p0).2.2.2.2.1), .int ((S_X0_startWith σ p0).2.2.2.2.2.1), .int ((S_X0_startWith σ p0).2.2.2.2.2.2.1), .double ((S_X0_startWith σ p0).2.2.2.2.2.2.2)])), (a1, .inl (cI, 6, .inl ((S_X0_startWith σ p0).1))), (a2, .inl (cI, 6, .inl ((S_X0_startWith σ p0).2.1))), (a3, .inl (cI, 6, .inl ((S_X0_startWith σ p0).2.2.1))), (y, .inr (2, [.ref b1, .ref b2, .ref b3, .int η.2.2.2])), (b1, .inl (cI, 512, .inl η.1)), (b2, .inl (cI, 512, .inl η.2.1)), (b3, .inl (cI, 512, .inl η.2.2.1))]) [0, 1, 6, 7, 8, 9, 2, 3, 4, 5] (by decide) rfl
    clear hPc hDc hP1 hD1 hk1 hFc hz1 ht hvm
    generalize H1 = H at hP hS ⊢
    refine lv_aload_n hx hb dX3_take_28 rfl (lv_at hl 0 rfl) ?_
    refine va_get (D := (dC, dI)) (ci := 3) (v := .ref j) (C := RX3) (T := TX3) (N := 4) hx hb hts in_X3 hown hK hP 0 rfl rfl 1 (by decide) q_0 (fun _ h9 => h9) rfl dX3_take_29 ?_
    refine vp_callSi (va_Run.run (va_runV (As := []) (rest := []) ⟨hx, hb, hml, hown, hts⟩ (c_X0_state l dC dI cI cR j a1 a2 a3 (S_X0_startWith σ p0)) (cwV 0 hts gX3_take_X0_state rfl rfl rfl (by decide +kernel) ⟨Nat.le_of_ble_eq_true rfl, Nat.le_of_ble_eq_true rfl⟩) ⟨fun a U g mk q => by obtain ⟨q0, qP, qE⟩ := q; exact ⟨q0, qP, cE.same (s := U) rfl qE⟩, va_recv hK hP (ci := 0) (q0 := 2) rfl rfl, fun U hU hW => ⟨rfl, by rw [hU]; exact hP.sub (ws' := (wJ cI j a1 a2 a3 (S_X0_startWith σ p0))) [2, 3, 4, 5] rfl, hE.warm hW⟩⟩ rfl rfl hl.1 rfl (lv_room (Nat.le_of_ble_eq_true rfl)) dX3_take_32 ⟨Nat.zero_le _, Nat.zero_le _⟩)) (fun r_32 h_32 => ?_)
    subst h_32
    have e9 : S_X3_take ξ σ η rows p0 = (S_X0_state (S_X0_startWith σ p0), (S_X0_startWith σ p0)) := by simp only [S_X3_take]
    exact W.iret (v := (S_X0_state (S_X0_startWith σ p0))) hx hb hr (fun t ht hW => ⟨⟨(S_X0_state (S_X0_startWith σ p0)), (), rfl, by rw [e9], by rw [ht, e9]; exact hP, hE.warm hW, by rw [e9]; exact hD⟩, hS.F ht⟩) hS.2.2 dX3_take_35
  · exact absurd c_7 (by rw [hw]; decide)
def S_X3_toss (ξ : XS) (σ : JS) (η : YS) (rows : List RD) (p0 : Int32) : Int32 × JS := ((S_X0_throwNow σ p0).1, (S_X0_throwNow σ p0).2)
set_option maxHeartbeats 4000000 in
set_option maxRecDepth 100000 in
theorem c_X3_toss (l : Launch) (dC : Nat → ClassId) (dI : Nat → Nat → Nat) (cI cR : ClassId) (sz : Nat) (x rw j a1 a2 a3 y b1 b2 b3 : Nat) (ξ : XS) (σ : JS) (η : YS) (rows : List RD) (hCI : p_CI ξ rows) (p0 : Int32) (hw : S_X3_isThrow p0 = 1) (hT : tOK σ.2.2.2.2.2.2.2 p0) : Met l yX3_toss wsX3_toss ({ frames := 5, cells := 0, slots := 0, locals := 110 }) (va_Pc [.ref x, .int p0] (fun U => U.heap.size = sz ∧ va_P (dC, dI) vwCl (wC cI cR x rw j a1 a2 a3 y b1 b2 b3 ξ σ η rows) U.heap ∧ cE (dC, dI) cI cR U ∧ va_D (fun _ => True) (wC cI cR x rw j a1 a2 a3 y b1 b2 b3 ξ σ η rows))) (va_Qi (fun (r : Int32) (_ : Unit) => r = (S_X3_toss ξ σ η rows p0).1) (fun (_ : Unit) t => va_P (dC, dI) vwCl (wC cI cR x rw j a1 a2 a3 y b1 b2 b3 ξ ((S_X3_toss ξ σ η rows p0).2) η rows) t.heap ∧ cE (dC, dI) cI cR t ∧ va_D (va_A (wC cI cR x rw j a1 a2 a3 y b1 b2 b3 ξ σ η rows) sz) (wC cI cR x rw j a1 a2 a3 y b1 b2 b3 ξ ((S_X3_toss ξ σ η rows p0).2) η rows)) (va_A (wC cI cR x rw j a1 a2 a3 y b1 b2 b3 ξ σ η rows) sz)) 0 0 (va_A (wC cI cR x rw j a1 a2 a3 y b1 b2 b3 ξ σ η rows) sz) := by
  refine Met.ofW (cc := cX3_toss) (maxL := 2) (ret := (some .int)) (by decide) rfl ?_
  intro p e s m args below meth c s₁ B hml hv
  obtain ⟨rfl, hsz, hP, hE, hD0⟩ := hv
  have hK := hE.1
  have hx := B.exec
  have hb := B.bytes
  have hr := B.returns
  have hts := atoms_spec (ws := wsX3_toss) B.pre
  have hown : s.vm.findClass RX3 = some m.cls := findClass_of_methodNamed B.named
  have hlocks := B.notSynchronized
  subst hsz
  have hD := hD0.self (sz := s.heap.size)
  generalize hAe : va_A (wC cI cR x rw j a1 a2 a3 y b1 b2 b3 ξ σ η rows) s.heap.size = A at hD ⊢
  have hA : ∀ q : Nat, s.heap.size ≤ q → A q := fun q h => by rw [← hAe]; exact Or.inr h
  have hS : va_S A s.heap s.heap [] := va_S.rf
  have hP : va_P (dC, dI) vwCl ([(x, .inr (3, [.ref rw, .ref j, .ref y, .int ξ.2])), (rw, .inl (cR, 8, .inr (.inr (.inr (.inr ξ.1))))), (j, .inr (0, [.ref a1, .ref a2, .ref a3, .int σ.2.2.2.1, .int σ.2.2.2.2.1, .int σ.2.2.2.2.2.1, .int σ.2.2.2.2.2.2.1, .double σ.2.2.2.2.2.2.2])), (a1, .inl (cI, 6, .inl σ.1)), (a2, .inl (cI, 6, .inl σ.2.1)), (a3, .inl (cI, 6, .inl σ.2.2.1)), (y, .inr (2, [.ref b1, .ref b2, .ref b3, .int η.2.2.2])), (b1, .inl (cI, 512, .inl η.1)), (b2, .inl (cI, 512, .inl η.2.1)), (b3, .inl (cI, 512, .inl η.2.2.1))] ++ wRs cI rows) s.heap := hP
  have hD : va_D A ([(x, .inr (3, [.ref rw, .ref j, .ref y, .int ξ.2])), (rw, .inl (cR, 8, .inr (.inr (.inr (.inr ξ.1))))), (j, .inr (0, [.ref a1, .ref a2, .ref a3, .int σ.2.2.2.1, .int σ.2.2.2.2.1, .int σ.2.2.2.2.2.1, .int σ.2.2.2.2.2.2.1, .double σ.2.2.2.2.2.2.2])), (a1, .inl (cI, 6, .inl σ.1)), (a2, .inl (cI, 6, .inl σ.2.1)), (a3, .inl (cI, 6, .inl σ.2.2.1)), (y, .inr (2, [.ref b1, .ref b2, .ref b3, .int η.2.2.2])), (b1, .inl (cI, 512, .inl η.1)), (b2, .inl (cI, 512, .inl η.2.1)), (b3, .inl (cI, 512, .inl η.2.2.1))] ++ wRs cI rows) := hD
  have hl := lv_entry ([.ref x, .int p0]) (n := 2) (Nat.le_of_ble_eq_true rfl)
  rw [lg_entry_eq]
  generalize (lg_sl ([.ref x, .int p0]) ++ List.replicate (2 - (lg_sl ([.ref x, .int p0])).length) Slot.unset).toArray = ls at hl ⊢
  have hl : lv_has ls 2 [(0, .ref x), (1, .int p0)] := hl
  have q_0 := hts (.fieldLink RX3 18 "Cascadecourt" "juggler" "LCascadecourt$Juggler;") (by decide +kernel)
  have in_X3 : ∀ w ∈ wsX30, w ∈ wsX3_toss := by decide +kernel
  refine lv_iload_n hx hb dX3_toss_0 rfl (lv_at hl 1 rfl) ?_
  refine vp_callSi (va_Run.run (va_runS (As := [.int p0]) (rest := []) ⟨hx, hb, hml, hown, hts⟩ (c_X3_isThrow l p0) (va_cwS 1 hts gX3_toss_X3_isThrow rfl rfl rfl (by decide +kernel) ⟨Nat.le_of_ble_eq_true rfl, Nat.le_of_ble_eq_true rfl⟩) ⟨fun a U g mk q => q, fun U hU hW => ⟨rfl, trivial⟩⟩ rfl rfl hl.1 rfl (lv_room (Nat.le_of_ble_eq_true rfl)) dX3_toss_1 ⟨Nat.zero_le _, Nat.zero_le _⟩)) (fun r_1 h_1 => ?_)
  obtain ⟨rfl, hz_1⟩ := h_1
  refine lv_if_ne (tgt := 17) hx hb dX3_toss_4 (by decide) (fun c_4 => ?_) (fun c_4 => ?_)
  · refine lv_aload_n hx hb dX3_toss_17 rfl (lv_at hl 0 rfl) ?_
    refine va_get (D := (dC, dI)) (ci := 3) (v := .ref j) (C := RX3) (T := TX3) (N := 4) hx hb hts in_X3 hown hK hP 0 rfl rfl 1 (by decide) q_0 (fun _ h9 => h9) rfl dX3_toss_18 ?_
    refine lv_iload_n hx hb dX3_toss_21 rfl (lv_at hl 1 rfl) ?_
    have hPc := hP.sub (ws' := (wJ cI j a1 a2 a3 σ)) [2, 3, 4, 5] rfl
    have hDc := hD.sub (ws' := (wJ cI j a1 a2 a3 σ)) [2, 3, 4, 5] (by decide) rfl
    have hFc := va_free (wc := (wJ cI j a1 a2 a3 σ)) hD hS hA [2, 3, 4, 5] rfl
    refine va_calli (va_runV (As := [.int p0]) (rest := []) ⟨hx, hb, hml, hown, hts⟩ (c_X0_throwNow l dC dI cI cR _ j a1 a2 a3 σ p0 hT) (cwV 1 hts gX3_toss_X0_throwNow rfl rfl rfl (by decide +kernel) ⟨Nat.le_of_ble_eq_true rfl, Nat.le_of_ble_eq_true rfl⟩) ⟨fun a U g mk q => by obtain ⟨q0, q1, qP, qE, qD⟩ := q; exact ⟨q0, q1, qP, cE.same (s := U) rfl qE, qD⟩, va_recv hK hP (ci := 0) (q0 := 2) rfl rfl, fun U hU hW => ⟨rfl, by rw [hU], by rw [hU]; exact hPc, hE.warm hW, hDc.weaken (fun _ _ _ _ => trivial)⟩⟩ rfl rfl hl.1 rfl (lv_room (Nat.le_of_ble_eq_true rfl)) dX3_toss_22 ⟨Nat.zero_le _, Nat.zero_le _⟩) hS (fun q _ h => hFc q h) hFc (fun r_22 u t H1 locs ht hvm h_22 hB hz1 hk1 hS => ?_)
    obtain ⟨hP1, -, hD1⟩ := hB
    rw [ht] at hP1
    obtain ⟨hP, hD⟩ := va_joinQ (X := [(x, .inr (3, [.ref rw, .ref j, .ref y, .int ξ.2])), (rw, .inl (cR, 8, .inr (.inr (.inr (.inr ξ.1))))), (j, .inr (0, [.ref a1, .ref a2, .ref a3, .int σ.2.2.2.1, .int σ.2.2.2.2.1, .int σ.2.2.2.2.2.1, .int σ.2.2.2.2.2.2.1, .double σ.2.2.2.2.2.2.2])), (a1, .inl (cI, 6, .inl σ.1)), (a2, .inl (cI, 6, .inl σ.2.1)), (a3, .inl (cI, 6, .inl σ.2.2.1)), (y, .inr (2, [.ref b1, .ref b2, .ref b3, .int η.2.2.2])), (b1, .inl (cI, 512, .inl η.1)), (b2, .inl (cI, 512, .inl η.2.1)), (b3, .inl (cI, 512, .inl η.2.2.1))]) (pl := wRs cI rows) (wr := [(x, .inr (3, [.ref rw, .ref j, .ref y, .int ξ.2])), (rw, .inl (cR, 8, .inr (.inr (.inr (.inr ξ.1))))), (y, .inr (2, [.ref b1, .ref b2, .ref b3, .int η.2.2.2])), (b1, .inl (cI, 512, .inl η.1)), (b2, .inl (cI, 512, .inl η.2.1)), (b3, .inl (cI, 512, .inl η.2.2.1))]) (w1 := (wJ cI j a1 a2 a3 ((S_X0_throwNow σ p0).2))) hP hD [2, 3, 4, 5] [0, 1, 6, 7, 8, 9] rfl rfl (by decide) (by decide) hk1 hFc hP1 hD1
    have hP : va_P (dC, dI) vwCl ([(x, .inr (3, [.ref rw, .ref j, .ref y, .int ξ.2])), (rw, .inl (cR, 8, .inr (.inr (.inr (.inr ξ.1))))), (j, .inr (0, [.ref a1, .ref a2, .ref a3, .int (((S_X0_throwNow σ p0).2).2.2.2.1), .int (((S_X0_throwNow σ p0).2).2.2.2.2.1), .int (((S_X0_throwNow σ p0).2).2.2.2.2.2.1), .int (((S_X0_throwNow σ p0).2).2.2.2.2.2.2.1), .double (((S_X0_throwNow σ p0).2).2.2.2.2.2.2.2)])), (a1, .inl (cI, 6, .inl (((S_X0_throwNow σ p0).2).1))), (a2, .inl (cI, 6, .inl (((S_X0_throwNow σ p0).2).2.1))), (a3, .inl (cI, 6, .inl (((S_X0_throwNow σ p0).2).2.2.1))), (y, .inr (2, [.ref b1, .ref b2, .ref b3, .int η.2.2.2])), (b1, .inl (cI, 512, .inl η.1)), (b2, .inl (cI, 512, .inl η.2.1)), (b3, .inl (cI, 512, .inl η.2.2.1))] ++ wRs cI rows) H1 := hP.part (cx := [(x, .inr (3, [.ref rw, .ref j, .ref y, .int ξ.2])), (rw, .inl (cR, 8, .inr (.inr (.inr (.inr ξ.1))))), (j, .inr (0, [.ref a1, .ref a2, .ref a3, .int (((S_X0_throwNow σ p0).2).2.2.2.1), .int (((S_X0_throwNow σ p0).2).2.2.2.2.1), .int (((S_X0_throwNow σ p0).2).2.2.2.2.2.1), .int (((S_X0_throwNow σ p0).2).2.2.2.2.2.2.1), .double (((S_X0_throwNow σ p0).2).2.2.2.2.2.2.2)])), (a1, .inl (cI, 6, .inl (((S_X0_throwNow σ p0).2).1))), (a2, .inl (cI, 6, .inl (((S_X0_throwNow σ p0).2).2.1))), (a3, .inl (cI, 6, .inl (((S_X0_throwNow σ p0).2).2.2.1))), (y, .inr (2, [.ref b1, .ref b2, .ref b3, .int η.2.2.2])), (b1, .inl (cI, 512, .inl η.1)), (b2, .inl (cI, 512, .inl η.2.1)), (b3, .inl (cI, 512, .inl η.2.2.1))]) [0, 1, 6, 7, 8, 9, 2, 3, 4, 5] rfl
    have hD : va_D A ([(x, .inr (3, [.ref rw, .ref j, .ref y, .int ξ.2])), (rw, .inl (cR, 8, .inr (.inr (.inr (.inr ξ.1))))), (j, .inr (0, [.ref a1, .ref a2, .ref a3, .int (((S_X0_throwNow σ p0).2).2.2.2.1), .int (((S_X0_throwNow σ p0).2).2.2.2.2.1), .int (((S_X0_throwNow σ p0).2).2.2.2.2.2.1), .int (((S_X0_throwNow σ p0).2).2.2.2.2.2.2.1), .double (((S_X0_throwNow σ p0).2).2.2.2.2.2.2.2)])), (a1, .inl (cI, 6, .inl (((S_X0_throwNow σ p0).2).1))), (a2, .inl (cI, 6, .inl (((S_X0_throwNow σ p0).2).2.1))), (a3, .inl (cI, 6, .inl (((S_X0_throwNow σ p0).2).2.2.1))), (y, .inr (2, [.ref b1, .ref b2, .ref b3, .int η.2.2.2])), (b1, .inl (cI, 512, .inl η.1)), (b2, .inl (cI, 512, .inl η.2.1)), (b3, .inl (cI, 512, .inl η.2.2.1))] ++ wRs cI rows) := hD.part (cx := [(x, .inr (3, [.ref rw, .ref j, .ref y, .int ξ.2])), (rw, .inl (cR, 8, .inr (.inr (.inr (.inr ξ.1))))), (j, .inr (0, [.ref a1, .ref a2, .ref a3, .int (((S_X0_throwNow σ p0).2).2.2.2.1), .int (((S_X0_throwNow σ p0).2).2.2.2.2.1), .int (((S_X0_throwNow σ p0).2).2.2.2.2.2.1), .int (((S_X0_throwNow σ p0).2).2.2.2.2.2.2.1), .double (((S_X0_throwNow σ p0).2).2.2.2.2.2.2.2)])), (a1, .inl (cI, 6, .inl (((S_X0_throwNow σ p0).2).1))), (a2, .inl (cI, 6, .inl (((S_X0_throwNow σ p0).2).2.1))), (a3, .inl (cI, 6, .inl (((S_X0_throwNow σ p0).2).2.2.1))), (y, .inr (2, [.ref b1, .ref b2, .ref b3, .int η.2.2.2])), (b1, .inl (cI, 512, .inl η.1)), (b2, .inl (cI, 512, .inl η.2.1)), (b3, .inl (cI, 512, .inl η.2.2.1))]) [0, 1, 6, 7, 8, 9, 2, 3, 4, 5] (by decide) rfl
    subst h_22
    clear hPc hDc hP1 hD1 hk1 hFc hz1 ht hvm
    generalize H1 = H at hP hS ⊢
    have e9 : S_X3_toss ξ σ η rows p0 = ((S_X0_throwNow σ p0).1, (S_X0_throwNow σ p0).2) := by simp only [S_X3_toss]
    exact W.iret (v := ((S_X0_throwNow σ p0).1)) hx hb hr (fun t ht hW => ⟨⟨((S_X0_throwNow σ p0).1), (), rfl, by rw [e9], by rw [ht, e9]; exact hP, hE.warm hW, by rw [e9]; exact hD⟩, hS.F ht⟩) hS.2.2 dX3_toss_25
  · exact absurd c_4 (by rw [hw]; decide)
def S_X3_pick (ξ : XS) (σ : JS) (η : YS) (rows : List RD) : Int32 × JS := ((S_X0_pickUp σ).1, (S_X0_pickUp σ).2)
set_option maxHeartbeats 4000000 in
set_option maxRecDepth 100000 in
theorem c_X3_pick (l : Launch) (dC : Nat → ClassId) (dI : Nat → Nat → Nat) (cI cR : ClassId) (sz : Nat) (x rw j a1 a2 a3 y b1 b2 b3 : Nat) (ξ : XS) (σ : JS) (η : YS) (rows : List RD) (hCI : p_CI ξ rows)   : Met l yX3_pick wsX3_pick ({ frames := 4, cells := 0, slots := 0, locals := 86 }) (va_Pc [.ref x] (fun U => U.heap.size = sz ∧ va_P (dC, dI) vwCl (wC cI cR x rw j a1 a2 a3 y b1 b2 b3 ξ σ η rows) U.heap ∧ cE (dC, dI) cI cR U ∧ va_D (fun _ => True) (wC cI cR x rw j a1 a2 a3 y b1 b2 b3 ξ σ η rows))) (va_Qi (fun (r : Int32) (_ : Unit) => r = (S_X3_pick ξ σ η rows).1) (fun (_ : Unit) t => va_P (dC, dI) vwCl (wC cI cR x rw j a1 a2 a3 y b1 b2 b3 ξ ((S_X3_pick ξ σ η rows).2) η rows) t.heap ∧ cE (dC, dI) cI cR t ∧ va_D (va_A (wC cI cR x rw j a1 a2 a3 y b1 b2 b3 ξ σ η rows) sz) (wC cI cR x rw j a1 a2 a3 y b1 b2 b3 ξ ((S_X3_pick ξ σ η rows).2) η rows)) (va_A (wC cI cR x rw j a1 a2 a3 y b1 b2 b3 ξ σ η rows) sz)) 0 0 (va_A (wC cI cR x rw j a1 a2 a3 y b1 b2 b3 ξ σ η rows) sz) := by
  refine Met.ofW (cc := cX3_pick) (maxL := 1) (ret := (some .int)) (by decide) rfl ?_
  intro p e s m args below meth c s₁ B hml hv
  obtain ⟨rfl, hsz, hP, hE, hD0⟩ := hv
  have hK := hE.1
  have hx := B.exec
  have hb := B.bytes
  have hr := B.returns
  have hts := atoms_spec (ws := wsX3_pick) B.pre
  have hown : s.vm.findClass RX3 = some m.cls := findClass_of_methodNamed B.named
  have hlocks := B.notSynchronized
  subst hsz
  have hD := hD0.self (sz := s.heap.size)
  generalize hAe : va_A (wC cI cR x rw j a1 a2 a3 y b1 b2 b3 ξ σ η rows) s.heap.size = A at hD ⊢
  have hA : ∀ q : Nat, s.heap.size ≤ q → A q := fun q h => by rw [← hAe]; exact Or.inr h
  have hS : va_S A s.heap s.heap [] := va_S.rf
  have hP : va_P (dC, dI) vwCl ([(x, .inr (3, [.ref rw, .ref j, .ref y, .int ξ.2])), (rw, .inl (cR, 8, .inr (.inr (.inr (.inr ξ.1))))), (j, .inr (0, [.ref a1, .ref a2, .ref a3, .int σ.2.2.2.1, .int σ.2.2.2.2.1, .int σ.2.2.2.2.2.1, .int σ.2.2.2.2.2.2.1, .double σ.2.2.2.2.2.2.2])), (a1, .inl (cI, 6, .inl σ.1)), (a2, .inl (cI, 6, .inl σ.2.1)), (a3, .inl (cI, 6, .inl σ.2.2.1)), (y, .inr (2, [.ref b1, .ref b2, .ref b3, .int η.2.2.2])), (b1, .inl (cI, 512, .inl η.1)), (b2, .inl (cI, 512, .inl η.2.1)), (b3, .inl (cI, 512, .inl η.2.2.1))] ++ wRs cI rows) s.heap := hP
  have hD : va_D A ([(x, .inr (3, [.ref rw, .ref j, .ref y, .int ξ.2])), (rw, .inl (cR, 8, .inr (.inr (.inr (.inr ξ.1))))), (j, .inr (0, [.ref a1, .ref a2, .ref a3, .int σ.2.2.2.1, .int σ.2.2.2.2.1, .int σ.2.2.2.2.2.1, .int σ.2.2.2.2.2.2.1, .double σ.2.2.2.2.2.2.2])), (a1, .inl (cI, 6, .inl σ.1)), (a2, .inl (cI, 6, .inl σ.2.1)), (a3, .inl (cI, 6, .inl σ.2.2.1)), (y, .inr (2, [.ref b1, .ref b2, .ref b3, .int η.2.2.2])), (b1, .inl (cI, 512, .inl η.1)), (b2, .inl (cI, 512, .inl η.2.1)), (b3, .inl (cI, 512, .inl η.2.2.1))] ++ wRs cI rows) := hD
  have hl := lv_entry ([.ref x]) (n := 1) (Nat.le_of_ble_eq_true rfl)
  rw [lg_entry_eq]
  generalize (lg_sl ([.ref x]) ++ List.replicate (1 - (lg_sl ([.ref x])).length) Slot.unset).toArray = ls at hl ⊢
  have hl : lv_has ls 1 [(0, .ref x)] := hl
  have q_0 := hts (.fieldLink RX3 18 "Cascadecourt" "juggler" "LCascadecourt$Juggler;") (by decide +kernel)
  have in_X3 : ∀ w ∈ wsX30, w ∈ wsX3_pick := by decide +kernel
  refine lv_aload_n hx hb dX3_pick_0 rfl (lv_at hl 0 rfl) ?_
  refine va_get (D := (dC, dI)) (ci := 3) (v := .ref j) (C := RX3) (T := TX3) (N := 4) hx hb hts in_X3 hown hK hP 0 rfl rfl 1 (by decide) q_0 (fun _ h9 => h9) rfl dX3_pick_1 ?_
  have hPc := hP.sub (ws' := (wJ cI j a1 a2 a3 σ)) [2, 3, 4, 5] rfl
  have hDc := hD.sub (ws' := (wJ cI j a1 a2 a3 σ)) [2, 3, 4, 5] (by decide) rfl
  have hFc := va_free (wc := (wJ cI j a1 a2 a3 σ)) hD hS hA [2, 3, 4, 5] rfl
  refine va_calli (va_runV (As := []) (rest := []) ⟨hx, hb, hml, hown, hts⟩ (c_X0_pickUp l dC dI cI cR _ j a1 a2 a3 σ) (cwV 0 hts gX3_pick_X0_pickUp rfl rfl rfl (by decide +kernel) ⟨Nat.le_of_ble_eq_true rfl, Nat.le_of_ble_eq_true rfl⟩) ⟨fun a U g mk q => by obtain ⟨q0, q1, qP, qE, qD⟩ := q; exact ⟨q0, q1, qP, cE.same (s := U) rfl qE, qD⟩, va_recv hK hP (ci := 0) (q0 := 2) rfl rfl, fun U hU hW => ⟨rfl, by rw [hU], by rw [hU]; exact hPc, hE.warm hW, hDc.weaken (fun _ _ _ _ => trivial)⟩⟩ rfl rfl hl.1 rfl (lv_room (Nat.le_of_ble_eq_true rfl)) dX3_pick_4 ⟨Nat.zero_le _, Nat.zero_le _⟩) hS (fun q _ h => hFc q h) hFc (fun r_4 u t H1 locs ht hvm h_4 hB hz1 hk1 hS => ?_)
  obtain ⟨hP1, -, hD1⟩ := hB
  rw [ht] at hP1
  obtain ⟨hP, hD⟩ := va_joinQ (X := [(x, .inr (3, [.ref rw, .ref j, .ref y, .int ξ.2])), (rw, .inl (cR, 8, .inr (.inr (.inr (.inr ξ.1))))), (j, .inr (0, [.ref a1, .ref a2, .ref a3, .int σ.2.2.2.1, .int σ.2.2.2.2.1, .int σ.2.2.2.2.2.1, .int σ.2.2.2.2.2.2.1, .double σ.2.2.2.2.2.2.2])), (a1, .inl (cI, 6, .inl σ.1)), (a2, .inl (cI, 6, .inl σ.2.1)), (a3, .inl (cI, 6, .inl σ.2.2.1)), (y, .inr (2, [.ref b1, .ref b2, .ref b3, .int η.2.2.2])), (b1, .inl (cI, 512, .inl η.1)), (b2, .inl (cI, 512, .inl η.2.1)), (b3, .inl (cI, 512, .inl η.2.2.1))]) (pl := wRs cI rows) (wr := [(x, .inr (3, [.ref rw, .ref j, .ref y, .int ξ.2])), (rw, .inl (cR, 8, .inr (.inr (.inr (.inr ξ.1))))), (y, .inr (2, [.ref b1, .ref b2, .ref b3, .int η.2.2.2])), (b1, .inl (cI, 512, .inl η.1)), (b2, .inl (cI, 512, .inl η.2.1)), (b3, .inl (cI, 512, .inl η.2.2.1))]) (w1 := (wJ cI j a1 a2 a3 ((S_X0_pickUp σ).2))) hP hD [2, 3, 4, 5] [0, 1, 6, 7, 8, 9] rfl rfl (by decide) (by decide) hk1 hFc hP1 hD1
  have hP : va_P (dC, dI) vwCl ([(x, .inr (3, [.ref rw, .ref j, .ref y, .int ξ.2])), (rw, .inl (cR, 8, .inr (.inr (.inr (.inr ξ.1))))), (j, .inr (0, [.ref a1, .ref a2, .ref a3, .int (((S_X0_pickUp σ).2).2.2.2.1), .int (((S_X0_pickUp σ).2).2.2.2.2.1), .int (((S_X0_pickUp σ).2).2.2.2.2.2.1), .int (((S_X0_pickUp σ).2).2.2.2.2.2.2.1), .double (((S_X0_pickUp σ).2).2.2.2.2.2.2.2)])), (a1, .inl (cI, 6, .inl (((S_X0_pickUp σ).2).1))), (a2, .inl (cI, 6, .inl (((S_X0_pickUp σ).2).2.1))), (a3, .inl (cI, 6, .inl (((S_X0_pickUp σ).2).2.2.1))), (y, .inr (2, [.ref b1, .ref b2, .ref b3, .int η.2.2.2])), (b1, .inl (cI, 512, .inl η.1)), (b2, .inl (cI, 512, .inl η.2.1)), (b3, .inl (cI, 512, .inl η.2.2.1))] ++ wRs cI rows) H1 := hP.part (cx := [(x, .inr (3, [.ref rw, .ref j, .ref y, .int ξ.2])), (rw, .inl (cR, 8, .inr (.inr (.inr (.inr ξ.1))))), (j, .inr (0, [.ref a1, .ref a2, .ref a3, .int (((S_X0_pickUp σ).2).2.2.2.1), .int (((S_X0_pickUp σ).2).2.2.2.2.1), .int (((S_X0_pickUp σ).2).2.2.2.2.2.1), .int (((S_X0_pickUp σ).2).2.2.2.2.2.2.1), .double (((S_X0_pickUp σ).2).2.2.2.2.2.2.2)])), (a1, .inl (cI, 6, .inl (((S_X0_pickUp σ).2).1))), (a2, .inl (cI, 6, .inl (((S_X0_pickUp σ).2).2.1))), (a3, .inl (cI, 6, .inl (((S_X0_pickUp σ).2).2.2.1))), (y, .inr (2, [.ref b1, .ref b2, .ref b3, .int η.2.2.2])), (b1, .inl (cI, 512, .inl η.1)), (b2, .inl (cI, 512, .inl η.2.1)), (b3, .inl (cI, 512, .inl η.2.2.1))]) [0, 1, 6, 7, 8, 9, 2, 3, 4, 5] rfl
  have hD : va_D A ([(x, .inr (3, [.ref rw, .ref j, .ref y, .int ξ.2])), (rw, .inl (cR, 8, .inr (.inr (.inr (.inr ξ.1))))), (j, .inr (0, [.ref a1, .ref a2, .ref a3, .int (((S_X0_pickUp σ).2).2.2.2.1), .int (((S_X0_pickUp σ).2).2.2.2.2.1), .int (((S_X0_pickUp σ).2).2.2.2.2.2.1), .int (((S_X0_pickUp σ).2).2.2.2.2.2.2.1), .double (((S_X0_pickUp σ).2).2.2.2.2.2.2.2)])), (a1, .inl (cI, 6, .inl (((S_X0_pickUp σ).2).1))), (a2, .inl (cI, 6, .inl (((S_X0_pickUp σ).2).2.1))), (a3, .inl (cI, 6, .inl (((S_X0_pickUp σ).2).2.2.1))), (y, .inr (2, [.ref b1, .ref b2, .ref b3, .int η.2.2.2])), (b1, .inl (cI, 512, .inl η.1)), (b2, .inl (cI, 512, .inl η.2.1)), (b3, .inl (cI, 512, .inl η.2.2.1))] ++ wRs cI rows) := hD.part (cx := [(x, .inr (3, [.ref rw, .ref j, .ref y, .int ξ.2])), (rw, .inl (cR, 8, .inr (.inr (.inr (.inr ξ.1))))), (j, .inr (0, [.ref a1, .ref a2, .ref a3, .int (((S_X0_pickUp σ).2).2.2.2.1), .int (((S_X0_pickUp σ).2).2.2.2.2.1), .int (((S_X0_pickUp σ).2).2.2.2.2.2.1), .int (((S_X0_pickUp σ).2).2.2.2.2.2.2.1), .double (((S_X0_pickUp σ).2).2.2.2.2.2.2.2)])), (a1, .inl (cI, 6, .inl (((S_X0_pickUp σ).2).1))), (a2, .inl (cI, 6, .inl (((S_X0_pickUp σ).2).2.1))), (a3, .inl (cI, 6, .inl (((S_X0_pickUp σ).2).2.2.1))), (y, .inr (2, [.ref b1, .ref b2, .ref b3, .int η.2.2.2])), (b1, .inl (cI, 512, .inl η.1)), (b2, .inl (cI, 512, .inl η.2.1)), (b3, .inl (cI, 512, .inl η.2.2.1))]) [0, 1, 6, 7, 8, 9, 2, 3, 4, 5] (by decide) rfl
  subst h_4
  clear hPc hDc hP1 hD1 hk1 hFc hz1 ht hvm
  generalize H1 = H at hP hS ⊢
  have e9 : S_X3_pick ξ σ η rows = ((S_X0_pickUp σ).1, (S_X0_pickUp σ).2) := by simp only [S_X3_pick]
  exact W.iret (v := ((S_X0_pickUp σ).1)) hx hb hr (fun t ht hW => ⟨⟨((S_X0_pickUp σ).1), (), rfl, by rw [e9], by rw [ht, e9]; exact hP, hE.warm hW, by rw [e9]; exact hD⟩, hS.F ht⟩) hS.2.2 dX3_pick_7
def G_X3_stepsInto_34 (ξ : XS) (σ : JS) (η : YS) (rows : List RD) (ro : RD) : Nat → Nat → Int32 → Int32 × YS
  | 0, k, v3_34 => (v3_34, (S_X2_lookFrom η (S_X0_state σ)))
  | mm + 1, k, v3_34 => (if (S_X2_stepsTo (S_X2_lookFrom η (S_X0_state σ)) (S_X1_stateAt ro.2 (nI k))) = (-1) then G_X3_stepsInto_34 ξ σ η rows ro mm (k + 1) v3_34 else (if v3_34 = (-1) then G_X3_stepsInto_34 ξ σ η rows ro mm (k + 1) (S_X2_stepsTo (S_X2_lookFrom η (S_X0_state σ)) (S_X1_stateAt ro.2 (nI k))) else (if v3_34 ≤ (S_X2_stepsTo (S_X2_lookFrom η (S_X0_state σ)) (S_X1_stateAt ro.2 (nI k))) then G_X3_stepsInto_34 ξ σ η rows ro mm (k + 1) v3_34 else G_X3_stepsInto_34 ξ σ η rows ro mm (k + 1) (S_X2_stepsTo (S_X2_lookFrom η (S_X0_state σ)) (S_X1_stateAt ro.2 (nI k))))))
def S_X3_stepsInto (ξ : XS) (σ : JS) (η : YS) (rows : List RD) (ro : RD) : Int32 × YS := (if (S_X1_props ro.2) = (S_J6_bitCount_0f7a4 (S_X0_state σ)) then G_X3_stepsInto_34 ξ σ η rows ro ((S_X1_length ro.2).toNatClampNeg) 0 (-1) else ((-1), η))
set_option maxHeartbeats 4000000 in
set_option maxRecDepth 100000 in
theorem c_X3_stepsInto (l : Launch) (dC : Nat → ClassId) (dI : Nat → Nat → Nat) (cI cR : ClassId) (sz : Nat) (x rw j a1 a2 a3 y b1 b2 b3 : Nat) (ξ : XS) (σ : JS) (η : YS) (rows : List RD) (hCI : p_CI ξ rows) (ro : RD) (hro : ro ∈ rows)   : Met l yX3_stepsInto wsX3_stepsInto ({ frames := 3, cells := 0, slots := 0, locals := 71 }) (va_Pc [.ref x, .ref ro.1.1] (fun U => U.heap.size = sz ∧ va_P (dC, dI) vwCl (wC cI cR x rw j a1 a2 a3 y b1 b2 b3 ξ σ η rows) U.heap ∧ cE (dC, dI) cI cR U ∧ va_D (fun _ => True) (wC cI cR x rw j a1 a2 a3 y b1 b2 b3 ξ σ η rows))) (va_Qi (fun (r : Int32) (_ : Unit) => r = (S_X3_stepsInto ξ σ η rows ro).1) (fun (_ : Unit) t => va_P (dC, dI) vwCl (wC cI cR x rw j a1 a2 a3 y b1 b2 b3 ξ σ ((S_X3_stepsInto ξ σ η rows ro).2) rows) t.heap ∧ cE (dC, dI) cI cR t ∧ va_D (va_A (wC cI cR x rw j a1 a2 a3 y b1 b2 b3 ξ σ η rows) sz) (wC cI cR x rw j a1 a2 a3 y b1 b2 b3 ξ σ ((S_X3_stepsInto ξ σ η rows ro).2) rows)) (va_A (wC cI cR x rw j a1 a2 a3 y b1 b2 b3 ξ σ η rows) sz)) 0 0 (va_A (wC cI cR x rw j a1 a2 a3 y b1 b2 b3 ξ σ η rows) sz) := by
  refine Met.ofW (cc := cX3_stepsInto) (maxL := 6) (ret := (some .int)) (by decide) rfl ?_
  intro p e s m args below meth c s₁ B hml hv
  obtain ⟨rfl, hsz, hP, hE, hD0⟩ := hv
  have hK := hE.1
  have hx := B.exec
  have hb := B.bytes
  have hr := B.returns
  have hts := atoms_spec (ws := wsX3_stepsInto) B.pre
  have hown : s.vm.findClass RX3 = some m.cls := findClass_of_methodNamed B.named
  have hlocks := B.notSynchronized
  subst hsz
  have hD := hD0.self (sz := s.heap.size)
  generalize hAe : va_A (wC cI cR x rw j a1 a2 a3 y b1 b2 b3 ξ σ η rows) s.heap.size = A at hD ⊢
  have hA : ∀ q : Nat, s.heap.size ≤ q → A q := fun q h => by rw [← hAe]; exact Or.inr h
  have hS : va_S A s.heap s.heap [] := va_S.rf
  have hP : va_P (dC, dI) vwCl ([(x, .inr (3, [.ref rw, .ref j, .ref y, .int ξ.2])), (rw, .inl (cR, 8, .inr (.inr (.inr (.inr ξ.1))))), (j, .inr (0, [.ref a1, .ref a2, .ref a3, .int σ.2.2.2.1, .int σ.2.2.2.2.1, .int σ.2.2.2.2.2.1, .int σ.2.2.2.2.2.2.1, .double σ.2.2.2.2.2.2.2])), (a1, .inl (cI, 6, .inl σ.1)), (a2, .inl (cI, 6, .inl σ.2.1)), (a3, .inl (cI, 6, .inl σ.2.2.1)), (y, .inr (2, [.ref b1, .ref b2, .ref b3, .int η.2.2.2])), (b1, .inl (cI, 512, .inl η.1)), (b2, .inl (cI, 512, .inl η.2.1)), (b3, .inl (cI, 512, .inl η.2.2.1))] ++ wRs cI rows) s.heap := hP
  have hD : va_D A ([(x, .inr (3, [.ref rw, .ref j, .ref y, .int ξ.2])), (rw, .inl (cR, 8, .inr (.inr (.inr (.inr ξ.1))))), (j, .inr (0, [.ref a1, .ref a2, .ref a3, .int σ.2.2.2.1, .int σ.2.2.2.2.1, .int σ.2.2.2.2.2.1, .int σ.2.2.2.2.2.2.1, .double σ.2.2.2.2.2.2.2])), (a1, .inl (cI, 6, .inl σ.1)), (a2, .inl (cI, 6, .inl σ.2.1)), (a3, .inl (cI, 6, .inl σ.2.2.1)), (y, .inr (2, [.ref b1, .ref b2, .ref b3, .int η.2.2.2])), (b1, .inl (cI, 512, .inl η.1)), (b2, .inl (cI, 512, .inl η.2.1)), (b3, .inl (cI, 512, .inl η.2.2.1))] ++ wRs cI rows) := hD
  have hl := lv_entry ([.ref x, .ref ro.1.1]) (n := 6) (Nat.le_of_ble_eq_true rfl)
  rw [lg_entry_eq]
  generalize (lg_sl ([.ref x, .ref ro.1.1]) ++ List.replicate (6 - (lg_sl ([.ref x, .ref ro.1.1])).length) Slot.unset).toArray = ls at hl ⊢
  have hl : lv_has ls 6 [(0, .ref x), (1, .ref ro.1.1)] := hl
  have q_0 := hts (.fieldLink RX3 18 "Cascadecourt" "juggler" "LCascadecourt$Juggler;") (by decide +kernel)
  have in_X3 : ∀ w ∈ wsX30, w ∈ wsX3_stepsInto := by decide +kernel
  have q_1 := hts (.fieldLink RX3 25 "Cascadecourt" "ways" "LCascadecourt$Ways;") (by decide +kernel)
  refine lv_aload_n hx hb dX3_stepsInto_0 rfl (lv_at hl 0 rfl) ?_
  refine va_get (D := (dC, dI)) (ci := 3) (v := .ref j) (C := RX3) (T := TX3) (N := 4) hx hb hts in_X3 hown hK hP 0 rfl rfl 1 (by decide) q_0 (fun _ h9 => h9) rfl dX3_stepsInto_1 ?_
  refine vp_callSi (va_Run.run (va_runV (As := []) (rest := []) ⟨hx, hb, hml, hown, hts⟩ (c_X0_state l dC dI cI cR j a1 a2 a3 σ) (cwV 0 hts gX3_stepsInto_X0_state rfl rfl rfl (by decide +kernel) ⟨Nat.le_of_ble_eq_true rfl, Nat.le_of_ble_eq_true rfl⟩) ⟨fun a U g mk q => by obtain ⟨q0, qP, qE⟩ := q; exact ⟨q0, qP, cE.same (s := U) rfl qE⟩, va_recv hK hP (ci := 0) (q0 := 2) rfl rfl, fun U hU hW => ⟨rfl, by rw [hU]; exact hP.sub (ws' := (wJ cI j a1 a2 a3 σ)) [2, 3, 4, 5] rfl, hE.warm hW⟩⟩ rfl rfl hl.1 rfl (lv_room (Nat.le_of_ble_eq_true rfl)) dX3_stepsInto_4 ⟨Nat.zero_le _, Nat.zero_le _⟩)) (fun r_4 h_4 => ?_)
  subst h_4
  refine lv_istore_n (lv' := [(2, .int (S_X0_state σ)), (0, .ref x), (1, .ref ro.1.1)]) hx hb dX3_stepsInto_7 rfl hl (by decide) rfl (fun ls hl => ?_)
  refine lv_aload_n hx hb dX3_stepsInto_8 rfl (lv_at hl 2 rfl) ?_
  refine vp_callSi (va_Run.run (va_runV (As := []) (rest := []) ⟨hx, hb, hml, hown, hts⟩ (c_X1_props l dC dI cI cR ro.1.1 ro.1.2.1 ro.1.2.2.1 ro.1.2.2.2.1 ro.1.2.2.2.2.1 ro.1.2.2.2.2.2 ro.2) (cwV 0 hts gX3_stepsInto_X1_props rfl rfl rfl (by decide +kernel) ⟨Nat.le_of_ble_eq_true rfl, Nat.le_of_ble_eq_true rfl⟩) ⟨fun a U g mk q => by obtain ⟨q0, qP, qE⟩ := q; exact ⟨q0, qP, cE.same (s := U) rfl qE⟩, va_recv hK (p_row hP hro) (ci := 1) (q0 := 0) rfl rfl, fun U hU hW => ⟨rfl, by rw [hU]; exact p_row hP hro, hE.warm hW⟩⟩ rfl rfl hl.1 rfl (lv_room (Nat.le_of_ble_eq_true rfl)) dX3_stepsInto_9 ⟨Nat.zero_le _, Nat.zero_le _⟩)) (fun r_9 h_9 => ?_)
  subst h_9
  refine lv_iload_n hx hb dX3_stepsInto_12 rfl (lv_at hl 0 rfl) ?_
  refine vp_callSi (va_Run.run (va_runS (As := [.int (S_X0_state σ)]) (rest := [.int (S_X1_props ro.2)]) ⟨hx, hb, hml, hown, hts⟩ (c_J6_bitCount_0f7a4 l (S_X0_state σ)) (va_cwS 1 hts gX3_stepsInto_J6_bitCount_0f7a4 rfl rfl rfl (by decide +kernel) ⟨Nat.le_of_ble_eq_true rfl, Nat.le_of_ble_eq_true rfl⟩) ⟨fun a U g mk q => q, fun U hU hW => ⟨rfl, trivial⟩⟩ rfl rfl hl.1 rfl (lv_room (Nat.le_of_ble_eq_true rfl)) dX3_stepsInto_13 ⟨Nat.zero_le _, Nat.zero_le _⟩)) (fun r_13 h_13 => ?_)
  subst h_13
  refine lv_icmp_eq (tgt := 21) hx hb dX3_stepsInto_16 (by decide) (fun c_16 => ?_) (fun c_16 => ?_)
  · refine lv_aload_n hx hb dX3_stepsInto_21 rfl (lv_at hl 1 rfl) ?_
    refine va_get (D := (dC, dI)) (ci := 3) (v := .ref y) (C := RX3) (T := TX3) (N := 4) hx hb hts in_X3 hown hK hP 0 rfl rfl 2 (by decide) q_1 (fun _ h9 => h9) rfl dX3_stepsInto_22 ?_
    refine lv_iload_n hx hb dX3_stepsInto_25 rfl (lv_at hl 0 rfl) ?_
    have hPc := hP.sub (ws' := (wY cI y b1 b2 b3 η)) [6, 7, 8, 9] rfl
    have hDc := hD.sub (ws' := (wY cI y b1 b2 b3 η)) [6, 7, 8, 9] (by decide) rfl
    have hFc := va_free (wc := (wY cI y b1 b2 b3 η)) hD hS hA [6, 7, 8, 9] rfl
    refine va_callv (va_runV (As := [.int (S_X0_state σ)]) (rest := []) ⟨hx, hb, hml, hown, hts⟩ (c_X2_lookFrom l dC dI cI cR _ y b1 b2 b3 η (S_X0_state σ)) (cwV 1 hts gX3_stepsInto_X2_lookFrom rfl rfl rfl (by decide +kernel) ⟨Nat.le_of_ble_eq_true rfl, Nat.le_of_ble_eq_true rfl⟩) ⟨fun a U g mk q => by obtain ⟨q0, q1, qP, qE, qD⟩ := q; exact ⟨q0, q1, qP, cE.same (s := U) rfl qE, qD⟩, va_recv hK hP (ci := 2) (q0 := 6) rfl rfl, fun U hU hW => ⟨rfl, by rw [hU], by rw [hU]; exact hPc, hE.warm hW, hDc.weaken (fun _ _ _ _ => trivial)⟩⟩ rfl rfl hl.1 rfl (lv_room (Nat.le_of_ble_eq_true rfl)) dX3_stepsInto_26 ⟨Nat.zero_le _, Nat.zero_le _⟩) hS (fun q _ h => hFc q h) hFc (fun u t H1 locs ht hvm h_26 hB hz1 hk1 hS => ?_)
    obtain ⟨hP1, -, hD1⟩ := hB
    rw [ht] at hP1
    obtain ⟨hP, hD⟩ := va_joinQ (X := [(x, .inr (3, [.ref rw, .ref j, .ref y, .int ξ.2])), (rw, .inl (cR, 8, .inr (.inr (.inr (.inr ξ.1))))), (j, .inr (0, [.ref a1, .ref a2, .ref a3, .int σ.2.2.2.1, .int σ.2.2.2.2.1, .int σ.2.2.2.2.2.1, .int σ.2.2.2.2.2.2.1, .double σ.2.2.2.2.2.2.2])), (a1, .inl (cI, 6, .inl σ.1)), (a2, .inl (cI, 6, .inl σ.2.1)), (a3, .inl (cI, 6, .inl σ.2.2.1)), (y, .inr (2, [.ref b1, .ref b2, .ref b3, .int η.2.2.2])), (b1, .inl (cI, 512, .inl η.1)), (b2, .inl (cI, 512, .inl η.2.1)), (b3, .inl (cI, 512, .inl η.2.2.1))]) (pl := wRs cI rows) (wr := [(x, .inr (3, [.ref rw, .ref j, .ref y, .int ξ.2])), (rw, .inl (cR, 8, .inr (.inr (.inr (.inr ξ.1))))), (j, .inr (0, [.ref a1, .ref a2, .ref a3, .int σ.2.2.2.1, .int σ.2.2.2.2.1, .int σ.2.2.2.2.2.1, .int σ.2.2.2.2.2.2.1, .double σ.2.2.2.2.2.2.2])), (a1, .inl (cI, 6, .inl σ.1)), (a2, .inl (cI, 6, .inl σ.2.1)), (a3, .inl (cI, 6, .inl σ.2.2.1))]) (w1 := (wY cI y b1 b2 b3 (S_X2_lookFrom η (S_X0_state σ)))) hP hD [6, 7, 8, 9] [0, 1, 2, 3, 4, 5] rfl rfl (by decide) (by decide) hk1 hFc hP1 hD1
    have hP : va_P (dC, dI) vwCl ([(x, .inr (3, [.ref rw, .ref j, .ref y, .int ξ.2])), (rw, .inl (cR, 8, .inr (.inr (.inr (.inr ξ.1))))), (j, .inr (0, [.ref a1, .ref a2, .ref a3, .int σ.2.2.2.1, .int σ.2.2.2.2.1, .int σ.2.2.2.2.2.1, .int σ.2.2.2.2.2.2.1, .double σ.2.2.2.2.2.2.2])), (a1, .inl (cI, 6, .inl σ.1)), (a2, .inl (cI, 6, .inl σ.2.1)), (a3, .inl (cI, 6, .inl σ.2.2.1)), (y, .inr (2, [.ref b1, .ref b2, .ref b3, .int ((S_X2_lookFrom η (S_X0_state σ)).2.2.2)])), (b1, .inl (cI, 512, .inl ((S_X2_lookFrom η (S_X0_state σ)).1))), (b2, .inl (cI, 512, .inl ((S_X2_lookFrom η (S_X0_state σ)).2.1))), (b3, .inl (cI, 512, .inl ((S_X2_lookFrom η (S_X0_state σ)).2.2.1)))] ++ wRs cI rows) H1 := hP.part (cx := [(x, .inr (3, [.ref rw, .ref j, .ref y, .int ξ.2])), (rw, .inl (cR, 8, .inr (.inr (.inr (.inr ξ.1))))), (j, .inr (0, [.ref a1, .ref a2, .ref a3, .int σ.2.2.2.1, .int σ.2.2.2.2.1, .int σ.2.2.2.2.2.1, .int σ.2.2.2.2.2.2.1, .double σ.2.2.2.2.2.2.2])), (a1, .inl (cI, 6, .inl σ.1)), (a2, .inl (cI, 6, .inl σ.2.1)), (a3, .inl (cI, 6, .inl σ.2.2.1)), (y, .inr (2, [.ref b1, .ref b2, .ref b3, .int ((S_X2_lookFrom η (S_X0_state σ)).2.2.2)])), (b1, .inl (cI, 512, .inl ((S_X2_lookFrom η (S_X0_state σ)).1))), (b2, .inl (cI, 512, .inl ((S_X2_lookFrom η (S_X0_state σ)).2.1))), (b3, .inl (cI, 512, .inl ((S_X2_lookFrom η (S_X0_state σ)).2.2.1)))]) [0, 1, 2, 3, 4, 5, 6, 7, 8, 9] rfl
    have hD : va_D A ([(x, .inr (3, [.ref rw, .ref j, .ref y, .int ξ.2])), (rw, .inl (cR, 8, .inr (.inr (.inr (.inr ξ.1))))), (j, .inr (0, [.ref a1, .ref a2, .ref a3, .int σ.2.2.2.1, .int σ.2.2.2.2.1, .int σ.2.2.2.2.2.1, .int σ.2.2.2.2.2.2.1, .double σ.2.2.2.2.2.2.2])), (a1, .inl (cI, 6, .inl σ.1)), (a2, .inl (cI, 6, .inl σ.2.1)), (a3, .inl (cI, 6, .inl σ.2.2.1)), (y, .inr (2, [.ref b1, .ref b2, .ref b3, .int ((S_X2_lookFrom η (S_X0_state σ)).2.2.2)])), (b1, .inl (cI, 512, .inl ((S_X2_lookFrom η (S_X0_state σ)).1))), (b2, .inl (cI, 512, .inl ((S_X2_lookFrom η (S_X0_state σ)).2.1))), (b3, .inl (cI, 512, .inl ((S_X2_lookFrom η (S_X0_state σ)).2.2.1)))] ++ wRs cI rows) := hD.part (cx := [(x, .inr (3, [.ref rw, .ref j, .ref y, .int ξ.2])), (rw, .inl (cR, 8, .inr (.inr (.inr (.inr ξ.1))))), (j, .inr (0, [.ref a1, .ref a2, .ref a3, .int σ.2.2.2.1, .int σ.2.2.2.2.1, .int σ.2.2.2.2.2.1, .int σ.2.2.2.2.2.2.1, .double σ.2.2.2.2.2.2.2])), (a1, .inl (cI, 6, .inl σ.1)), (a2, .inl (cI, 6, .inl σ.2.1)), (a3, .inl (cI, 6, .inl σ.2.2.1)), (y, .inr (2, [.ref b1, .ref b2, .ref b3, .int ((S_X2_lookFrom η (S_X0_state σ)).2.2.2)])), (b1, .inl (cI, 512, .inl ((S_X2_lookFrom η (S_X0_state σ)).1))), (b2, .inl (cI, 512, .inl ((S_X2_lookFrom η (S_X0_state σ)).2.1))), (b3, .inl (cI, 512, .inl ((S_X2_lookFrom η (S_X0_state σ)).2.2.1)))]) [0, 1, 2, 3, 4, 5, 6, 7, 8, 9] (by decide) rfl
    clear hPc hDc hP1 hD1 hk1 hFc hz1 ht hvm
    generalize H1 = H at hP hS ⊢
    refine lv_iconst (v := (-1)) hx hb dX3_stepsInto_29 (by decide) ?_
    refine lv_istore_n (lv' := [(3, .int (-1)), (2, .int (S_X0_state σ)), (0, .ref x), (1, .ref ro.1.1)]) hx hb dX3_stepsInto_30 rfl hl (by decide) rfl (fun ls hl => ?_)
    refine lv_iconst (v := 0) hx hb dX3_stepsInto_31 (by decide) ?_
    refine lv_istore (lv' := [(4, .int 0), (3, .int (-1)), (2, .int (S_X0_state σ)), (0, .ref x), (1, .ref ro.1.1)]) hx hb dX3_stepsInto_32 hl (by decide) rfl (fun ls hl => ?_)
    have hn34 := p_clt (S_X1_length ro.2)
    have loop34 : ∀ (mm k : Nat) (v3_34 : Int32) (H : Heap) (locs : List Loc) (ls : Array Slot), k + mm = (S_X1_length ro.2).toNatClampNeg → G_X3_stepsInto_34 ξ σ η rows ro mm k v3_34 = S_X3_stepsInto ξ σ η rows ro → lv_has ls 6 [(4, .int (nI k)), (3, .int v3_34), (2, .int (S_X0_state σ)), (0, .ref x), (1, .ref ro.1.1)] → va_P (dC, dI) vwCl ([(x, .inr (3, [.ref rw, .ref j, .ref y, .int ξ.2])), (rw, .inl (cR, 8, .inr (.inr (.inr (.inr ξ.1))))), (j, .inr (0, [.ref a1, .ref a2, .ref a3, .int σ.2.2.2.1, .int σ.2.2.2.2.1, .int σ.2.2.2.2.2.1, .int σ.2.2.2.2.2.2.1, .double σ.2.2.2.2.2.2.2])), (a1, .inl (cI, 6, .inl σ.1)), (a2, .inl (cI, 6, .inl σ.2.1)), (a3, .inl (cI, 6, .inl σ.2.2.1)), (y, .inr (2, [.ref b1, .ref b2, .ref b3, .int ((S_X2_lookFrom η (S_X0_state σ)).2.2.2)])), (b1, .inl (cI, 512, .inl ((S_X2_lookFrom η (S_X0_state σ)).1))), (b2, .inl (cI, 512, .inl ((S_X2_lookFrom η (S_X0_state σ)).2.1))), (b3, .inl (cI, 512, .inl ((S_X2_lookFrom η (S_X0_state σ)).2.2.1)))] ++ wRs cI rows) H → va_D A ([(x, .inr (3, [.ref rw, .ref j, .ref y, .int ξ.2])), (rw, .inl (cR, 8, .inr (.inr (.inr (.inr ξ.1))))), (j, .inr (0, [.ref a1, .ref a2, .ref a3, .int σ.2.2.2.1, .int σ.2.2.2.2.1, .int σ.2.2.2.2.2.1, .int σ.2.2.2.2.2.2.1, .double σ.2.2.2.2.2.2.2])), (a1, .inl (cI, 6, .inl σ.1)), (a2, .inl (cI, 6, .inl σ.2.1)), (a3, .inl (cI, 6, .inl σ.2.2.1)), (y, .inr (2, [.ref b1, .ref b2, .ref b3, .int ((S_X2_lookFrom η (S_X0_state σ)).2.2.2)])), (b1, .inl (cI, 512, .inl ((S_X2_lookFrom η (S_X0_state σ)).1))), (b2, .inl (cI, 512, .inl ((S_X2_lookFrom η (S_X0_state σ)).2.1))), (b3, .inl (cI, 512, .inl ((S_X2_lookFrom η (S_X0_state σ)).2.2.1)))] ++ wRs cI rows) → va_S A s.heap H locs → W p l e (headSpec wsX3_stepsInto ({ frames := 3, cells := 0, slots := 0, locals := 71 })).room s m (([.ref x, .ref ro.1.1] : List Value).toArray) below meth c H locs 0 0 (MQ below (va_Qi (fun (r : Int32) (_ : Unit) => r = (S_X3_stepsInto ξ σ η rows ro).1) (fun (_ : Unit) t => va_P (dC, dI) vwCl (wC cI cR x rw j a1 a2 a3 y b1 b2 b3 ξ σ ((S_X3_stepsInto ξ σ η rows ro).2) rows) t.heap ∧ cE (dC, dI) cI cR t ∧ va_D A (wC cI cR x rw j a1 a2 a3 y b1 b2 b3 ξ σ ((S_X3_stepsInto ξ σ η rows ro).2) rows)) A) (([.ref x, .ref ro.1.1] : List Value).toArray) s 0 0 A) (F0 m 34 ls []) := by
      intro mm
      induction mm with
      | zero =>
        intro k v3_34 H locs ls hk34 hG34 hl hP hD hS
        refine lv_iload hx hb dX3_stepsInto_34 (lv_at hl 0 rfl) ?_
        refine lv_aload_n hx hb dX3_stepsInto_36 rfl (lv_at hl 4 rfl) ?_
        refine vp_callSi (va_Run.run (va_runV (As := []) (rest := [.int (nI k)]) ⟨hx, hb, hml, hown, hts⟩ (c_X1_length l dC dI cI cR ro.1.1 ro.1.2.1 ro.1.2.2.1 ro.1.2.2.2.1 ro.1.2.2.2.2.1 ro.1.2.2.2.2.2 ro.2) (cwV 0 hts gX3_stepsInto_X1_length rfl rfl rfl (by decide +kernel) ⟨Nat.le_of_ble_eq_true rfl, Nat.le_of_ble_eq_true rfl⟩) ⟨fun a U g mk q => by obtain ⟨q0, qP, qE⟩ := q; exact ⟨q0, qP, cE.same (s := U) rfl qE⟩, va_recv hK (p_row hP hro) (ci := 1) (q0 := 0) rfl rfl, fun U hU hW => ⟨rfl, by rw [hU]; exact p_row hP hro, hE.warm hW⟩⟩ rfl rfl hl.1 rfl (lv_room (Nat.le_of_ble_eq_true rfl)) dX3_stepsInto_37 ⟨Nat.zero_le _, Nat.zero_le _⟩)) (fun r_37 h_37 => ?_)
        subst h_37
        refine lv_icmp_ge (tgt := 84) hx hb dX3_stepsInto_40 (by decide) (fun c_40 => ?_) (fun c_40 => ?_)
        · refine lv_iload_n hx hb dX3_stepsInto_84 rfl (lv_at hl 1 rfl) ?_
          have e9 : S_X3_stepsInto ξ σ η rows ro = (v3_34, (S_X2_lookFrom η (S_X0_state σ))) := by rw [← hG34]; simp only [G_X3_stepsInto_34]
          exact W.iret (v := v3_34) hx hb hr (fun t ht hW => ⟨⟨v3_34, (), rfl, by rw [e9], by rw [ht, e9]; exact hP, hE.warm hW, by rw [e9]; exact hD⟩, hS.F ht⟩) hS.2.2 dX3_stepsInto_85
        · exact absurd ((p_le (by omega)).mpr (by omega)) c_40
      | succ mm ih34 =>
        intro k v3_34 H locs ls hk34 hG34 hl hP hD hS
        refine lv_iload hx hb dX3_stepsInto_34 (lv_at hl 0 rfl) ?_
        refine lv_aload_n hx hb dX3_stepsInto_36 rfl (lv_at hl 4 rfl) ?_
        refine vp_callSi (va_Run.run (va_runV (As := []) (rest := [.int (nI k)]) ⟨hx, hb, hml, hown, hts⟩ (c_X1_length l dC dI cI cR ro.1.1 ro.1.2.1 ro.1.2.2.1 ro.1.2.2.2.1 ro.1.2.2.2.2.1 ro.1.2.2.2.2.2 ro.2) (cwV 0 hts gX3_stepsInto_X1_length rfl rfl rfl (by decide +kernel) ⟨Nat.le_of_ble_eq_true rfl, Nat.le_of_ble_eq_true rfl⟩) ⟨fun a U g mk q => by obtain ⟨q0, qP, qE⟩ := q; exact ⟨q0, qP, cE.same (s := U) rfl qE⟩, va_recv hK (p_row hP hro) (ci := 1) (q0 := 0) rfl rfl, fun U hU hW => ⟨rfl, by rw [hU]; exact p_row hP hro, hE.warm hW⟩⟩ rfl rfl hl.1 rfl (lv_room (Nat.le_of_ble_eq_true rfl)) dX3_stepsInto_37 ⟨Nat.zero_le _, Nat.zero_le _⟩)) (fun r_37 h_37 => ?_)
        subst h_37
        refine lv_icmp_ge (tgt := 84) hx hb dX3_stepsInto_40 (by decide) (fun c_40 => ?_) (fun c_40 => ?_)
        · exact absurd ((p_le (by omega)).mp c_40) (by omega)
        · refine lv_aload_n hx hb dX3_stepsInto_43 rfl (lv_at hl 3 rfl) ?_
          refine va_get (D := (dC, dI)) (ci := 3) (v := .ref y) (C := RX3) (T := TX3) (N := 4) hx hb hts in_X3 hown hK hP 0 rfl rfl 2 (by decide) q_1 (fun _ h9 => h9) rfl dX3_stepsInto_44 ?_
          refine lv_aload_n hx hb dX3_stepsInto_47 rfl (lv_at hl 4 rfl) ?_
          refine lv_iload hx hb dX3_stepsInto_48 (lv_at hl 0 rfl) ?_
          refine vp_callSi (va_Run.run (va_runV (As := [.int (nI k)]) (rest := [.ref y]) ⟨hx, hb, hml, hown, hts⟩ (c_X1_stateAt l dC dI cI cR ro.1.1 ro.1.2.1 ro.1.2.2.1 ro.1.2.2.2.1 ro.1.2.2.2.2.1 ro.1.2.2.2.2.2 ro.2 (nI k)) (cwV 1 hts gX3_stepsInto_X1_stateAt rfl rfl rfl (by decide +kernel) ⟨Nat.le_of_ble_eq_true rfl, Nat.le_of_ble_eq_true rfl⟩) ⟨fun a U g mk q => by obtain ⟨q0, qP, qE⟩ := q; exact ⟨q0, qP, cE.same (s := U) rfl qE⟩, va_recv hK (p_row hP hro) (ci := 1) (q0 := 0) rfl rfl, fun U hU hW => ⟨rfl, by rw [hU]; exact p_row hP hro, hE.warm hW⟩⟩ rfl rfl hl.1 rfl (lv_room (Nat.le_of_ble_eq_true rfl)) dX3_stepsInto_50 ⟨Nat.zero_le _, Nat.zero_le _⟩)) (fun r_50 h_50 => ?_)
          subst h_50
          refine vp_callSi (va_Run.run (va_runV (As := [.int (S_X1_stateAt ro.2 (nI k))]) (rest := []) ⟨hx, hb, hml, hown, hts⟩ (c_X2_stepsTo l dC dI cI cR y b1 b2 b3 (S_X2_lookFrom η (S_X0_state σ)) (S_X1_stateAt ro.2 (nI k))) (cwV 1 hts gX3_stepsInto_X2_stepsTo rfl rfl rfl (by decide +kernel) ⟨Nat.le_of_ble_eq_true rfl, Nat.le_of_ble_eq_true rfl⟩) ⟨fun a U g mk q => by obtain ⟨q0, qP, qE⟩ := q; exact ⟨q0, qP, cE.same (s := U) rfl qE⟩, va_recv hK hP (ci := 2) (q0 := 6) rfl rfl, fun U hU hW => ⟨rfl, by rw [hU]; exact hP.sub (ws' := (wY cI y b1 b2 b3 (S_X2_lookFrom η (S_X0_state σ)))) [6, 7, 8, 9] rfl, hE.warm hW⟩⟩ rfl rfl hl.1 rfl (lv_room (Nat.le_of_ble_eq_true rfl)) dX3_stepsInto_53 ⟨Nat.zero_le _, Nat.zero_le _⟩)) (fun r_53 h_53 => ?_)
          subst h_53
          refine lv_istore (lv' := [(5, .int (S_X2_stepsTo (S_X2_lookFrom η (S_X0_state σ)) (S_X1_stateAt ro.2 (nI k)))), (4, .int (nI k)), (3, .int v3_34), (2, .int (S_X0_state σ)), (0, .ref x), (1, .ref ro.1.1)]) hx hb dX3_stepsInto_56 hl (by decide) rfl (fun ls hl => ?_)
          refine lv_iload hx hb dX3_stepsInto_58 (lv_at hl 0 rfl) ?_
          refine lv_iconst (v := (-1)) hx hb dX3_stepsInto_60 (by decide) ?_
          refine lv_icmp_eq (tgt := 78) hx hb dX3_stepsInto_61 (by decide) (fun c_61 => ?_) (fun c_61 => ?_)
          · refine lv_iinc (v := nI (k + 1)) (lv' := [(4, .int (nI (k + 1))), (5, .int (S_X2_stepsTo (S_X2_lookFrom η (S_X0_state σ)) (S_X1_stateAt ro.2 (nI k)))), (3, .int v3_34), (2, .int (S_X0_state σ)), (0, .ref x), (1, .ref ro.1.1)]) hx hb dX3_stepsInto_78 hl (k := 1) rfl ((nI_succ _).symm) (by decide) rfl (fun ls hl => ?_)
            refine lv_goto (tgt := 34) hx hb dX3_stepsInto_81 (by decide) ?_
            exact ih34 (k + 1) v3_34 _ _ ls (by omega) (by rw [← hG34]; simp only [G_X3_stepsInto_34, if_pos c_61]) (lv_sub hl [0, 2, 3, 4, 5] rfl) hP hD hS
          · refine lv_iload_n hx hb dX3_stepsInto_64 rfl (lv_at hl 2 rfl) ?_
            refine lv_iconst (v := (-1)) hx hb dX3_stepsInto_65 (by decide) ?_
            refine lv_icmp_eq (tgt := 75) hx hb dX3_stepsInto_66 (by decide) (fun c_66 => ?_) (fun c_66 => ?_)
            · refine lv_iload hx hb dX3_stepsInto_75 (lv_at hl 0 rfl) ?_
              refine lv_istore_n (lv' := [(3, .int (S_X2_stepsTo (S_X2_lookFrom η (S_X0_state σ)) (S_X1_stateAt ro.2 (nI k)))), (5, .int (S_X2_stepsTo (S_X2_lookFrom η (S_X0_state σ)) (S_X1_stateAt ro.2 (nI k)))), (4, .int (nI k)), (2, .int (S_X0_state σ)), (0, .ref x), (1, .ref ro.1.1)]) hx hb dX3_stepsInto_77 rfl hl (by decide) rfl (fun ls hl => ?_)
              refine lv_iinc (v := nI (k + 1)) (lv' := [(4, .int (nI (k + 1))), (3, .int (S_X2_stepsTo (S_X2_lookFrom η (S_X0_state σ)) (S_X1_stateAt ro.2 (nI k)))), (5, .int (S_X2_stepsTo (S_X2_lookFrom η (S_X0_state σ)) (S_X1_stateAt ro.2 (nI k)))), (2, .int (S_X0_state σ)), (0, .ref x), (1, .ref ro.1.1)]) hx hb dX3_stepsInto_78 hl (k := 2) rfl ((nI_succ _).symm) (by decide) rfl (fun ls hl => ?_)
              refine lv_goto (tgt := 34) hx hb dX3_stepsInto_81 (by decide) ?_
              exact ih34 (k + 1) (S_X2_stepsTo (S_X2_lookFrom η (S_X0_state σ)) (S_X1_stateAt ro.2 (nI k))) _ _ ls (by omega) (by rw [← hG34]; simp only [G_X3_stepsInto_34, if_neg c_61, if_pos c_66]) (lv_sub hl [0, 1, 3, 4, 5] rfl) hP hD hS
            · refine lv_iload hx hb dX3_stepsInto_69 (lv_at hl 0 rfl) ?_
              refine lv_iload_n hx hb dX3_stepsInto_71 rfl (lv_at hl 2 rfl) ?_
              refine lv_icmp_ge (tgt := 78) hx hb dX3_stepsInto_72 (by decide) (fun c_72 => ?_) (fun c_72 => ?_)
              · refine lv_iinc (v := nI (k + 1)) (lv' := [(4, .int (nI (k + 1))), (5, .int (S_X2_stepsTo (S_X2_lookFrom η (S_X0_state σ)) (S_X1_stateAt ro.2 (nI k)))), (3, .int v3_34), (2, .int (S_X0_state σ)), (0, .ref x), (1, .ref ro.1.1)]) hx hb dX3_stepsInto_78 hl (k := 1) rfl ((nI_succ _).symm) (by decide) rfl (fun ls hl => ?_)
                refine lv_goto (tgt := 34) hx hb dX3_stepsInto_81 (by decide) ?_
                exact ih34 (k + 1) v3_34 _ _ ls (by omega) (by rw [← hG34]; simp only [G_X3_stepsInto_34, if_neg c_61, if_neg c_66, if_pos c_72]) (lv_sub hl [0, 2, 3, 4, 5] rfl) hP hD hS
              · refine lv_iload hx hb dX3_stepsInto_75 (lv_at hl 0 rfl) ?_
                refine lv_istore_n (lv' := [(3, .int (S_X2_stepsTo (S_X2_lookFrom η (S_X0_state σ)) (S_X1_stateAt ro.2 (nI k)))), (5, .int (S_X2_stepsTo (S_X2_lookFrom η (S_X0_state σ)) (S_X1_stateAt ro.2 (nI k)))), (4, .int (nI k)), (2, .int (S_X0_state σ)), (0, .ref x), (1, .ref ro.1.1)]) hx hb dX3_stepsInto_77 rfl hl (by decide) rfl (fun ls hl => ?_)
                refine lv_iinc (v := nI (k + 1)) (lv' := [(4, .int (nI (k + 1))), (3, .int (S_X2_stepsTo (S_X2_lookFrom η (S_X0_state σ)) (S_X1_stateAt ro.2 (nI k)))), (5, .int (S_X2_stepsTo (S_X2_lookFrom η (S_X0_state σ)) (S_X1_stateAt ro.2 (nI k)))), (2, .int (S_X0_state σ)), (0, .ref x), (1, .ref ro.1.1)]) hx hb dX3_stepsInto_78 hl (k := 2) rfl ((nI_succ _).symm) (by decide) rfl (fun ls hl => ?_)
                refine lv_goto (tgt := 34) hx hb dX3_stepsInto_81 (by decide) ?_
                exact ih34 (k + 1) (S_X2_stepsTo (S_X2_lookFrom η (S_X0_state σ)) (S_X1_stateAt ro.2 (nI k))) _ _ ls (by omega) (by rw [← hG34]; simp only [G_X3_stepsInto_34, if_neg c_61, if_neg c_66, if_neg c_72]) (lv_sub hl [0, 1, 3, 4, 5] rfl) hP hD hS
    exact loop34 ((S_X1_length ro.2).toNatClampNeg) 0 (-1) _ _ ls (by omega) (by simp only [S_X3_stepsInto, if_pos c_16]) (lv_sub hl [0, 1, 2, 3, 4] rfl) hP hD hS
  · refine lv_iconst (v := (-1)) hx hb dX3_stepsInto_19 (by decide) ?_
    have e9 : S_X3_stepsInto ξ σ η rows ro = ((-1), η) := by simp only [S_X3_stepsInto, if_neg c_16]
    exact W.iret (v := (-1)) hx hb hr (fun t ht hW => ⟨⟨(-1), (), rfl, by rw [e9], by rw [ht, e9]; exact hP, hE.warm hW, by rw [e9]; exact hD⟩, hS.F ht⟩) hS.2.2 dX3_stepsInto_20
def G_X3_firstThrowInto_22 (ξ : XS) (σ : JS) (η : YS) (rows : List RD) (ro : RD) : Nat → Nat → Int32 → Int32 × YS
  | 0, k, v3_22 => (v3_22, (S_X3_stepsInto ξ σ η rows ro).2)
  | mm + 1, k, v3_22 => (if (S_X2_stepsTo ((S_X3_stepsInto ξ σ η rows ro).2) (S_X1_stateAt ro.2 (nI k))) = ((S_X3_stepsInto ξ σ η rows ro).1) then (if v3_22 = (-1) then G_X3_firstThrowInto_22 ξ σ η rows ro mm (k + 1) (S_X2_firstThrowTo ((S_X3_stepsInto ξ σ η rows ro).2) (S_X1_stateAt ro.2 (nI k))) else (if v3_22 ≤ (S_X2_firstThrowTo ((S_X3_stepsInto ξ σ η rows ro).2) (S_X1_stateAt ro.2 (nI k))) then G_X3_firstThrowInto_22 ξ σ η rows ro mm (k + 1) v3_22 else G_X3_firstThrowInto_22 ξ σ η rows ro mm (k + 1) (S_X2_firstThrowTo ((S_X3_stepsInto ξ σ η rows ro).2) (S_X1_stateAt ro.2 (nI k))))) else G_X3_firstThrowInto_22 ξ σ η rows ro mm (k + 1) v3_22)
def S_X3_firstThrowInto (ξ : XS) (σ : JS) (η : YS) (rows : List RD) (ro : RD) : Int32 × YS := (if ((S_X3_stepsInto ξ σ η rows ro).1) = (-1) then ((-1), (S_X3_stepsInto ξ σ η rows ro).2) else (if ((S_X3_stepsInto ξ σ η rows ro).1) = 0 then ((-1), (S_X3_stepsInto ξ σ η rows ro).2) else G_X3_firstThrowInto_22 ξ σ η rows ro ((S_X1_length ro.2).toNatClampNeg) 0 (-1)))
set_option maxHeartbeats 4000000 in
set_option maxRecDepth 100000 in
theorem c_X3_firstThrowInto (l : Launch) (dC : Nat → ClassId) (dI : Nat → Nat → Nat) (cI cR : ClassId) (sz : Nat) (x rw j a1 a2 a3 y b1 b2 b3 : Nat) (ξ : XS) (σ : JS) (η : YS) (rows : List RD) (hCI : p_CI ξ rows) (ro : RD) (hro : ro ∈ rows)   : Met l yX3_firstThrowInto wsX3_firstThrowInto ({ frames := 4, cells := 0, slots := 0, locals := 96 }) (va_Pc [.ref x, .ref ro.1.1] (fun U => U.heap.size = sz ∧ va_P (dC, dI) vwCl (wC cI cR x rw j a1 a2 a3 y b1 b2 b3 ξ σ η rows) U.heap ∧ cE (dC, dI) cI cR U ∧ va_D (fun _ => True) (wC cI cR x rw j a1 a2 a3 y b1 b2 b3 ξ σ η rows))) (va_Qi (fun (r : Int32) (_ : Unit) => r = (S_X3_firstThrowInto ξ σ η rows ro).1) (fun (_ : Unit) t => va_P (dC, dI) vwCl (wC cI cR x rw j a1 a2 a3 y b1 b2 b3 ξ σ ((S_X3_firstThrowInto ξ σ η rows ro).2) rows) t.heap ∧ cE (dC, dI) cI cR t ∧ va_D (va_A (wC cI cR x rw j a1 a2 a3 y b1 b2 b3 ξ σ η rows) sz) (wC cI cR x rw j a1 a2 a3 y b1 b2 b3 ξ σ ((S_X3_firstThrowInto ξ σ η rows ro).2) rows)) (va_A (wC cI cR x rw j a1 a2 a3 y b1 b2 b3 ξ σ η rows) sz)) 0 0 (va_A (wC cI cR x rw j a1 a2 a3 y b1 b2 b3 ξ σ η rows) sz) := by
  refine Met.ofW (cc := cX3_firstThrowInto) (maxL := 6) (ret := (some .int)) (by decide) rfl ?_
  intro p e s m args below meth c s₁ B hml hv
  obtain ⟨rfl, hsz, hP, hE, hD0⟩ := hv
  have hK := hE.1
  have hx := B.exec
  have hb := B.bytes
  have hr := B.returns
  have hts := atoms_spec (ws := wsX3_firstThrowInto) B.pre
  have hown : s.vm.findClass RX3 = some m.cls := findClass_of_methodNamed B.named
  have hlocks := B.notSynchronized
  subst hsz
  have hD := hD0.self (sz := s.heap.size)
  generalize hAe : va_A (wC cI cR x rw j a1 a2 a3 y b1 b2 b3 ξ σ η rows) s.heap.size = A at hD ⊢
  have hA : ∀ q : Nat, s.heap.size ≤ q → A q := fun q h => by rw [← hAe]; exact Or.inr h
  have hS : va_S A s.heap s.heap [] := va_S.rf
  have hP : va_P (dC, dI) vwCl ([(x, .inr (3, [.ref rw, .ref j, .ref y, .int ξ.2])), (rw, .inl (cR, 8, .inr (.inr (.inr (.inr ξ.1))))), (j, .inr (0, [.ref a1, .ref a2, .ref a3, .int σ.2.2.2.1, .int σ.2.2.2.2.1, .int σ.2.2.2.2.2.1, .int σ.2.2.2.2.2.2.1, .double σ.2.2.2.2.2.2.2])), (a1, .inl (cI, 6, .inl σ.1)), (a2, .inl (cI, 6, .inl σ.2.1)), (a3, .inl (cI, 6, .inl σ.2.2.1)), (y, .inr (2, [.ref b1, .ref b2, .ref b3, .int η.2.2.2])), (b1, .inl (cI, 512, .inl η.1)), (b2, .inl (cI, 512, .inl η.2.1)), (b3, .inl (cI, 512, .inl η.2.2.1))] ++ wRs cI rows) s.heap := hP
  have hD : va_D A ([(x, .inr (3, [.ref rw, .ref j, .ref y, .int ξ.2])), (rw, .inl (cR, 8, .inr (.inr (.inr (.inr ξ.1))))), (j, .inr (0, [.ref a1, .ref a2, .ref a3, .int σ.2.2.2.1, .int σ.2.2.2.2.1, .int σ.2.2.2.2.2.1, .int σ.2.2.2.2.2.2.1, .double σ.2.2.2.2.2.2.2])), (a1, .inl (cI, 6, .inl σ.1)), (a2, .inl (cI, 6, .inl σ.2.1)), (a3, .inl (cI, 6, .inl σ.2.2.1)), (y, .inr (2, [.ref b1, .ref b2, .ref b3, .int η.2.2.2])), (b1, .inl (cI, 512, .inl η.1)), (b2, .inl (cI, 512, .inl η.2.1)), (b3, .inl (cI, 512, .inl η.2.2.1))] ++ wRs cI rows) := hD
  have hl := lv_entry ([.ref x, .ref ro.1.1]) (n := 6) (Nat.le_of_ble_eq_true rfl)
  rw [lg_entry_eq]
  generalize (lg_sl ([.ref x, .ref ro.1.1]) ++ List.replicate (6 - (lg_sl ([.ref x, .ref ro.1.1])).length) Slot.unset).toArray = ls at hl ⊢
  have hl : lv_has ls 6 [(0, .ref x), (1, .ref ro.1.1)] := hl
  have q_0 := hts (.fieldLink RX3 25 "Cascadecourt" "ways" "LCascadecourt$Ways;") (by decide +kernel)
  have in_X3 : ∀ w ∈ wsX30, w ∈ wsX3_firstThrowInto := by decide +kernel
  refine lv_aload_n hx hb dX3_firstThrowInto_0 rfl (lv_at hl 0 rfl) ?_
  refine lv_aload_n hx hb dX3_firstThrowInto_1 rfl (lv_at hl 1 rfl) ?_
  have hPc := hP
  have hDc := hD
  have hFc := p_freeT hD hS hA
  refine va_calli (va_runV (As := [.ref ro.1.1]) (rest := []) ⟨hx, hb, hml, hown, hts⟩ (c_X3_stepsInto l dC dI cI cR _ x rw j a1 a2 a3 y b1 b2 b3 ξ σ η rows hCI ro hro) (cwV 1 hts gX3_firstThrowInto_X3_stepsInto rfl rfl rfl (by decide +kernel) ⟨Nat.le_of_ble_eq_true rfl, Nat.le_of_ble_eq_true rfl⟩) ⟨fun a U g mk q => by obtain ⟨q0, q1, qP, qE, qD⟩ := q; exact ⟨q0, q1, qP, cE.same (s := U) rfl qE, qD⟩, va_recv hK hP (ci := 3) (q0 := 0) rfl rfl, fun U hU hW => ⟨rfl, by rw [hU], by rw [hU]; exact hPc, hE.warm hW, hDc.weaken (fun _ _ _ _ => trivial)⟩⟩ rfl rfl hl.1 rfl (lv_room (Nat.le_of_ble_eq_true rfl)) dX3_firstThrowInto_2 ⟨Nat.zero_le _, Nat.zero_le _⟩) hS (fun q _ h => hFc q h) hFc (fun r_2 u t H1 locs ht hvm h_2 hB hz1 hk1 hS => ?_)
  obtain ⟨hP1, -, hD1⟩ := hB
  rw [ht] at hP1
  have hP : va_P (dC, dI) vwCl ([(x, .inr (3, [.ref rw, .ref j, .ref y, .int ξ.2])), (rw, .inl (cR, 8, .inr (.inr (.inr (.inr ξ.1))))), (j, .inr (0, [.ref a1, .ref a2, .ref a3, .int σ.2.2.2.1, .int σ.2.2.2.2.1, .int σ.2.2.2.2.2.1, .int σ.2.2.2.2.2.2.1, .double σ.2.2.2.2.2.2.2])), (a1, .inl (cI, 6, .inl σ.1)), (a2, .inl (cI, 6, .inl σ.2.1)), (a3, .inl (cI, 6, .inl σ.2.2.1)), (y, .inr (2, [.ref b1, .ref b2, .ref b3, .int (((S_X3_stepsInto ξ σ η rows ro).2).2.2.2)])), (b1, .inl (cI, 512, .inl (((S_X3_stepsInto ξ σ η rows ro).2).1))), (b2, .inl (cI, 512, .inl (((S_X3_stepsInto ξ σ η rows ro).2).2.1))), (b3, .inl (cI, 512, .inl (((S_X3_stepsInto ξ σ η rows ro).2).2.2.1)))] ++ wRs cI rows) H1 := hP1
  have hD : va_D A ([(x, .inr (3, [.ref rw, .ref j, .ref y, .int ξ.2])), (rw, .inl (cR, 8, .inr (.inr (.inr (.inr ξ.1))))), (j, .inr (0, [.ref a1, .ref a2, .ref a3, .int σ.2.2.2.1, .int σ.2.2.2.2.1, .int σ.2.2.2.2.2.1, .int σ.2.2.2.2.2.2.1, .double σ.2.2.2.2.2.2.2])), (a1, .inl (cI, 6, .inl σ.1)), (a2, .inl (cI, 6, .inl σ.2.1)), (a3, .inl (cI, 6, .inl σ.2.2.1)), (y, .inr (2, [.ref b1, .ref b2, .ref b3, .int (((S_X3_stepsInto ξ σ η rows ro).2).2.2.2)])), (b1, .inl (cI, 512, .inl (((S_X3_stepsInto ξ σ η rows ro).2).1))), (b2, .inl (cI, 512, .inl (((S_X3_stepsInto ξ σ η rows ro).2).2.1))), (b3, .inl (cI, 512, .inl (((S_X3_stepsInto ξ σ η rows ro).2).2.2.1)))] ++ wRs cI rows) := hD1.weaken (fun _ q _ h => hFc q.1 h)
  subst h_2
  clear hPc hDc hP1 hD1 hk1 hFc hz1 ht hvm
  generalize H1 = H at hP hS ⊢
  refine lv_istore_n (lv' := [(2, .int ((S_X3_stepsInto ξ σ η rows ro).1)), (0, .ref x), (1, .ref ro.1.1)]) hx hb dX3_firstThrowInto_5 rfl hl (by decide) rfl (fun ls hl => ?_)
  refine lv_iload_n hx hb dX3_firstThrowInto_6 rfl (lv_at hl 0 rfl) ?_
  refine lv_iconst (v := (-1)) hx hb dX3_firstThrowInto_7 (by decide) ?_
  refine lv_icmp_eq (tgt := 15) hx hb dX3_firstThrowInto_8 (by decide) (fun c_8 => ?_) (fun c_8 => ?_)
  · refine lv_iconst (v := (-1)) hx hb dX3_firstThrowInto_15 (by decide) ?_
    have e9 : S_X3_firstThrowInto ξ σ η rows ro = ((-1), (S_X3_stepsInto ξ σ η rows ro).2) := by simp only [S_X3_firstThrowInto, if_pos c_8]
    exact W.iret (v := (-1)) hx hb hr (fun t ht hW => ⟨⟨(-1), (), rfl, by rw [e9], by rw [ht, e9]; exact hP, hE.warm hW, by rw [e9]; exact hD⟩, hS.F ht⟩) hS.2.2 dX3_firstThrowInto_16
  · refine lv_iload_n hx hb dX3_firstThrowInto_11 rfl (lv_at hl 0 rfl) ?_
    refine lv_if_ne (tgt := 17) hx hb dX3_firstThrowInto_12 (by decide) (fun c_12 => ?_) (fun c_12 => ?_)
    · refine lv_iconst (v := (-1)) hx hb dX3_firstThrowInto_17 (by decide) ?_
      refine lv_istore_n (lv' := [(3, .int (-1)), (2, .int ((S_X3_stepsInto ξ σ η rows ro).1)), (0, .ref x), (1, .ref ro.1.1)]) hx hb dX3_firstThrowInto_18 rfl hl (by decide) rfl (fun ls hl => ?_)
      refine lv_iconst (v := 0) hx hb dX3_firstThrowInto_19 (by decide) ?_
      refine lv_istore (lv' := [(4, .int 0), (3, .int (-1)), (2, .int ((S_X3_stepsInto ξ σ η rows ro).1)), (0, .ref x), (1, .ref ro.1.1)]) hx hb dX3_firstThrowInto_20 hl (by decide) rfl (fun ls hl => ?_)
      have hn22 := p_clt (S_X1_length ro.2)
      have loop22 : ∀ (mm k : Nat) (v3_22 : Int32) (H : Heap) (locs : List Loc) (ls : Array Slot), k + mm = (S_X1_length ro.2).toNatClampNeg → G_X3_firstThrowInto_22 ξ σ η rows ro mm k v3_22 = S_X3_firstThrowInto ξ σ η rows ro → lv_has ls 6 [(4, .int (nI k)), (3, .int v3_22), (2, .int ((S_X3_stepsInto ξ σ η rows ro).1)), (0, .ref x), (1, .ref ro.1.1)] → va_P (dC, dI) vwCl ([(x, .inr (3, [.ref rw, .ref j, .ref y, .int ξ.2])), (rw, .inl (cR, 8, .inr (.inr (.inr (.inr ξ.1))))), (j, .inr (0, [.ref a1, .ref a2, .ref a3, .int σ.2.2.2.1, .int σ.2.2.2.2.1, .int σ.2.2.2.2.2.1, .int σ.2.2.2.2.2.2.1, .double σ.2.2.2.2.2.2.2])), (a1, .inl (cI, 6, .inl σ.1)), (a2, .inl (cI, 6, .inl σ.2.1)), (a3, .inl (cI, 6, .inl σ.2.2.1)), (y, .inr (2, [.ref b1, .ref b2, .ref b3, .int (((S_X3_stepsInto ξ σ η rows ro).2).2.2.2)])), (b1, .inl (cI, 512, .inl (((S_X3_stepsInto ξ σ η rows ro).2).1))), (b2, .inl (cI, 512, .inl (((S_X3_stepsInto ξ σ η rows ro).2).2.1))), (b3, .inl (cI, 512, .inl (((S_X3_stepsInto ξ σ η rows ro).2).2.2.1)))] ++ wRs cI rows) H → va_D A ([(x, .inr (3, [.ref rw, .ref j, .ref y, .int ξ.2])), (rw, .inl (cR, 8, .inr (.inr (.inr (.inr ξ.1))))), (j, .inr (0, [.ref a1, .ref a2, .ref a3, .int σ.2.2.2.1, .int σ.2.2.2.2.1, .int σ.2.2.2.2.2.1, .int σ.2.2.2.2.2.2.1, .double σ.2.2.2.2.2.2.2])), (a1, .inl (cI, 6, .inl σ.1)), (a2, .inl (cI, 6, .inl σ.2.1)), (a3, .inl (cI, 6, .inl σ.2.2.1)), (y, .inr (2, [.ref b1, .ref b2, .ref b3, .int (((S_X3_stepsInto ξ σ η rows ro).2).2.2.2)])), (b1, .inl (cI, 512, .inl (((S_X3_stepsInto ξ σ η rows ro).2).1))), (b2, .inl (cI, 512, .inl (((S_X3_stepsInto ξ σ η rows ro).2).2.1))), (b3, .inl (cI, 512, .inl (((S_X3_stepsInto ξ σ η rows ro).2).2.2.1)))] ++ wRs cI rows) → va_S A s.heap H locs → W p l e (headSpec wsX3_firstThrowInto ({ frames := 4, cells := 0, slots := 0, locals := 96 })).room s m (([.ref x, .ref ro.1.1] : List Value).toArray) below meth c H locs 0 0 (MQ below (va_Qi (fun (r : Int32) (_ : Unit) => r = (S_X3_firstThrowInto ξ σ η rows ro).1) (fun (_ : Unit) t => va_P (dC, dI) vwCl (wC cI cR x rw j a1 a2 a3 y b1 b2 b3 ξ σ ((S_X3_firstThrowInto ξ σ η rows ro).2) rows) t.heap ∧ cE (dC, dI) cI cR t ∧ va_D A (wC cI cR x rw j a1 a2 a3 y b1 b2 b3 ξ σ ((S_X3_firstThrowInto ξ σ η rows ro).2) rows)) A) (([.ref x, .ref ro.1.1] : List Value).toArray) s 0 0 A) (F0 m 22 ls []) := by
        intro mm
        induction mm with
        | zero =>
          intro k v3_22 H locs ls hk22 hG22 hl hP hD hS
          refine lv_iload hx hb dX3_firstThrowInto_22 (lv_at hl 0 rfl) ?_
          refine lv_aload_n hx hb dX3_firstThrowInto_24 rfl (lv_at hl 4 rfl) ?_
          refine vp_callSi (va_Run.run (va_runV (As := []) (rest := [.int (nI k)]) ⟨hx, hb, hml, hown, hts⟩ (c_X1_length l dC dI cI cR ro.1.1 ro.1.2.1 ro.1.2.2.1 ro.1.2.2.2.1 ro.1.2.2.2.2.1 ro.1.2.2.2.2.2 ro.2) (cwV 0 hts gX3_firstThrowInto_X1_length rfl rfl rfl (by decide +kernel) ⟨Nat.le_of_ble_eq_true rfl, Nat.le_of_ble_eq_true rfl⟩) ⟨fun a U g mk q => by obtain ⟨q0, qP, qE⟩ := q; exact ⟨q0, qP, cE.same (s := U) rfl qE⟩, va_recv hK (p_row hP hro) (ci := 1) (q0 := 0) rfl rfl, fun U hU hW => ⟨rfl, by rw [hU]; exact p_row hP hro, hE.warm hW⟩⟩ rfl rfl hl.1 rfl (lv_room (Nat.le_of_ble_eq_true rfl)) dX3_firstThrowInto_25 ⟨Nat.zero_le _, Nat.zero_le _⟩)) (fun r_25 h_25 => ?_)
          subst h_25
          refine lv_icmp_ge (tgt := 86) hx hb dX3_firstThrowInto_28 (by decide) (fun c_28 => ?_) (fun c_28 => ?_)
          · refine lv_iload_n hx hb dX3_firstThrowInto_86 rfl (lv_at hl 1 rfl) ?_
            have e9 : S_X3_firstThrowInto ξ σ η rows ro = (v3_22, (S_X3_stepsInto ξ σ η rows ro).2) := by rw [← hG22]; simp only [G_X3_firstThrowInto_22]
            exact W.iret (v := v3_22) hx hb hr (fun t ht hW => ⟨⟨v3_22, (), rfl, by rw [e9], by rw [ht, e9]; exact hP, hE.warm hW, by rw [e9]; exact hD⟩, hS.F ht⟩) hS.2.2 dX3_firstThrowInto_87
          · exact absurd ((p_le (by omega)).mpr (by omega)) c_28
        | succ mm ih22 =>
          intro k v3_22 H locs ls hk22 hG22 hl hP hD hS
          refine lv_iload hx hb dX3_firstThrowInto_22 (lv_at hl 0 rfl) ?_
          refine lv_aload_n hx hb dX3_firstThrowInto_24 rfl (lv_at hl 4 rfl) ?_
          refine vp_callSi (va_Run.run (va_runV (As := []) (rest := [.int (nI k)]) ⟨hx, hb, hml, hown, hts⟩ (c_X1_length l dC dI cI cR ro.1.1 ro.1.2.1 ro.1.2.2.1 ro.1.2.2.2.1 ro.1.2.2.2.2.1 ro.1.2.2.2.2.2 ro.2) (cwV 0 hts gX3_firstThrowInto_X1_length rfl rfl rfl (by decide +kernel) ⟨Nat.le_of_ble_eq_true rfl, Nat.le_of_ble_eq_true rfl⟩) ⟨fun a U g mk q => by obtain ⟨q0, qP, qE⟩ := q; exact ⟨q0, qP, cE.same (s := U) rfl qE⟩, va_recv hK (p_row hP hro) (ci := 1) (q0 := 0) rfl rfl, fun U hU hW => ⟨rfl, by rw [hU]; exact p_row hP hro, hE.warm hW⟩⟩ rfl rfl hl.1 rfl (lv_room (Nat.le_of_ble_eq_true rfl)) dX3_firstThrowInto_25 ⟨Nat.zero_le _, Nat.zero_le _⟩)) (fun r_25 h_25 => ?_)
          subst h_25
          refine lv_icmp_ge (tgt := 86) hx hb dX3_firstThrowInto_28 (by decide) (fun c_28 => ?_) (fun c_28 => ?_)
          · exact absurd ((p_le (by omega)).mp c_28) (by omega)
          · refine lv_aload_n hx hb dX3_firstThrowInto_31 rfl (lv_at hl 4 rfl) ?_
            refine lv_iload hx hb dX3_firstThrowInto_32 (lv_at hl 0 rfl) ?_
            refine vp_callSi (va_Run.run (va_runV (As := [.int (nI k)]) (rest := []) ⟨hx, hb, hml, hown, hts⟩ (c_X1_stateAt l dC dI cI cR ro.1.1 ro.1.2.1 ro.1.2.2.1 ro.1.2.2.2.1 ro.1.2.2.2.2.1 ro.1.2.2.2.2.2 ro.2 (nI k)) (cwV 1 hts gX3_firstThrowInto_X1_stateAt rfl rfl rfl (by decide +kernel) ⟨Nat.le_of_ble_eq_true rfl, Nat.le_of_ble_eq_true rfl⟩) ⟨fun a U g mk q => by obtain ⟨q0, qP, qE⟩ := q; exact ⟨q0, qP, cE.same (s := U) rfl qE⟩, va_recv hK (p_row hP hro) (ci := 1) (q0 := 0) rfl rfl, fun U hU hW => ⟨rfl, by rw [hU]; exact p_row hP hro, hE.warm hW⟩⟩ rfl rfl hl.1 rfl (lv_room (Nat.le_of_ble_eq_true rfl)) dX3_firstThrowInto_34 ⟨Nat.zero_le _, Nat.zero_le _⟩)) (fun r_34 h_34 => ?_)
            subst h_34
            refine lv_istore (lv' := [(5, .int (S_X1_stateAt ro.2 (nI k))), (4, .int (nI k)), (3, .int v3_22), (2, .int ((S_X3_stepsInto ξ σ η rows ro).1)), (0, .ref x), (1, .ref ro.1.1)]) hx hb dX3_firstThrowInto_37 hl (by decide) rfl (fun ls hl => ?_)
            refine lv_aload_n hx hb dX3_firstThrowInto_39 rfl (lv_at hl 4 rfl) ?_
            refine va_get (D := (dC, dI)) (ci := 3) (v := .ref y) (C := RX3) (T := TX3) (N := 4) hx hb hts in_X3 hown hK hP 0 rfl rfl 2 (by decide) q_0 (fun _ h9 => h9) rfl dX3_firstThrowInto_40 ?_
            refine lv_iload hx hb dX3_firstThrowInto_43 (lv_at hl 0 rfl) ?_
            refine vp_callSi (va_Run.run (va_runV (As := [.int (S_X1_stateAt ro.2 (nI k))]) (rest := []) ⟨hx, hb, hml, hown, hts⟩ (c_X2_stepsTo l dC dI cI cR y b1 b2 b3 ((S_X3_stepsInto ξ σ η rows ro).2) (S_X1_stateAt ro.2 (nI k))) (cwV 1 hts gX3_firstThrowInto_X2_stepsTo rfl rfl rfl (by decide +kernel) ⟨Nat.le_of_ble_eq_true rfl, Nat.le_of_ble_eq_true rfl⟩) ⟨fun a U g mk q => by obtain ⟨q0, qP, qE⟩ := q; exact ⟨q0, qP, cE.same (s := U) rfl qE⟩, va_recv hK hP (ci := 2) (q0 := 6) rfl rfl, fun U hU hW => ⟨rfl, by rw [hU]; exact hP.sub (ws' := (wY cI y b1 b2 b3 ((S_X3_stepsInto ξ σ η rows ro).2))) [6, 7, 8, 9] rfl, hE.warm hW⟩⟩ rfl rfl hl.1 rfl (lv_room (Nat.le_of_ble_eq_true rfl)) dX3_firstThrowInto_45 ⟨Nat.zero_le _, Nat.zero_le _⟩)) (fun r_45 h_45 => ?_)
            subst h_45
            refine lv_iload_n hx hb dX3_firstThrowInto_48 rfl (lv_at hl 3 rfl) ?_
            refine lv_icmp_ne (tgt := 80) hx hb dX3_firstThrowInto_49 (by decide) (fun c_49 => ?_) (fun c_49 => ?_)
            · refine lv_iinc (v := nI (k + 1)) (lv' := [(4, .int (nI (k + 1))), (5, .int (S_X1_stateAt ro.2 (nI k))), (3, .int v3_22), (2, .int ((S_X3_stepsInto ξ σ η rows ro).1)), (0, .ref x), (1, .ref ro.1.1)]) hx hb dX3_firstThrowInto_80 hl (k := 1) rfl ((nI_succ _).symm) (by decide) rfl (fun ls hl => ?_)
              refine lv_goto (tgt := 22) hx hb dX3_firstThrowInto_83 (by decide) ?_
              exact ih22 (k + 1) v3_22 _ _ ls (by omega) (by rw [← hG22]; simp only [G_X3_firstThrowInto_22, if_neg c_49]) (lv_sub hl [0, 2, 3, 4, 5] rfl) hP hD hS
            · refine lv_iload_n hx hb dX3_firstThrowInto_52 rfl (lv_at hl 2 rfl) ?_
              refine lv_iconst (v := (-1)) hx hb dX3_firstThrowInto_53 (by decide) ?_
              refine lv_icmp_eq (tgt := 70) hx hb dX3_firstThrowInto_54 (by decide) (fun c_54 => ?_) (fun c_54 => ?_)
              · refine lv_aload_n hx hb dX3_firstThrowInto_70 rfl (lv_at hl 4 rfl) ?_
                refine va_get (D := (dC, dI)) (ci := 3) (v := .ref y) (C := RX3) (T := TX3) (N := 4) hx hb hts in_X3 hown hK hP 0 rfl rfl 2 (by decide) q_0 (fun _ h9 => h9) rfl dX3_firstThrowInto_71 ?_
                refine lv_iload hx hb dX3_firstThrowInto_74 (lv_at hl 0 rfl) ?_
                refine vp_callSi (va_Run.run (va_runV (As := [.int (S_X1_stateAt ro.2 (nI k))]) (rest := []) ⟨hx, hb, hml, hown, hts⟩ (c_X2_firstThrowTo l dC dI cI cR y b1 b2 b3 ((S_X3_stepsInto ξ σ η rows ro).2) (S_X1_stateAt ro.2 (nI k))) (cwV 1 hts gX3_firstThrowInto_X2_firstThrowTo rfl rfl rfl (by decide +kernel) ⟨Nat.le_of_ble_eq_true rfl, Nat.le_of_ble_eq_true rfl⟩) ⟨fun a U g mk q => by obtain ⟨q0, qP, qE⟩ := q; exact ⟨q0, qP, cE.same (s := U) rfl qE⟩, va_recv hK hP (ci := 2) (q0 := 6) rfl rfl, fun U hU hW => ⟨rfl, by rw [hU]; exact hP.sub (ws' := (wY cI y b1 b2 b3 ((S_X3_stepsInto ξ σ η rows ro).2))) [6, 7, 8, 9] rfl, hE.warm hW⟩⟩ rfl rfl hl.1 rfl (lv_room (Nat.le_of_ble_eq_true rfl)) dX3_firstThrowInto_76 ⟨Nat.zero_le _, Nat.zero_le _⟩)) (fun r_76 h_76 => ?_)
                subst h_76
                refine lv_istore_n (lv' := [(3, .int (S_X2_firstThrowTo ((S_X3_stepsInto ξ σ η rows ro).2) (S_X1_stateAt ro.2 (nI k)))), (5, .int (S_X1_stateAt ro.2 (nI k))), (4, .int (nI k)), (2, .int ((S_X3_stepsInto ξ σ η rows ro).1)), (0, .ref x), (1, .ref ro.1.1)]) hx hb dX3_firstThrowInto_79 rfl hl (by decide) rfl (fun ls hl => ?_)
                refine lv_iinc (v := nI (k + 1)) (lv' := [(4, .int (nI (k + 1))), (3, .int (S_X2_firstThrowTo ((S_X3_stepsInto ξ σ η rows ro).2) (S_X1_stateAt ro.2 (nI k)))), (5, .int (S_X1_stateAt ro.2 (nI k))), (2, .int ((S_X3_stepsInto ξ σ η rows ro).1)), (0, .ref x), (1, .ref ro.1.1)]) hx hb dX3_firstThrowInto_80 hl (k := 2) rfl ((nI_succ _).symm) (by decide) rfl (fun ls hl => ?_)
                refine lv_goto (tgt := 22) hx hb dX3_firstThrowInto_83 (by decide) ?_
                exact ih22 (k + 1) (S_X2_firstThrowTo ((S_X3_stepsInto ξ σ η rows ro).2) (S_X1_stateAt ro.2 (nI k))) _ _ ls (by omega) (by rw [← hG22]; simp only [G_X3_firstThrowInto_22, if_pos c_49, if_pos c_54]) (lv_sub hl [0, 1, 3, 4, 5] rfl) hP hD hS
              · refine lv_aload_n hx hb dX3_firstThrowInto_57 rfl (lv_at hl 4 rfl) ?_
                refine va_get (D := (dC, dI)) (ci := 3) (v := .ref y) (C := RX3) (T := TX3) (N := 4) hx hb hts in_X3 hown hK hP 0 rfl rfl 2 (by decide) q_0 (fun _ h9 => h9) rfl dX3_firstThrowInto_58 ?_
                refine lv_iload hx hb dX3_firstThrowInto_61 (lv_at hl 0 rfl) ?_
                refine vp_callSi (va_Run.run (va_runV (As := [.int (S_X1_stateAt ro.2 (nI k))]) (rest := []) ⟨hx, hb, hml, hown, hts⟩ (c_X2_firstThrowTo l dC dI cI cR y b1 b2 b3 ((S_X3_stepsInto ξ σ η rows ro).2) (S_X1_stateAt ro.2 (nI k))) (cwV 1 hts gX3_firstThrowInto_X2_firstThrowTo rfl rfl rfl (by decide +kernel) ⟨Nat.le_of_ble_eq_true rfl, Nat.le_of_ble_eq_true rfl⟩) ⟨fun a U g mk q => by obtain ⟨q0, qP, qE⟩ := q; exact ⟨q0, qP, cE.same (s := U) rfl qE⟩, va_recv hK hP (ci := 2) (q0 := 6) rfl rfl, fun U hU hW => ⟨rfl, by rw [hU]; exact hP.sub (ws' := (wY cI y b1 b2 b3 ((S_X3_stepsInto ξ σ η rows ro).2))) [6, 7, 8, 9] rfl, hE.warm hW⟩⟩ rfl rfl hl.1 rfl (lv_room (Nat.le_of_ble_eq_true rfl)) dX3_firstThrowInto_63 ⟨Nat.zero_le _, Nat.zero_le _⟩)) (fun r_63 h_63 => ?_)
                subst h_63
                refine lv_iload_n hx hb dX3_firstThrowInto_66 rfl (lv_at hl 2 rfl) ?_
                refine lv_icmp_ge (tgt := 80) hx hb dX3_firstThrowInto_67 (by decide) (fun c_67 => ?_) (fun c_67 => ?_)
                · refine lv_iinc (v := nI (k + 1)) (lv' := [(4, .int (nI (k + 1))), (5, .int (S_X1_stateAt ro.2 (nI k))), (3, .int v3_22), (2, .int ((S_X3_stepsInto ξ σ η rows ro).1)), (0, .ref x), (1, .ref ro.1.1)]) hx hb dX3_firstThrowInto_80 hl (k := 1) rfl ((nI_succ _).symm) (by decide) rfl (fun ls hl => ?_)
                  refine lv_goto (tgt := 22) hx hb dX3_firstThrowInto_83 (by decide) ?_
                  exact ih22 (k + 1) v3_22 _ _ ls (by omega) (by rw [← hG22]; simp only [G_X3_firstThrowInto_22, if_pos c_49, if_neg c_54, if_pos c_67]) (lv_sub hl [0, 2, 3, 4, 5] rfl) hP hD hS
                · refine lv_aload_n hx hb dX3_firstThrowInto_70 rfl (lv_at hl 4 rfl) ?_
                  refine va_get (D := (dC, dI)) (ci := 3) (v := .ref y) (C := RX3) (T := TX3) (N := 4) hx hb hts in_X3 hown hK hP 0 rfl rfl 2 (by decide) q_0 (fun _ h9 => h9) rfl dX3_firstThrowInto_71 ?_
                  refine lv_iload hx hb dX3_firstThrowInto_74 (lv_at hl 0 rfl) ?_
                  refine vp_callSi (va_Run.run (va_runV (As := [.int (S_X1_stateAt ro.2 (nI k))]) (rest := []) ⟨hx, hb, hml, hown, hts⟩ (c_X2_firstThrowTo l dC dI cI cR y b1 b2 b3 ((S_X3_stepsInto ξ σ η rows ro).2) (S_X1_stateAt ro.2 (nI k))) (cwV 1 hts gX3_firstThrowInto_X2_firstThrowTo rfl rfl rfl (by decide +kernel) ⟨Nat.le_of_ble_eq_true rfl, Nat.le_of_ble_eq_true rfl⟩) ⟨fun a U g mk q => by obtain ⟨q0, qP, qE⟩ := q; exact ⟨q0, qP, cE.same (s := U) rfl qE⟩, va_recv hK hP (ci := 2) (q0 := 6) rfl rfl, fun U hU hW => ⟨rfl, by rw [hU]; exact hP.sub (ws' := (wY cI y b1 b2 b3 ((S_X3_stepsInto ξ σ η rows ro).2))) [6, 7, 8, 9] rfl, hE.warm hW⟩⟩ rfl rfl hl.1 rfl (lv_room (Nat.le_of_ble_eq_true rfl)) dX3_firstThrowInto_76 ⟨Nat.zero_le _, Nat.zero_le _⟩)) (fun r_76 h_76 => ?_)
                  subst h_76
                  refine lv_istore_n (lv' := [(3, .int (S_X2_firstThrowTo ((S_X3_stepsInto ξ σ η rows ro).2) (S_X1_stateAt ro.2 (nI k)))), (5, .int (S_X1_stateAt ro.2 (nI k))), (4, .int (nI k)), (2, .int ((S_X3_stepsInto ξ σ η rows ro).1)), (0, .ref x), (1, .ref ro.1.1)]) hx hb dX3_firstThrowInto_79 rfl hl (by decide) rfl (fun ls hl => ?_)
                  refine lv_iinc (v := nI (k + 1)) (lv' := [(4, .int (nI (k + 1))), (3, .int (S_X2_firstThrowTo ((S_X3_stepsInto ξ σ η rows ro).2) (S_X1_stateAt ro.2 (nI k)))), (5, .int (S_X1_stateAt ro.2 (nI k))), (2, .int ((S_X3_stepsInto ξ σ η rows ro).1)), (0, .ref x), (1, .ref ro.1.1)]) hx hb dX3_firstThrowInto_80 hl (k := 2) rfl ((nI_succ _).symm) (by decide) rfl (fun ls hl => ?_)
                  refine lv_goto (tgt := 22) hx hb dX3_firstThrowInto_83 (by decide) ?_
                  exact ih22 (k + 1) (S_X2_firstThrowTo ((S_X3_stepsInto ξ σ η rows ro).2) (S_X1_stateAt ro.2 (nI k))) _ _ ls (by omega) (by rw [← hG22]; simp only [G_X3_firstThrowInto_22, if_pos c_49, if_neg c_54, if_neg c_67]) (lv_sub hl [0, 1, 3, 4, 5] rfl) hP hD hS
      exact loop22 ((S_X1_length ro.2).toNatClampNeg) 0 (-1) _ _ ls (by omega) (by simp only [S_X3_firstThrowInto, if_neg c_8, if_neg c_12]) (lv_sub hl [0, 1, 2, 3, 4] rfl) hP hD hS
    · refine lv_iconst (v := (-1)) hx hb dX3_firstThrowInto_15 (by decide) ?_
      have e9 : S_X3_firstThrowInto ξ σ η rows ro = ((-1), (S_X3_stepsInto ξ σ η rows ro).2) := by simp only [S_X3_firstThrowInto, if_neg c_8, if_pos c_12]
      exact W.iret (v := (-1)) hx hb hr (fun t ht hW => ⟨⟨(-1), (), rfl, by rw [e9], by rw [ht, e9]; exact hP, hE.warm hW, by rw [e9]; exact hD⟩, hS.F ht⟩) hS.2.2 dX3_firstThrowInto_16
def S_X3_way (ξ : XS) (σ : JS) (η : YS) (rows : List RD) (i : Nat) : Int32 × YS := ((S_X3_stepsInto ξ σ η rows (rw_ rows i)).1, (S_X3_stepsInto ξ σ η rows (rw_ rows i)).2)
set_option maxHeartbeats 4000000 in
set_option maxRecDepth 100000 in
theorem c_X3_way (l : Launch) (dC : Nat → ClassId) (dI : Nat → Nat → Nat) (cI cR : ClassId) (sz : Nat) (x rw j a1 a2 a3 y b1 b2 b3 : Nat) (ξ : XS) (σ : JS) (η : YS) (rows : List RD) (hCI : p_CI ξ rows) (i : Nat) (hi : i < rows.length) : Met l yX3_way wsX3_way ({ frames := 4, cells := 0, slots := 0, locals := 96 }) (va_Pc [.ref x, .int (nI i)] (fun U => U.heap.size = sz ∧ va_P (dC, dI) vwCl (wC cI cR x rw j a1 a2 a3 y b1 b2 b3 ξ σ η rows) U.heap ∧ cE (dC, dI) cI cR U ∧ va_D (fun _ => True) (wC cI cR x rw j a1 a2 a3 y b1 b2 b3 ξ σ η rows))) (va_Qi (fun (r : Int32) (_ : Unit) => r = (S_X3_way ξ σ η rows i).1) (fun (_ : Unit) t => va_P (dC, dI) vwCl (wC cI cR x rw j a1 a2 a3 y b1 b2 b3 ξ σ ((S_X3_way ξ σ η rows i).2) rows) t.heap ∧ cE (dC, dI) cI cR t ∧ va_D (va_A (wC cI cR x rw j a1 a2 a3 y b1 b2 b3 ξ σ η rows) sz) (wC cI cR x rw j a1 a2 a3 y b1 b2 b3 ξ σ ((S_X3_way ξ σ η rows i).2) rows)) (va_A (wC cI cR x rw j a1 a2 a3 y b1 b2 b3 ξ σ η rows) sz)) 0 0 (va_A (wC cI cR x rw j a1 a2 a3 y b1 b2 b3 ξ σ η rows) sz) := by
  refine Met.ofW (cc := cX3_way) (maxL := 3) (ret := (some .int)) (by decide) rfl ?_
  intro p e s m args below meth c s₁ B hml hv
  obtain ⟨rfl, hsz, hP, hE, hD0⟩ := hv
  have hK := hE.1
  have hx := B.exec
  have hb := B.bytes
  have hr := B.returns
  have hts := atoms_spec (ws := wsX3_way) B.pre
  have hown : s.vm.findClass RX3 = some m.cls := findClass_of_methodNamed B.named
  have hlocks := B.notSynchronized
  subst hsz
  have hD := hD0.self (sz := s.heap.size)
  generalize hAe : va_A (wC cI cR x rw j a1 a2 a3 y b1 b2 b3 ξ σ η rows) s.heap.size = A at hD ⊢
  have hA : ∀ q : Nat, s.heap.size ≤ q → A q := fun q h => by rw [← hAe]; exact Or.inr h
  have hS : va_S A s.heap s.heap [] := va_S.rf
  have hP : va_P (dC, dI) vwCl ([(x, .inr (3, [.ref rw, .ref j, .ref y, .int ξ.2])), (rw, .inl (cR, 8, .inr (.inr (.inr (.inr ξ.1))))), (j, .inr (0, [.ref a1, .ref a2, .ref a3, .int σ.2.2.2.1, .int σ.2.2.2.2.1, .int σ.2.2.2.2.2.1, .int σ.2.2.2.2.2.2.1, .double σ.2.2.2.2.2.2.2])), (a1, .inl (cI, 6, .inl σ.1)), (a2, .inl (cI, 6, .inl σ.2.1)), (a3, .inl (cI, 6, .inl σ.2.2.1)), (y, .inr (2, [.ref b1, .ref b2, .ref b3, .int η.2.2.2])), (b1, .inl (cI, 512, .inl η.1)), (b2, .inl (cI, 512, .inl η.2.1)), (b3, .inl (cI, 512, .inl η.2.2.1))] ++ wRs cI rows) s.heap := hP
  have hD : va_D A ([(x, .inr (3, [.ref rw, .ref j, .ref y, .int ξ.2])), (rw, .inl (cR, 8, .inr (.inr (.inr (.inr ξ.1))))), (j, .inr (0, [.ref a1, .ref a2, .ref a3, .int σ.2.2.2.1, .int σ.2.2.2.2.1, .int σ.2.2.2.2.2.1, .int σ.2.2.2.2.2.2.1, .double σ.2.2.2.2.2.2.2])), (a1, .inl (cI, 6, .inl σ.1)), (a2, .inl (cI, 6, .inl σ.2.1)), (a3, .inl (cI, 6, .inl σ.2.2.1)), (y, .inr (2, [.ref b1, .ref b2, .ref b3, .int η.2.2.2])), (b1, .inl (cI, 512, .inl η.1)), (b2, .inl (cI, 512, .inl η.2.1)), (b3, .inl (cI, 512, .inl η.2.2.1))] ++ wRs cI rows) := hD
  have hl := lv_entry ([.ref x, .int (nI i)]) (n := 3) (Nat.le_of_ble_eq_true rfl)
  rw [lg_entry_eq]
  generalize (lg_sl ([.ref x, .int (nI i)]) ++ List.replicate (3 - (lg_sl ([.ref x, .int (nI i)])).length) Slot.unset).toArray = ls at hl ⊢
  have hl : lv_has ls 3 [(0, .ref x), (1, .int (nI i))] := hl
  refine lv_aload_n hx hb dX3_way_0 rfl (lv_at hl 0 rfl) ?_
  refine lv_iload_n hx hb dX3_way_1 rfl (lv_at hl 1 rfl) ?_
  refine va_csr (va_Run.run (va_runV (As := [.int (nI i)]) (rest := []) ⟨hx, hb, hml, hown, hts⟩ (c_X3_rowNumbered l dC dI cI cR x rw j a1 a2 a3 y b1 b2 b3 ξ σ η rows hCI i hi) (cwV 1 hts gX3_way_X3_rowNumbered rfl rfl rfl (by decide +kernel) ⟨Nat.le_of_ble_eq_true rfl, Nat.le_of_ble_eq_true rfl⟩) ⟨fun a U g mk q => by obtain ⟨q0, qP, qE⟩ := q; exact ⟨q0, qP, cE.same (s := U) rfl qE⟩, va_recv hK hP (ci := 3) (q0 := 0) rfl rfl, fun U hU hW => ⟨rfl, by rw [hU]; exact hP, hE.warm hW⟩⟩ rfl rfl hl.1 rfl (lv_room (Nat.le_of_ble_eq_true rfl)) dX3_way_2 ⟨Nat.zero_le _, Nat.zero_le _⟩)) (fun _ _ => ?_)
  refine lv_astore_n (lv' := [(2, .ref ((rw_ rows i).1.1)), (0, .ref x), (1, .int (nI i))]) hx hb dX3_way_5 rfl hl (by decide) rfl (fun ls hl => ?_)
  refine lv_aload_n hx hb dX3_way_6 rfl (lv_at hl 0 rfl) ?_
  refine lv_ifnonnull (tgt := 20) hx hb dX3_way_7 (by decide) ?_
  refine lv_aload_n hx hb dX3_way_20 rfl (lv_at hl 1 rfl) ?_
  refine lv_aload_n hx hb dX3_way_21 rfl (lv_at hl 0 rfl) ?_
  have hPc := hP
  have hDc := hD
  have hFc := p_freeT hD hS hA
  refine va_calli (va_runV (As := [.ref ((rw_ rows i).1.1)]) (rest := []) ⟨hx, hb, hml, hown, hts⟩ (c_X3_stepsInto l dC dI cI cR _ x rw j a1 a2 a3 y b1 b2 b3 ξ σ η rows hCI (rw_ rows i) (rw_mem hi)) (cwV 1 hts gX3_way_X3_stepsInto rfl rfl rfl (by decide +kernel) ⟨Nat.le_of_ble_eq_true rfl, Nat.le_of_ble_eq_true rfl⟩) ⟨fun a U g mk q => by obtain ⟨q0, q1, qP, qE, qD⟩ := q; exact ⟨q0, q1, qP, cE.same (s := U) rfl qE, qD⟩, va_recv hK hP (ci := 3) (q0 := 0) rfl rfl, fun U hU hW => ⟨rfl, by rw [hU], by rw [hU]; exact hPc, hE.warm hW, hDc.weaken (fun _ _ _ _ => trivial)⟩⟩ rfl rfl hl.1 rfl (lv_room (Nat.le_of_ble_eq_true rfl)) dX3_way_22 ⟨Nat.zero_le _, Nat.zero_le _⟩) hS (fun q _ h => hFc q h) hFc (fun r_22 u t H1 locs ht hvm h_22 hB hz1 hk1 hS => ?_)
  obtain ⟨hP1, -, hD1⟩ := hB
  rw [ht] at hP1
  have hP : va_P (dC, dI) vwCl ([(x, .inr (3, [.ref rw, .ref j, .ref y, .int ξ.2])), (rw, .inl (cR, 8, .inr (.inr (.inr (.inr ξ.1))))), (j, .inr (0, [.ref a1, .ref a2, .ref a3, .int σ.2.2.2.1, .int σ.2.2.2.2.1, .int σ.2.2.2.2.2.1, .int σ.2.2.2.2.2.2.1, .double σ.2.2.2.2.2.2.2])), (a1, .inl (cI, 6, .inl σ.1)), (a2, .inl (cI, 6, .inl σ.2.1)), (a3, .inl (cI, 6, .inl σ.2.2.1)), (y, .inr (2, [.ref b1, .ref b2, .ref b3, .int (((S_X3_stepsInto ξ σ η rows (rw_ rows i)).2).2.2.2)])), (b1, .inl (cI, 512, .inl (((S_X3_stepsInto ξ σ η rows (rw_ rows i)).2).1))), (b2, .inl (cI, 512, .inl (((S_X3_stepsInto ξ σ η rows (rw_ rows i)).2).2.1))), (b3, .inl (cI, 512, .inl (((S_X3_stepsInto ξ σ η rows (rw_ rows i)).2).2.2.1)))] ++ wRs cI rows) H1 := hP1
  have hD : va_D A ([(x, .inr (3, [.ref rw, .ref j, .ref y, .int ξ.2])), (rw, .inl (cR, 8, .inr (.inr (.inr (.inr ξ.1))))), (j, .inr (0, [.ref a1, .ref a2, .ref a3, .int σ.2.2.2.1, .int σ.2.2.2.2.1, .int σ.2.2.2.2.2.1, .int σ.2.2.2.2.2.2.1, .double σ.2.2.2.2.2.2.2])), (a1, .inl (cI, 6, .inl σ.1)), (a2, .inl (cI, 6, .inl σ.2.1)), (a3, .inl (cI, 6, .inl σ.2.2.1)), (y, .inr (2, [.ref b1, .ref b2, .ref b3, .int (((S_X3_stepsInto ξ σ η rows (rw_ rows i)).2).2.2.2)])), (b1, .inl (cI, 512, .inl (((S_X3_stepsInto ξ σ η rows (rw_ rows i)).2).1))), (b2, .inl (cI, 512, .inl (((S_X3_stepsInto ξ σ η rows (rw_ rows i)).2).2.1))), (b3, .inl (cI, 512, .inl (((S_X3_stepsInto ξ σ η rows (rw_ rows i)).2).2.2.1)))] ++ wRs cI rows) := hD1.weaken (fun _ q _ h => hFc q.1 h)
  subst h_22
  clear hPc hDc hP1 hD1 hk1 hFc hz1 ht hvm
  generalize H1 = H at hP hS ⊢
  have e9 : S_X3_way ξ σ η rows i = ((S_X3_stepsInto ξ σ η rows (rw_ rows i)).1, (S_X3_stepsInto ξ σ η rows (rw_ rows i)).2) := by simp only [S_X3_way]
  exact W.iret (v := ((S_X3_stepsInto ξ σ η rows (rw_ rows i)).1)) hx hb hr (fun t ht hW => ⟨⟨((S_X3_stepsInto ξ σ η rows (rw_ rows i)).1), (), rfl, by rw [e9], by rw [ht, e9]; exact hP, hE.warm hW, by rw [e9]; exact hD⟩, hS.F ht⟩) hS.2.2 dX3_way_25
def S_X3_first (ξ : XS) (σ : JS) (η : YS) (rows : List RD) (i : Nat) : Int32 × YS := ((S_X3_firstThrowInto ξ σ η rows (rw_ rows i)).1, (S_X3_firstThrowInto ξ σ η rows (rw_ rows i)).2)
set_option maxHeartbeats 4000000 in
set_option maxRecDepth 100000 in
theorem c_X3_first (l : Launch) (dC : Nat → ClassId) (dI : Nat → Nat → Nat) (cI cR : ClassId) (sz : Nat) (x rw j a1 a2 a3 y b1 b2 b3 : Nat) (ξ : XS) (σ : JS) (η : YS) (rows : List RD) (hCI : p_CI ξ rows) (i : Nat) (hi : i < rows.length) : Met l yX3_first wsX3_first ({ frames := 5, cells := 0, slots := 0, locals := 121 }) (va_Pc [.ref x, .int (nI i)] (fun U => U.heap.size = sz ∧ va_P (dC, dI) vwCl (wC cI cR x rw j a1 a2 a3 y b1 b2 b3 ξ σ η rows) U.heap ∧ cE (dC, dI) cI cR U ∧ va_D (fun _ => True) (wC cI cR x rw j a1 a2 a3 y b1 b2 b3 ξ σ η rows))) (va_Qi (fun (r : Int32) (_ : Unit) => r = (S_X3_first ξ σ η rows i).1) (fun (_ : Unit) t => va_P (dC, dI) vwCl (wC cI cR x rw j a1 a2 a3 y b1 b2 b3 ξ σ ((S_X3_first ξ σ η rows i).2) rows) t.heap ∧ cE (dC, dI) cI cR t ∧ va_D (va_A (wC cI cR x rw j a1 a2 a3 y b1 b2 b3 ξ σ η rows) sz) (wC cI cR x rw j a1 a2 a3 y b1 b2 b3 ξ σ ((S_X3_first ξ σ η rows i).2) rows)) (va_A (wC cI cR x rw j a1 a2 a3 y b1 b2 b3 ξ σ η rows) sz)) 0 0 (va_A (wC cI cR x rw j a1 a2 a3 y b1 b2 b3 ξ σ η rows) sz) := by
  refine Met.ofW (cc := cX3_first) (maxL := 3) (ret := (some .int)) (by decide) rfl ?_
  intro p e s m args below meth c s₁ B hml hv
  obtain ⟨rfl, hsz, hP, hE, hD0⟩ := hv
  have hK := hE.1
  have hx := B.exec
  have hb := B.bytes
  have hr := B.returns
  have hts := atoms_spec (ws := wsX3_first) B.pre
  have hown : s.vm.findClass RX3 = some m.cls := findClass_of_methodNamed B.named
  have hlocks := B.notSynchronized
  subst hsz
  have hD := hD0.self (sz := s.heap.size)
  generalize hAe : va_A (wC cI cR x rw j a1 a2 a3 y b1 b2 b3 ξ σ η rows) s.heap.size = A at hD ⊢
  have hA : ∀ q : Nat, s.heap.size ≤ q → A q := fun q h => by rw [← hAe]; exact Or.inr h
  have hS : va_S A s.heap s.heap [] := va_S.rf
  have hP : va_P (dC, dI) vwCl ([(x, .inr (3, [.ref rw, .ref j, .ref y, .int ξ.2])), (rw, .inl (cR, 8, .inr (.inr (.inr (.inr ξ.1))))), (j, .inr (0, [.ref a1, .ref a2, .ref a3, .int σ.2.2.2.1, .int σ.2.2.2.2.1, .int σ.2.2.2.2.2.1, .int σ.2.2.2.2.2.2.1, .double σ.2.2.2.2.2.2.2])), (a1, .inl (cI, 6, .inl σ.1)), (a2, .inl (cI, 6, .inl σ.2.1)), (a3, .inl (cI, 6, .inl σ.2.2.1)), (y, .inr (2, [.ref b1, .ref b2, .ref b3, .int η.2.2.2])), (b1, .inl (cI, 512, .inl η.1)), (b2, .inl (cI, 512, .inl η.2.1)), (b3, .inl (cI, 512, .inl η.2.2.1))] ++ wRs cI rows) s.heap := hP
  have hD : va_D A ([(x, .inr (3, [.ref rw, .ref j, .ref y, .int ξ.2])), (rw, .inl (cR, 8, .inr (.inr (.inr (.inr ξ.1))))), (j, .inr (0, [.ref a1, .ref a2, .ref a3, .int σ.2.2.2.1, .int σ.2.2.2.2.1, .int σ.2.2.2.2.2.1, .int σ.2.2.2.2.2.2.1, .double σ.2.2.2.2.2.2.2])), (a1, .inl (cI, 6, .inl σ.1)), (a2, .inl (cI, 6, .inl σ.2.1)), (a3, .inl (cI, 6, .inl σ.2.2.1)), (y, .inr (2, [.ref b1, .ref b2, .ref b3, .int η.2.2.2])), (b1, .inl (cI, 512, .inl η.1)), (b2, .inl (cI, 512, .inl η.2.1)), (b3, .inl (cI, 512, .inl η.2.2.1))] ++ wRs cI rows) := hD
  have hl := lv_entry ([.ref x, .int (nI i)]) (n := 3) (Nat.le_of_ble_eq_true rfl)
  rw [lg_entry_eq]
  generalize (lg_sl ([.ref x, .int (nI i)]) ++ List.replicate (3 - (lg_sl ([.ref x, .int (nI i)])).length) Slot.unset).toArray = ls at hl ⊢
  have hl : lv_has ls 3 [(0, .ref x), (1, .int (nI i))] := hl
  refine lv_aload_n hx hb dX3_first_0 rfl (lv_at hl 0 rfl) ?_
  refine lv_iload_n hx hb dX3_first_1 rfl (lv_at hl 1 rfl) ?_
  refine va_csr (va_Run.run (va_runV (As := [.int (nI i)]) (rest := []) ⟨hx, hb, hml, hown, hts⟩ (c_X3_rowNumbered l dC dI cI cR x rw j a1 a2 a3 y b1 b2 b3 ξ σ η rows hCI i hi) (cwV 1 hts gX3_first_X3_rowNumbered rfl rfl rfl (by decide +kernel) ⟨Nat.le_of_ble_eq_true rfl, Nat.le_of_ble_eq_true rfl⟩) ⟨fun a U g mk q => by obtain ⟨q0, qP, qE⟩ := q; exact ⟨q0, qP, cE.same (s := U) rfl qE⟩, va_recv hK hP (ci := 3) (q0 := 0) rfl rfl, fun U hU hW => ⟨rfl, by rw [hU]; exact hP, hE.warm hW⟩⟩ rfl rfl hl.1 rfl (lv_room (Nat.le_of_ble_eq_true rfl)) dX3_first_2 ⟨Nat.zero_le _, Nat.zero_le _⟩)) (fun _ _ => ?_)
  refine lv_astore_n (lv' := [(2, .ref ((rw_ rows i).1.1)), (0, .ref x), (1, .int (nI i))]) hx hb dX3_first_5 rfl hl (by decide) rfl (fun ls hl => ?_)
  refine lv_aload_n hx hb dX3_first_6 rfl (lv_at hl 0 rfl) ?_
  refine lv_ifnonnull (tgt := 20) hx hb dX3_first_7 (by decide) ?_
  refine lv_aload_n hx hb dX3_first_20 rfl (lv_at hl 1 rfl) ?_
  refine lv_aload_n hx hb dX3_first_21 rfl (lv_at hl 0 rfl) ?_
  have hPc := hP
  have hDc := hD
  have hFc := p_freeT hD hS hA
  refine va_calli (va_runV (As := [.ref ((rw_ rows i).1.1)]) (rest := []) ⟨hx, hb, hml, hown, hts⟩ (c_X3_firstThrowInto l dC dI cI cR _ x rw j a1 a2 a3 y b1 b2 b3 ξ σ η rows hCI (rw_ rows i) (rw_mem hi)) (cwV 1 hts gX3_first_X3_firstThrowInto rfl rfl rfl (by decide +kernel) ⟨Nat.le_of_ble_eq_true rfl, Nat.le_of_ble_eq_true rfl⟩) ⟨fun a U g mk q => by obtain ⟨q0, q1, qP, qE, qD⟩ := q; exact ⟨q0, q1, qP, cE.same (s := U) rfl qE, qD⟩, va_recv hK hP (ci := 3) (q0 := 0) rfl rfl, fun U hU hW => ⟨rfl, by rw [hU], by rw [hU]; exact hPc, hE.warm hW, hDc.weaken (fun _ _ _ _ => trivial)⟩⟩ rfl rfl hl.1 rfl (lv_room (Nat.le_of_ble_eq_true rfl)) dX3_first_22 ⟨Nat.zero_le _, Nat.zero_le _⟩) hS (fun q _ h => hFc q h) hFc (fun r_22 u t H1 locs ht hvm h_22 hB hz1 hk1 hS => ?_)
  obtain ⟨hP1, -, hD1⟩ := hB
  rw [ht] at hP1
  have hP : va_P (dC, dI) vwCl ([(x, .inr (3, [.ref rw, .ref j, .ref y, .int ξ.2])), (rw, .inl (cR, 8, .inr (.inr (.inr (.inr ξ.1))))), (j, .inr (0, [.ref a1, .ref a2, .ref a3, .int σ.2.2.2.1, .int σ.2.2.2.2.1, .int σ.2.2.2.2.2.1, .int σ.2.2.2.2.2.2.1, .double σ.2.2.2.2.2.2.2])), (a1, .inl (cI, 6, .inl σ.1)), (a2, .inl (cI, 6, .inl σ.2.1)), (a3, .inl (cI, 6, .inl σ.2.2.1)), (y, .inr (2, [.ref b1, .ref b2, .ref b3, .int (((S_X3_firstThrowInto ξ σ η rows (rw_ rows i)).2).2.2.2)])), (b1, .inl (cI, 512, .inl (((S_X3_firstThrowInto ξ σ η rows (rw_ rows i)).2).1))), (b2, .inl (cI, 512, .inl (((S_X3_firstThrowInto ξ σ η rows (rw_ rows i)).2).2.1))), (b3, .inl (cI, 512, .inl (((S_X3_firstThrowInto ξ σ η rows (rw_ rows i)).2).2.2.1)))] ++ wRs cI rows) H1 := hP1
  have hD : va_D A ([(x, .inr (3, [.ref rw, .ref j, .ref y, .int ξ.2])), (rw, .inl (cR, 8, .inr (.inr (.inr (.inr ξ.1))))), (j, .inr (0, [.ref a1, .ref a2, .ref a3, .int σ.2.2.2.1, .int σ.2.2.2.2.1, .int σ.2.2.2.2.2.1, .int σ.2.2.2.2.2.2.1, .double σ.2.2.2.2.2.2.2])), (a1, .inl (cI, 6, .inl σ.1)), (a2, .inl (cI, 6, .inl σ.2.1)), (a3, .inl (cI, 6, .inl σ.2.2.1)), (y, .inr (2, [.ref b1, .ref b2, .ref b3, .int (((S_X3_firstThrowInto ξ σ η rows (rw_ rows i)).2).2.2.2)])), (b1, .inl (cI, 512, .inl (((S_X3_firstThrowInto ξ σ η rows (rw_ rows i)).2).1))), (b2, .inl (cI, 512, .inl (((S_X3_firstThrowInto ξ σ η rows (rw_ rows i)).2).2.1))), (b3, .inl (cI, 512, .inl (((S_X3_firstThrowInto ξ σ η rows (rw_ rows i)).2).2.2.1)))] ++ wRs cI rows) := hD1.weaken (fun _ q _ h => hFc q.1 h)
  subst h_22
  clear hPc hDc hP1 hD1 hk1 hFc hz1 ht hvm
  generalize H1 = H at hP hS ⊢
  have e9 : S_X3_first ξ σ η rows i = ((S_X3_firstThrowInto ξ σ η rows (rw_ rows i)).1, (S_X3_firstThrowInto ξ σ η rows (rw_ rows i)).2) := by simp only [S_X3_first]
  exact W.iret (v := ((S_X3_firstThrowInto ξ σ η rows (rw_ rows i)).1)) hx hb hr (fun t ht hW => ⟨⟨((S_X3_firstThrowInto ξ σ η rows (rw_ rows i)).1), (), rfl, by rw [e9], by rw [ht, e9]; exact hP, hE.warm hW, by rw [e9]; exact hD⟩, hS.F ht⟩) hS.2.2 dX3_first_25
