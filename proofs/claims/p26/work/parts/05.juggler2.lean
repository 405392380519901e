/-! LAID BY MY PROGRAM wip/gen/p26.py: contracts, method by method -/
def S_X0_sendUp (σ : JS) (p0 : Int32) (p1 : Int32) : JS := (if p0 = (-1) then σ else ((S_X3_setCell 6 σ.1 p0 (σ.2.2.2.2.1 + p1)), (S_X3_setCell 6 σ.2.1 p0 ((S_X3_cell 6 σ.2.1 p0) + 1)), σ.2.2.1, σ.2.2.2.1, σ.2.2.2.2.1, σ.2.2.2.2.2.1, σ.2.2.2.2.2.2.1, σ.2.2.2.2.2.2.2))
set_option maxHeartbeats 4000000 in
set_option maxRecDepth 100000 in
theorem c_X0_sendUp (l : Launch) (dC : Nat → ClassId) (dI : Nat → Nat → Nat) (cI cR : ClassId) (sz : Nat) (j a1 a2 a3 : Nat) (σ : JS) (p0 : Int32) (p1 : Int32)  : Met l yX0_sendUp wsX0_sendUp ({ frames := 1, cells := 0, slots := 0, locals := 22 }) (va_Pc [.ref j, .int p0, .int p1] (fun U => U.heap.size = sz ∧ va_P (dC, dI) vwCl (wJ cI j a1 a2 a3 σ) U.heap ∧ cE (dC, dI) cI cR U ∧ va_D (fun _ => True) (wJ cI j a1 a2 a3 σ))) (va_Qv (fun _ : Unit => True) (fun (_ : Unit) t => va_P (dC, dI) vwCl (wJ cI j a1 a2 a3 (S_X0_sendUp σ p0 p1)) t.heap ∧ cE (dC, dI) cI cR t ∧ va_D (va_A (wJ cI j a1 a2 a3 σ) sz) (wJ cI j a1 a2 a3 (S_X0_sendUp σ p0 p1))) (va_A (wJ cI j a1 a2 a3 σ) sz)) 0 0 (va_A (wJ cI j a1 a2 a3 σ) sz) := by
  refine Met.ofW (cc := cX0_sendUp) (maxL := 3) (ret := none) (by decide) rfl ?_
  intro p e s m args below meth c s₁ B hml hv
  obtain ⟨rfl, hsz, hP, hE, hD0⟩ := hv
  have hK := hE.1
  have hx := B.exec
  have hb := B.bytes
  have hr := B.returns
  have hts := atoms_spec (ws := wsX0_sendUp) B.pre
  have hown : s.vm.findClass RX0 = some m.cls := findClass_of_methodNamed B.named
  have hlocks := B.notSynchronized
  subst hsz
  have hD := hD0.self (sz := s.heap.size)
  generalize hAe : va_A (wJ cI j a1 a2 a3 σ) s.heap.size = A at hD ⊢
  have hA : ∀ q : Nat, s.heap.size ≤ q → A q := fun q h => by rw [← hAe]; exact Or.inr h
  have hS : va_S A s.heap s.heap [] := va_S.rf
  have hP : va_P (dC, dI) vwCl [(j, .inr (0, [.ref a1, .ref a2, .ref a3, .int σ.2.2.2.1, .int σ.2.2.2.2.1, .int σ.2.2.2.2.2.1, .int σ.2.2.2.2.2.2.1, .double σ.2.2.2.2.2.2.2])), (a1, .inl (cI, 6, .inl σ.1)), (a2, .inl (cI, 6, .inl σ.2.1)), (a3, .inl (cI, 6, .inl σ.2.2.1))] s.heap := hP
  have hD : va_D A [(j, .inr (0, [.ref a1, .ref a2, .ref a3, .int σ.2.2.2.1, .int σ.2.2.2.2.1, .int σ.2.2.2.2.2.1, .int σ.2.2.2.2.2.2.1, .double σ.2.2.2.2.2.2.2])), (a1, .inl (cI, 6, .inl σ.1)), (a2, .inl (cI, 6, .inl σ.2.1)), (a3, .inl (cI, 6, .inl σ.2.2.1))] := hD
  have hl := lv_entry ([.ref j, .int p0, .int p1]) (n := 3) (Nat.le_of_ble_eq_true rfl)
  rw [lg_entry_eq]
  generalize (lg_sl ([.ref j, .int p0, .int p1]) ++ List.replicate (3 - (lg_sl ([.ref j, .int p0, .int p1])).length) Slot.unset).toArray = ls at hl ⊢
  have hl : lv_has ls 3 [(0, .ref j), (1, .int p0), (2, .int p1)] := hl
  have q_0 := hts (.fieldLink RX0 9 "Cascadecourt$Juggler" "landsAt" "[I") (by decide +kernel)
  have in_X0 : ∀ w ∈ wsX00, w ∈ wsX0_sendUp := by decide +kernel
  have q_1 := hts (.fieldLink RX0 25 "Cascadecourt$Juggler" "beat" "I") (by decide +kernel)
  have q_2 := hts (.initialized RX3) (by decide +kernel)
  have q_3 := hts (.static yX3_setCell) (by decide +kernel)
  have q_4 := hts (.fieldLink RX0 15 "Cascadecourt$Juggler" "flights" "[I") (by decide +kernel)
  have q_5 := hts (.static yX3_cell) (by decide +kernel)
  refine lv_iload_n hx hb dX0_sendUp_0 rfl (lv_at hl 1 rfl) ?_
  refine lv_iconst (v := (-1)) hx hb dX0_sendUp_1 (by decide) ?_
  refine lv_icmp_eq (tgt := 37) hx hb dX0_sendUp_2 (by decide) (fun c_2 => ?_) (fun c_2 => ?_)
  · have e9 : S_X0_sendUp σ p0 p1 = σ := by simp only [S_X0_sendUp, if_pos c_2]
    exact W.vret hx hb hr (fun t ht hW => ⟨⟨(), rfl, trivial, by rw [ht, e9]; exact hP, hE.warm hW, by rw [e9]; exact hD⟩, hS.F ht⟩) hS.2.2 dX0_sendUp_37
  · refine lv_aload_n hx hb dX0_sendUp_5 rfl (lv_at hl 0 rfl) ?_
    refine va_get (D := (dC, dI)) (ci := 0) (v := .ref a1) (C := RX0) (T := TX0) (N := 8) hx hb hts in_X0 hown hK hP 0 rfl rfl 0 (by decide) q_0 (fun _ h9 => h9) rfl dX0_sendUp_6 ?_
    refine lv_iload_n hx hb dX0_sendUp_9 rfl (lv_at hl 1 rfl) ?_
    refine lv_aload_n hx hb dX0_sendUp_10 rfl (lv_at hl 0 rfl) ?_
    refine va_get (D := (dC, dI)) (ci := 0) (v := .int σ.2.2.2.2.1) (C := RX0) (T := TX0) (N := 8) hx hb hts in_X0 hown hK hP 0 rfl rfl 4 (by decide) q_1 (fun _ h9 => h9) rfl dX0_sendUp_11 ?_
    refine lv_iload_n hx hb dX0_sendUp_14 rfl (lv_at hl 2 rfl) ?_
    refine lv_iadd hx hb dX0_sendUp_15 ?_
    have hPc := hP.sub (ws' := [(a1, .inl (cI, 6, .inl σ.1))]) [1] rfl
    have hDc := hD.sub (ws' := [(a1, .inl (cI, 6, .inl σ.1))]) [1] (by decide) rfl
    have hFc := va_free (wc := [(a1, .inl (cI, 6, .inl σ.1))]) hD hS hA [1] rfl
    refine va_callv (va_runSN (As := [.ref a1, .int p0, .int (σ.2.2.2.2.1 + p1)]) (rest := []) ⟨hx, hb, hml, hown, hts⟩ (c_X3_setCell l dC dI cI cR _ a1 6 σ.1 (by decide) p0 (σ.2.2.2.2.1 + p1)) ⟨va_cnB 3 hts gX0_sendUp_X3_setCell_n32 rfl rfl rfl (hE.2 (.methodLinkNest RX0 32 yX3_setCell "Cascadecourt") (by decide +kernel)) q_2 (by decide +kernel) ⟨Nat.le_of_ble_eq_true rfl, Nat.le_of_ble_eq_true rfl⟩, q_3, trivial⟩ ⟨fun a U g mk q => by obtain ⟨q0, q1, qP, qE, qD⟩ := q; exact ⟨q0, q1, qP, cE.same (s := U) rfl qE, qD⟩, fun U hU hW => ⟨rfl, by rw [hU], by rw [hU]; exact hPc, hE.warm hW, hDc.weaken (fun _ _ _ _ => trivial)⟩⟩ rfl rfl hl.1 rfl (lv_room (Nat.le_of_ble_eq_true rfl)) dX0_sendUp_16 ⟨Nat.zero_le _, Nat.zero_le _⟩) hS (fun q _ h => hFc q h) hFc (fun u t H1 locs ht hvm h_16 hB hz1 hk1 hS => ?_)
    obtain ⟨hP1, -, hD1⟩ := hB
    rw [ht] at hP1
    obtain ⟨hP, hD⟩ := va_join (wr := [(j, .inr (0, [.ref a1, .ref a2, .ref a3, .int σ.2.2.2.1, .int σ.2.2.2.2.1, .int σ.2.2.2.2.2.1, .int σ.2.2.2.2.2.2.1, .double σ.2.2.2.2.2.2.2])), (a2, .inl (cI, 6, .inl σ.2.1)), (a3, .inl (cI, 6, .inl σ.2.2.1))]) (w1 := [(a1, .inl (cI, 6, .inl (S_X3_setCell 6 σ.1 p0 (σ.2.2.2.2.1 + p1))))]) hP hD [1] [0, 2, 3] rfl rfl (by decide) (by decide) hk1 hFc hP1 hD1
    have hP := hP.sub (ws' := [(j, .inr (0, [.ref a1, .ref a2, .ref a3, .int σ.2.2.2.1, .int σ.2.2.2.2.1, .int σ.2.2.2.2.2.1, .int σ.2.2.2.2.2.2.1, .double σ.2.2.2.2.2.2.2])), (a1, .inl (cI, 6, .inl (S_X3_setCell 6 σ.1 p0 (σ.2.2.2.2.1 + p1)))), (a2, .inl (cI, 6, .inl σ.2.1)), (a3, .inl (cI, 6, .inl σ.2.2.1))]) [0, 3, 1, 2] rfl
    have hD := hD.sub (ws' := [(j, .inr (0, [.ref a1, .ref a2, .ref a3, .int σ.2.2.2.1, .int σ.2.2.2.2.1, .int σ.2.2.2.2.2.1, .int σ.2.2.2.2.2.2.1, .double σ.2.2.2.2.2.2.2])), (a1, .inl (cI, 6, .inl (S_X3_setCell 6 σ.1 p0 (σ.2.2.2.2.1 + p1)))), (a2, .inl (cI, 6, .inl σ.2.1)), (a3, .inl (cI, 6, .inl σ.2.2.1))]) [0, 3, 1, 2] (by decide) rfl
    clear hPc hDc hP1 hD1 hk1 hFc hz1 ht hvm
    generalize H1 = H at hP hS ⊢
    refine lv_aload_n hx hb dX0_sendUp_19 rfl (lv_at hl 0 rfl) ?_
    refine va_get (D := (dC, dI)) (ci := 0) (v := .ref a2) (C := RX0) (T := TX0) (N := 8) hx hb hts in_X0 hown hK hP 0 rfl rfl 1 (by decide) q_4 (fun _ h9 => h9) rfl dX0_sendUp_20 ?_
    refine lv_iload_n hx hb dX0_sendUp_23 rfl (lv_at hl 1 rfl) ?_
    refine lv_aload_n hx hb dX0_sendUp_24 rfl (lv_at hl 0 rfl) ?_
    refine va_get (D := (dC, dI)) (ci := 0) (v := .ref a2) (C := RX0) (T := TX0) (N := 8) hx hb hts in_X0 hown hK hP 0 rfl rfl 1 (by decide) q_4 (fun _ h9 => h9) rfl dX0_sendUp_25 ?_
    refine lv_iload_n hx hb dX0_sendUp_28 rfl (lv_at hl 1 rfl) ?_
    refine vp_callSi (va_Run.run (va_runSN (As := [.ref a2, .int p0]) (rest := [.int p0, .ref a2]) ⟨hx, hb, hml, hown, hts⟩ (c_X3_cell l dC dI cI cR a2 6 σ.2.1 (by decide) p0) ⟨va_cnB 2 hts gX0_sendUp_X3_cell_n42 rfl rfl rfl (hE.2 (.methodLinkNest RX0 42 yX3_cell "Cascadecourt") (by decide +kernel)) q_2 (by decide +kernel) ⟨Nat.le_of_ble_eq_true rfl, Nat.le_of_ble_eq_true rfl⟩, q_5, trivial⟩ ⟨fun a U g mk q => by obtain ⟨q0, qP, qE⟩ := q; exact ⟨q0, qP, cE.same (s := U) rfl qE⟩, fun U hU hW => ⟨rfl, by rw [hU]; exact hP.sub (ws' := [(a2, .inl (cI, 6, .inl σ.2.1))]) [2] rfl, hE.warm hW⟩⟩ rfl rfl hl.1 rfl (lv_room (Nat.le_of_ble_eq_true rfl)) dX0_sendUp_29 ⟨Nat.zero_le _, Nat.zero_le _⟩)) (fun r_29 h_29 => ?_)
    subst h_29
    refine lv_iconst (v := 1) hx hb dX0_sendUp_32 (by decide) ?_
    refine lv_iadd hx hb dX0_sendUp_33 ?_
    have hPc := hP.sub (ws' := [(a2, .inl (cI, 6, .inl σ.2.1))]) [2] rfl
    have hDc := hD.sub (ws' := [(a2, .inl (cI, 6, .inl σ.2.1))]) [2] (by decide) rfl
    have hFc := va_free (wc := [(a2, .inl (cI, 6, .inl σ.2.1))]) hD hS hA [2] rfl
    refine va_callv (va_runSN (As := [.ref a2, .int p0, .int ((S_X3_cell 6 σ.2.1 p0) + 1)]) (rest := []) ⟨hx, hb, hml, hown, hts⟩ (c_X3_setCell l dC dI cI cR _ a2 6 σ.2.1 (by decide) p0 ((S_X3_cell 6 σ.2.1 p0) + 1)) ⟨va_cnB 3 hts gX0_sendUp_X3_setCell_n32 rfl rfl rfl (hE.2 (.methodLinkNest RX0 32 yX3_setCell "Cascadecourt") (by decide +kernel)) q_2 (by decide +kernel) ⟨Nat.le_of_ble_eq_true rfl, Nat.le_of_ble_eq_true rfl⟩, q_3, trivial⟩ ⟨fun a U g mk q => by obtain ⟨q0, q1, qP, qE, qD⟩ := q; exact ⟨q0, q1, qP, cE.same (s := U) rfl qE, qD⟩, fun U hU hW => ⟨rfl, by rw [hU], by rw [hU]; exact hPc, hE.warm hW, hDc.weaken (fun _ _ _ _ => trivial)⟩⟩ rfl rfl hl.1 rfl (lv_room (Nat.le_of_ble_eq_true rfl)) dX0_sendUp_34 ⟨Nat.zero_le _, Nat.zero_le _⟩) hS (fun q _ h => hFc q h) hFc (fun u t H1 locs ht hvm h_34 hB hz1 hk1 hS => ?_)
    obtain ⟨hP1, -, hD1⟩ := hB
    rw [ht] at hP1
    obtain ⟨hP, hD⟩ := va_join (wr := [(j, .inr (0, [.ref a1, .ref a2, .ref a3, .int σ.2.2.2.1, .int σ.2.2.2.2.1, .int σ.2.2.2.2.2.1, .int σ.2.2.2.2.2.2.1, .double σ.2.2.2.2.2.2.2])), (a1, .inl (cI, 6, .inl (S_X3_setCell 6 σ.1 p0 (σ.2.2.2.2.1 + p1)))), (a3, .inl (cI, 6, .inl σ.2.2.1))]) (w1 := [(a2, .inl (cI, 6, .inl (S_X3_setCell 6 σ.2.1 p0 ((S_X3_cell 6 σ.2.1 p0) + 1))))]) hP hD [2] [0, 1, 3] rfl rfl (by decide) (by decide) hk1 hFc hP1 hD1
    have hP := hP.sub (ws' := [(j, .inr (0, [.ref a1, .ref a2, .ref a3, .int σ.2.2.2.1, .int σ.2.2.2.2.1, .int σ.2.2.2.2.2.1, .int σ.2.2.2.2.2.2.1, .double σ.2.2.2.2.2.2.2])), (a1, .inl (cI, 6, .inl (S_X3_setCell 6 σ.1 p0 (σ.2.2.2.2.1 + p1)))), (a2, .inl (cI, 6, .inl (S_X3_setCell 6 σ.2.1 p0 ((S_X3_cell 6 σ.2.1 p0) + 1)))), (a3, .inl (cI, 6, .inl σ.2.2.1))]) [0, 1, 3, 2] rfl
    have hD := hD.sub (ws' := [(j, .inr (0, [.ref a1, .ref a2, .ref a3, .int σ.2.2.2.1, .int σ.2.2.2.2.1, .int σ.2.2.2.2.2.1, .int σ.2.2.2.2.2.2.1, .double σ.2.2.2.2.2.2.2])), (a1, .inl (cI, 6, .inl (S_X3_setCell 6 σ.1 p0 (σ.2.2.2.2.1 + p1)))), (a2, .inl (cI, 6, .inl (S_X3_setCell 6 σ.2.1 p0 ((S_X3_cell 6 σ.2.1 p0) + 1)))), (a3, .inl (cI, 6, .inl σ.2.2.1))]) [0, 1, 3, 2] (by decide) rfl
    clear hPc hDc hP1 hD1 hk1 hFc hz1 ht hvm
    generalize H1 = H at hP hS ⊢
    have e9 : S_X0_sendUp σ p0 p1 = ((S_X3_setCell 6 σ.1 p0 (σ.2.2.2.2.1 + p1)), (S_X3_setCell 6 σ.2.1 p0 ((S_X3_cell 6 σ.2.1 p0) + 1)), σ.2.2.1, σ.2.2.2.1, σ.2.2.2.2.1, σ.2.2.2.2.2.1, σ.2.2.2.2.2.2.1, σ.2.2.2.2.2.2.2) := by simp only [S_X0_sendUp, if_neg c_2]
    exact W.vret hx hb hr (fun t ht hW => ⟨⟨(), rfl, trivial, by rw [ht, e9]; exact hP, hE.warm hW, by rw [e9]; exact hD⟩, hS.F ht⟩) hS.2.2 dX0_sendUp_37
def S_X0_dropProp (σ : JS) (p0 : Int32) : JS := (if p0 = (-1) then σ else ((S_X3_setCell 6 σ.1 p0 (-1)), σ.2.1, (S_X3_setCell 6 σ.2.2.1 p0 ((S_X3_cell 6 σ.2.2.1 p0) + 1)), σ.2.2.2.1, σ.2.2.2.2.1, σ.2.2.2.2.2.1, σ.2.2.2.2.2.2.1, σ.2.2.2.2.2.2.2))
set_option maxHeartbeats 4000000 in
set_option maxRecDepth 100000 in
theorem c_X0_dropProp (l : Launch) (dC : Nat → ClassId) (dI : Nat → Nat → Nat) (cI cR : ClassId) (sz : Nat) (j a1 a2 a3 : Nat) (σ : JS) (p0 : Int32)  : Met l yX0_dropProp wsX0_dropProp ({ frames := 1, cells := 0, slots := 0, locals := 22 }) (va_Pc [.ref j, .int p0] (fun U => U.heap.size = sz ∧ va_P (dC, dI) vwCl (wJ cI j a1 a2 a3 σ) U.heap ∧ cE (dC, dI) cI cR U ∧ va_D (fun _ => True) (wJ cI j a1 a2 a3 σ))) (va_Qv (fun _ : Unit => True) (fun (_ : Unit) t => va_P (dC, dI) vwCl (wJ cI j a1 a2 a3 (S_X0_dropProp σ p0)) t.heap ∧ cE (dC, dI) cI cR t ∧ va_D (va_A (wJ cI j a1 a2 a3 σ) sz) (wJ cI j a1 a2 a3 (S_X0_dropProp σ p0))) (va_A (wJ cI j a1 a2 a3 σ) sz)) 0 0 (va_A (wJ cI j a1 a2 a3 σ) sz) := by
  refine Met.ofW (cc := cX0_dropProp) (maxL := 2) (ret := none) (by decide) rfl ?_
  intro p e s m args below meth c s₁ B hml hv
  obtain ⟨rfl, hsz, hP, hE, hD0⟩ := hv
  have hK := hE.1
  have hx := B.exec
  have hb := B.bytes
  have hr := B.returns
  have hts := atoms_spec (ws := wsX0_dropProp) B.pre
  have hown : s.vm.findClass RX0 = some m.cls := findClass_of_methodNamed B.named
  have hlocks := B.notSynchronized
  subst hsz
  have hD := hD0.self (sz := s.heap.size)
  generalize hAe : va_A (wJ cI j a1 a2 a3 σ) s.heap.size = A at hD ⊢
  have hA : ∀ q : Nat, s.heap.size ≤ q → A q := fun q h => by rw [← hAe]; exact Or.inr h
  have hS : va_S A s.heap s.heap [] := va_S.rf
  have hP : va_P (dC, dI) vwCl [(j, .inr (0, [.ref a1, .ref a2, .ref a3, .int σ.2.2.2.1, .int σ.2.2.2.2.1, .int σ.2.2.2.2.2.1, .int σ.2.2.2.2.2.2.1, .double σ.2.2.2.2.2.2.2])), (a1, .inl (cI, 6, .inl σ.1)), (a2, .inl (cI, 6, .inl σ.2.1)), (a3, .inl (cI, 6, .inl σ.2.2.1))] s.heap := hP
  have hD : va_D A [(j, .inr (0, [.ref a1, .ref a2, .ref a3, .int σ.2.2.2.1, .int σ.2.2.2.2.1, .int σ.2.2.2.2.2.1, .int σ.2.2.2.2.2.2.1, .double σ.2.2.2.2.2.2.2])), (a1, .inl (cI, 6, .inl σ.1)), (a2, .inl (cI, 6, .inl σ.2.1)), (a3, .inl (cI, 6, .inl σ.2.2.1))] := hD
  have hl := lv_entry ([.ref j, .int p0]) (n := 2) (Nat.le_of_ble_eq_true rfl)
  rw [lg_entry_eq]
  generalize (lg_sl ([.ref j, .int p0]) ++ List.replicate (2 - (lg_sl ([.ref j, .int p0])).length) Slot.unset).toArray = ls at hl ⊢
  have hl : lv_has ls 2 [(0, .ref j), (1, .int p0)] := hl
  have q_0 := hts (.fieldLink RX0 9 "Cascadecourt$Juggler" "landsAt" "[I") (by decide +kernel)
  have in_X0 : ∀ w ∈ wsX00, w ∈ wsX0_dropProp := by decide +kernel
  have q_1 := hts (.initialized RX3) (by decide +kernel)
  have q_2 := hts (.static yX3_setCell) (by decide +kernel)
  have q_3 := hts (.fieldLink RX0 18 "Cascadecourt$Juggler" "drops" "[I") (by decide +kernel)
  have q_4 := hts (.static yX3_cell) (by decide +kernel)
  refine lv_iload_n hx hb dX0_dropProp_0 rfl (lv_at hl 1 rfl) ?_
  refine lv_iconst (v := (-1)) hx hb dX0_dropProp_1 (by decide) ?_
  refine lv_icmp_eq (tgt := 32) hx hb dX0_dropProp_2 (by decide) (fun c_2 => ?_) (fun c_2 => ?_)
  · have e9 : S_X0_dropProp σ p0 = σ := by simp only [S_X0_dropProp, if_pos c_2]
    exact W.vret hx hb hr (fun t ht hW => ⟨⟨(), rfl, trivial, by rw [ht, e9]; exact hP, hE.warm hW, by rw [e9]; exact hD⟩, hS.F ht⟩) hS.2.2 dX0_dropProp_32
  · refine lv_aload_n hx hb dX0_dropProp_5 rfl (lv_at hl 0 rfl) ?_
    refine va_get (D := (dC, dI)) (ci := 0) (v := .ref a1) (C := RX0) (T := TX0) (N := 8) hx hb hts in_X0 hown hK hP 0 rfl rfl 0 (by decide) q_0 (fun _ h9 => h9) rfl dX0_dropProp_6 ?_
    refine lv_iload_n hx hb dX0_dropProp_9 rfl (lv_at hl 1 rfl) ?_
    refine lv_iconst (v := (-1)) hx hb dX0_dropProp_10 (by decide) ?_
    have hPc := hP.sub (ws' := [(a1, .inl (cI, 6, .inl σ.1))]) [1] rfl
    have hDc := hD.sub (ws' := [(a1, .inl (cI, 6, .inl σ.1))]) [1] (by decide) rfl
    have hFc := va_free (wc := [(a1, .inl (cI, 6, .inl σ.1))]) hD hS hA [1] rfl
    refine va_callv (va_runSN (As := [.ref a1, .int p0, .int (-1)]) (rest := []) ⟨hx, hb, hml, hown, hts⟩ (c_X3_setCell l dC dI cI cR _ a1 6 σ.1 (by decide) p0 (-1)) ⟨va_cnB 3 hts gX0_dropProp_X3_setCell_n32 rfl rfl rfl (hE.2 (.methodLinkNest RX0 32 yX3_setCell "Cascadecourt") (by decide +kernel)) q_1 (by decide +kernel) ⟨Nat.le_of_ble_eq_true rfl, Nat.le_of_ble_eq_true rfl⟩, q_2, trivial⟩ ⟨fun a U g mk q => by obtain ⟨q0, q1, qP, qE, qD⟩ := q; exact ⟨q0, q1, qP, cE.same (s := U) rfl qE, qD⟩, fun U hU hW => ⟨rfl, by rw [hU], by rw [hU]; exact hPc, hE.warm hW, hDc.weaken (fun _ _ _ _ => trivial)⟩⟩ rfl rfl hl.1 rfl (lv_room (Nat.le_of_ble_eq_true rfl)) dX0_dropProp_11 ⟨Nat.zero_le _, Nat.zero_le _⟩) hS (fun q _ h => hFc q h) hFc (fun u t H1 locs ht hvm h_11 hB hz1 hk1 hS => ?_)
    obtain ⟨hP1, -, hD1⟩ := hB
    rw [ht] at hP1
    obtain ⟨hP, hD⟩ := va_join (wr := [(j, .inr (0, [.ref a1, .ref a2, .ref a3, .int σ.2.2.2.1, .int σ.2.2.2.2.1, .int σ.2.2.2.2.2.1, .int σ.2.2.2.2.2.2.1, .double σ.2.2.2.2.2.2.2])), (a2, .inl (cI, 6, .inl σ.2.1)), (a3, .inl (cI, 6, .inl σ.2.2.1))]) (w1 := [(a1, .inl (cI, 6, .inl (S_X3_setCell 6 σ.1 p0 (-1))))]) hP hD [1] [0, 2, 3] rfl rfl (by decide) (by decide) hk1 hFc hP1 hD1
    have hP := hP.sub (ws' := [(j, .inr (0, [.ref a1, .ref a2, .ref a3, .int σ.2.2.2.1, .int σ.2.2.2.2.1, .int σ.2.2.2.2.2.1, .int σ.2.2.2.2.2.2.1, .double σ.2.2.2.2.2.2.2])), (a1, .inl (cI, 6, .inl (S_X3_setCell 6 σ.1 p0 (-1)))), (a2, .inl (cI, 6, .inl σ.2.1)), (a3, .inl (cI, 6, .inl σ.2.2.1))]) [0, 3, 1, 2] rfl
    have hD := hD.sub (ws' := [(j, .inr (0, [.ref a1, .ref a2, .ref a3, .int σ.2.2.2.1, .int σ.2.2.2.2.1, .int σ.2.2.2.2.2.1, .int σ.2.2.2.2.2.2.1, .double σ.2.2.2.2.2.2.2])), (a1, .inl (cI, 6, .inl (S_X3_setCell 6 σ.1 p0 (-1)))), (a2, .inl (cI, 6, .inl σ.2.1)), (a3, .inl (cI, 6, .inl σ.2.2.1))]) [0, 3, 1, 2] (by decide) rfl
    clear hPc hDc hP1 hD1 hk1 hFc hz1 ht hvm
    generalize H1 = H at hP hS ⊢
    refine lv_aload_n hx hb dX0_dropProp_14 rfl (lv_at hl 0 rfl) ?_
    refine va_get (D := (dC, dI)) (ci := 0) (v := .ref a3) (C := RX0) (T := TX0) (N := 8) hx hb hts in_X0 hown hK hP 0 rfl rfl 2 (by decide) q_3 (fun _ h9 => h9) rfl dX0_dropProp_15 ?_
    refine lv_iload_n hx hb dX0_dropProp_18 rfl (lv_at hl 1 rfl) ?_
    refine lv_aload_n hx hb dX0_dropProp_19 rfl (lv_at hl 0 rfl) ?_
    refine va_get (D := (dC, dI)) (ci := 0) (v := .ref a3) (C := RX0) (T := TX0) (N := 8) hx hb hts in_X0 hown hK hP 0 rfl rfl 2 (by decide) q_3 (fun _ h9 => h9) rfl dX0_dropProp_20 ?_
    refine lv_iload_n hx hb dX0_dropProp_23 rfl (lv_at hl 1 rfl) ?_
    refine vp_callSi (va_Run.run (va_runSN (As := [.ref a3, .int p0]) (rest := [.int p0, .ref a3]) ⟨hx, hb, hml, hown, hts⟩ (c_X3_cell l dC dI cI cR a3 6 σ.2.2.1 (by decide) p0) ⟨va_cnB 2 hts gX0_dropProp_X3_cell_n42 rfl rfl rfl (hE.2 (.methodLinkNest RX0 42 yX3_cell "Cascadecourt") (by decide +kernel)) q_1 (by decide +kernel) ⟨Nat.le_of_ble_eq_true rfl, Nat.le_of_ble_eq_true rfl⟩, q_4, trivial⟩ ⟨fun a U g mk q => by obtain ⟨q0, qP, qE⟩ := q; exact ⟨q0, qP, cE.same (s := U) rfl qE⟩, fun U hU hW => ⟨rfl, by rw [hU]; exact hP.sub (ws' := [(a3, .inl (cI, 6, .inl σ.2.2.1))]) [3] rfl, hE.warm hW⟩⟩ rfl rfl hl.1 rfl (lv_room (Nat.le_of_ble_eq_true rfl)) dX0_dropProp_24 ⟨Nat.zero_le _, Nat.zero_le _⟩)) (fun r_24 h_24 => ?_)
    subst h_24
    refine lv_iconst (v := 1) hx hb dX0_dropProp_27 (by decide) ?_
    refine lv_iadd hx hb dX0_dropProp_28 ?_
    have hPc := hP.sub (ws' := [(a3, .inl (cI, 6, .inl σ.2.2.1))]) [3] rfl
    have hDc := hD.sub (ws' := [(a3, .inl (cI, 6, .inl σ.2.2.1))]) [3] (by decide) rfl
    have hFc := va_free (wc := [(a3, .inl (cI, 6, .inl σ.2.2.1))]) hD hS hA [3] rfl
    refine va_callv (va_runSN (As := [.ref a3, .int p0, .int ((S_X3_cell 6 σ.2.2.1 p0) + 1)]) (rest := []) ⟨hx, hb, hml, hown, hts⟩ (c_X3_setCell l dC dI cI cR _ a3 6 σ.2.2.1 (by decide) p0 ((S_X3_cell 6 σ.2.2.1 p0) + 1)) ⟨va_cnB 3 hts gX0_dropProp_X3_setCell_n32 rfl rfl rfl (hE.2 (.methodLinkNest RX0 32 yX3_setCell "Cascadecourt") (by decide +kernel)) q_1 (by decide +kernel) ⟨Nat.le_of_ble_eq_true rfl, Nat.le_of_ble_eq_true rfl⟩, q_2, trivial⟩ ⟨fun a U g mk q => by obtain ⟨q0, q1, qP, qE, qD⟩ := q; exact ⟨q0, q1, qP, cE.same (s := U) rfl qE, qD⟩, fun U hU hW => ⟨rfl, by rw [hU], by rw [hU]; exact hPc, hE.warm hW, hDc.weaken (fun _ _ _ _ => trivial)⟩⟩ rfl rfl hl.1 rfl (lv_room (Nat.le_of_ble_eq_true rfl)) dX0_dropProp_29 ⟨Nat.zero_le _, Nat.zero_le _⟩) hS (fun q _ h => hFc q h) hFc (fun u t H1 locs ht hvm h_29 hB hz1 hk1 hS => ?_)
    obtain ⟨hP1, -, hD1⟩ := hB
    rw [ht] at hP1
    obtain ⟨hP, hD⟩ := va_join (wr := [(j, .inr (0, [.ref a1, .ref a2, .ref a3, .int σ.2.2.2.1, .int σ.2.2.2.2.1, .int σ.2.2.2.2.2.1, .int σ.2.2.2.2.2.2.1, .double σ.2.2.2.2.2.2.2])), (a1, .inl (cI, 6, .inl (S_X3_setCell 6 σ.1 p0 (-1)))), (a2, .inl (cI, 6, .inl σ.2.1))]) (w1 := [(a3, .inl (cI, 6, .inl (S_X3_setCell 6 σ.2.2.1 p0 ((S_X3_cell 6 σ.2.2.1 p0) + 1))))]) hP hD [3] [0, 1, 2] rfl rfl (by decide) (by decide) hk1 hFc hP1 hD1
    have hP := hP.sub (ws' := [(j, .inr (0, [.ref a1, .ref a2, .ref a3, .int σ.2.2.2.1, .int σ.2.2.2.2.1, .int σ.2.2.2.2.2.1, .int σ.2.2.2.2.2.2.1, .double σ.2.2.2.2.2.2.2])), (a1, .inl (cI, 6, .inl (S_X3_setCell 6 σ.1 p0 (-1)))), (a2, .inl (cI, 6, .inl σ.2.1)), (a3, .inl (cI, 6, .inl (S_X3_setCell 6 σ.2.2.1 p0 ((S_X3_cell 6 σ.2.2.1 p0) + 1))))]) [0, 1, 2, 3] rfl
    have hD := hD.sub (ws' := [(j, .inr (0, [.ref a1, .ref a2, .ref a3, .int σ.2.2.2.1, .int σ.2.2.2.2.1, .int σ.2.2.2.2.2.1, .int σ.2.2.2.2.2.2.1, .double σ.2.2.2.2.2.2.2])), (a1, .inl (cI, 6, .inl (S_X3_setCell 6 σ.1 p0 (-1)))), (a2, .inl (cI, 6, .inl σ.2.1)), (a3, .inl (cI, 6, .inl (S_X3_setCell 6 σ.2.2.1 p0 ((S_X3_cell 6 σ.2.2.1 p0) + 1))))]) [0, 1, 2, 3] (by decide) rfl
    clear hPc hDc hP1 hD1 hk1 hFc hz1 ht hvm
    generalize H1 = H at hP hS ⊢
    have e9 : S_X0_dropProp σ p0 = ((S_X3_setCell 6 σ.1 p0 (-1)), σ.2.1, (S_X3_setCell 6 σ.2.2.1 p0 ((S_X3_cell 6 σ.2.2.1 p0) + 1)), σ.2.2.2.1, σ.2.2.2.2.1, σ.2.2.2.2.2.1, σ.2.2.2.2.2.2.1, σ.2.2.2.2.2.2.2) := by simp only [S_X0_dropProp, if_neg c_2]
    exact W.vret hx hb hr (fun t ht hW => ⟨⟨(), rfl, trivial, by rw [ht, e9]; exact hP, hE.warm hW, by rw [e9]; exact hD⟩, hS.F ht⟩) hS.2.2 dX0_dropProp_32
def S_X0_slip (σ : JS) (p0 : Int32) : JS := (if p0 ≤ 0 then (if (S_X0_propLandingIn σ 0) = (-1) then (σ.1, σ.2.1, σ.2.2.1, σ.2.2.2.1, σ.2.2.2.2.1, σ.2.2.2.2.2.1 + 1, σ.2.2.2.2.2.2.1, σ.2.2.2.2.2.2.2) else (S_X0_dropProp (S_X0_dropProp (σ.1, σ.2.1, σ.2.2.1, σ.2.2.2.1, σ.2.2.2.2.1, σ.2.2.2.2.2.1 + 1, σ.2.2.2.2.2.2.1, σ.2.2.2.2.2.2.2) (S_X0_propLandingIn σ 0)) (-1))) else (if (S_X0_propLandingIn σ 0) = (-1) then (σ.1, σ.2.1, σ.2.2.1, σ.2.2.2.1, σ.2.2.2.2.1, σ.2.2.2.2.2.1 + 1, σ.2.2.2.2.2.2.1, σ.2.2.2.2.2.2.2) else (S_X0_dropProp (S_X0_dropProp (σ.1, σ.2.1, σ.2.2.1, σ.2.2.2.1, σ.2.2.2.2.1, σ.2.2.2.2.2.1 + 1, σ.2.2.2.2.2.2.1, σ.2.2.2.2.2.2.2) (S_X0_propLandingIn σ 0)) (S_X0_propLandingIn σ p0))))
set_option maxHeartbeats 4000000 in
set_option maxRecDepth 100000 in
theorem c_X0_slip (l : Launch) (dC : Nat → ClassId) (dI : Nat → Nat → Nat) (cI cR : ClassId) (sz : Nat) (j a1 a2 a3 : Nat) (σ : JS) (p0 : Int32)  : Met l yX0_slip wsX0_slip ({ frames := 3, cells := 0, slots := 0, locals := 65 }) (va_Pc [.ref j, .int p0] (fun U => U.heap.size = sz ∧ va_P (dC, dI) vwCl (wJ cI j a1 a2 a3 σ) U.heap ∧ cE (dC, dI) cI cR U ∧ va_D (fun _ => True) (wJ cI j a1 a2 a3 σ))) (va_Qv (fun _ : Unit => True) (fun (_ : Unit) t => va_P (dC, dI) vwCl (wJ cI j a1 a2 a3 (S_X0_slip σ p0)) t.heap ∧ cE (dC, dI) cI cR t ∧ va_D (va_A (wJ cI j a1 a2 a3 σ) sz) (wJ cI j a1 a2 a3 (S_X0_slip σ p0))) (va_A (wJ cI j a1 a2 a3 σ) sz)) 0 0 (va_A (wJ cI j a1 a2 a3 σ) sz) := by
  refine Met.ofW (cc := cX0_slip) (maxL := 4) (ret := none) (by decide) rfl ?_
  intro p e s m args below meth c s₁ B hml hv
  obtain ⟨rfl, hsz, hP, hE, hD0⟩ := hv
  have hK := hE.1
  have hx := B.exec
  have hb := B.bytes
  have hr := B.returns
  have hts := atoms_spec (ws := wsX0_slip) B.pre
  have hown : s.vm.findClass RX0 = some m.cls := findClass_of_methodNamed B.named
  have hlocks := B.notSynchronized
  subst hsz
  have hD := hD0.self (sz := s.heap.size)
  generalize hAe : va_A (wJ cI j a1 a2 a3 σ) s.heap.size = A at hD ⊢
  have hA : ∀ q : Nat, s.heap.size ≤ q → A q := fun q h => by rw [← hAe]; exact Or.inr h
  have hS : va_S A s.heap s.heap [] := va_S.rf
  have hP : va_P (dC, dI) vwCl [(j, .inr (0, [.ref a1, .ref a2, .ref a3, .int σ.2.2.2.1, .int σ.2.2.2.2.1, .int σ.2.2.2.2.2.1, .int σ.2.2.2.2.2.2.1, .double σ.2.2.2.2.2.2.2])), (a1, .inl (cI, 6, .inl σ.1)), (a2, .inl (cI, 6, .inl σ.2.1)), (a3, .inl (cI, 6, .inl σ.2.2.1))] s.heap := hP
  have hD : va_D A [(j, .inr (0, [.ref a1, .ref a2, .ref a3, .int σ.2.2.2.1, .int σ.2.2.2.2.1, .int σ.2.2.2.2.2.1, .int σ.2.2.2.2.2.2.1, .double σ.2.2.2.2.2.2.2])), (a1, .inl (cI, 6, .inl σ.1)), (a2, .inl (cI, 6, .inl σ.2.1)), (a3, .inl (cI, 6, .inl σ.2.2.1))] := hD
  have hl := lv_entry ([.ref j, .int p0]) (n := 4) (Nat.le_of_ble_eq_true rfl)
  rw [lg_entry_eq]
  generalize (lg_sl ([.ref j, .int p0]) ++ List.replicate (4 - (lg_sl ([.ref j, .int p0])).length) Slot.unset).toArray = ls at hl ⊢
  have hl : lv_has ls 4 [(0, .ref j), (1, .int p0)] := hl
  have q_0 := hts (.fieldLink RX0 36 "Cascadecourt$Juggler" "slipsEver" "I") (by decide +kernel)
  have in_X0 : ∀ w ∈ wsX00, w ∈ wsX0_slip := by decide +kernel
  refine lv_aload_n hx hb dX0_slip_0 rfl (lv_at hl 0 rfl) ?_
  refine lv_iconst (v := 0) hx hb dX0_slip_1 (by decide) ?_
  refine vp_callSi (va_Run.run (va_runV (As := [.int 0]) (rest := []) ⟨hx, hb, hml, hown, hts⟩ (c_X0_propLandingIn l dC dI cI cR j a1 a2 a3 σ 0) (cwV 1 hts gX0_slip_X0_propLandingIn rfl rfl rfl (by decide +kernel) ⟨Nat.le_of_ble_eq_true rfl, Nat.le_of_ble_eq_true rfl⟩) ⟨fun a U g mk q => by obtain ⟨q0, qP, qE⟩ := q; exact ⟨q0, qP, cE.same (s := U) rfl qE⟩, va_recv hK hP (ci := 0) (q0 := 0) rfl rfl, fun U hU hW => ⟨rfl, by rw [hU]; exact hP.sub (ws' := (wJ cI j a1 a2 a3 σ)) [0, 1, 2, 3] rfl, hE.warm hW⟩⟩ rfl rfl hl.1 rfl (lv_room (Nat.le_of_ble_eq_true rfl)) dX0_slip_2 ⟨Nat.zero_le _, Nat.zero_le _⟩)) (fun r_2 h_2 => ?_)
  subst h_2
  refine lv_istore_n (lv' := [(2, .int (S_X0_propLandingIn σ 0)), (0, .ref j), (1, .int p0)]) hx hb dX0_slip_5 rfl hl (by decide) rfl (fun ls hl => ?_)
  refine lv_iload_n hx hb dX0_slip_6 rfl (lv_at hl 2 rfl) ?_
  refine lv_if_le (tgt := 18) hx hb dX0_slip_7 (by decide) (fun c_7 => ?_) (fun c_7 => ?_)
  · refine lv_iconst (v := (-1)) hx hb dX0_slip_18 (by decide) ?_
    refine lv_istore_n (lv' := [(3, .int (-1)), (2, .int (S_X0_propLandingIn σ 0)), (0, .ref j), (1, .int p0)]) hx hb dX0_slip_19 rfl hl (by decide) rfl (fun ls hl => ?_)
    refine lv_aload_n hx hb dX0_slip_20 rfl (lv_at hl 2 rfl) ?_
    refine lv_dup hx hb dX0_slip_21 rfl ?_
    refine va_get (D := (dC, dI)) (ci := 0) (v := .int σ.2.2.2.2.2.1) (C := RX0) (T := TX0) (N := 8) hx hb hts in_X0 hown hK hP 0 rfl rfl 5 (by decide) q_0 (fun _ h9 => h9) rfl dX0_slip_22 ?_
    refine lv_iconst (v := 1) hx hb dX0_slip_25 (by decide) ?_
    refine lv_iadd hx hb dX0_slip_26 ?_
    refine va_put (D := (dC, dI)) (ci := 0) (v := .int (σ.2.2.2.2.2.1 + 1)) (ty := .int) (C := RX0) (T := TX0) (N := 8) hx hb hts in_X0 tyX0 tyX0_ok nmX0 hown hK hP hD hS 0 rfl rfl 5 (by decide) q_0 (fun _ h9 => h9) rfl (by decide +kernel) rfl rfl (Nat.le_of_ble_eq_true rfl) dX0_slip_27 (fun H locs hP hD hS => ?_)
    have hP : va_P (dC, dI) vwCl [(j, .inr (0, [.ref a1, .ref a2, .ref a3, .int σ.2.2.2.1, .int σ.2.2.2.2.1, .int (σ.2.2.2.2.2.1 + 1), .int σ.2.2.2.2.2.2.1, .double σ.2.2.2.2.2.2.2])), (a1, .inl (cI, 6, .inl σ.1)), (a2, .inl (cI, 6, .inl σ.2.1)), (a3, .inl (cI, 6, .inl σ.2.2.1))] H := hP
    have hD : va_D A [(j, .inr (0, [.ref a1, .ref a2, .ref a3, .int σ.2.2.2.1, .int σ.2.2.2.2.1, .int (σ.2.2.2.2.2.1 + 1), .int σ.2.2.2.2.2.2.1, .double σ.2.2.2.2.2.2.2])), (a1, .inl (cI, 6, .inl σ.1)), (a2, .inl (cI, 6, .inl σ.2.1)), (a3, .inl (cI, 6, .inl σ.2.2.1))] := hD
    refine lv_iload_n hx hb dX0_slip_30 rfl (lv_at hl 1 rfl) ?_
    refine lv_iconst (v := (-1)) hx hb dX0_slip_31 (by decide) ?_
    refine lv_icmp_eq (tgt := 45) hx hb dX0_slip_32 (by decide) (fun c_32 => ?_) (fun c_32 => ?_)
    · have e9 : S_X0_slip σ p0 = (σ.1, σ.2.1, σ.2.2.1, σ.2.2.2.1, σ.2.2.2.2.1, σ.2.2.2.2.2.1 + 1, σ.2.2.2.2.2.2.1, σ.2.2.2.2.2.2.2) := by simp only [S_X0_slip, if_pos c_7, if_pos c_32]
      exact W.vret hx hb hr (fun t ht hW => ⟨⟨(), rfl, trivial, by rw [ht, e9]; exact hP, hE.warm hW, by rw [e9]; exact hD⟩, hS.F ht⟩) hS.2.2 dX0_slip_45
    · refine lv_aload_n hx hb dX0_slip_35 rfl (lv_at hl 2 rfl) ?_
      refine lv_iload_n hx hb dX0_slip_36 rfl (lv_at hl 1 rfl) ?_
      have hPc := hP.sub (ws' := (wJ cI j a1 a2 a3 (σ.1, σ.2.1, σ.2.2.1, σ.2.2.2.1, σ.2.2.2.2.1, σ.2.2.2.2.2.1 + 1, σ.2.2.2.2.2.2.1, σ.2.2.2.2.2.2.2))) [0, 1, 2, 3] rfl
      have hDc := hD.sub (ws' := (wJ cI j a1 a2 a3 (σ.1, σ.2.1, σ.2.2.1, σ.2.2.2.1, σ.2.2.2.2.1, σ.2.2.2.2.2.1 + 1, σ.2.2.2.2.2.2.1, σ.2.2.2.2.2.2.2))) [0, 1, 2, 3] (by decide) rfl
      have hFc := va_free (wc := (wJ cI j a1 a2 a3 (σ.1, σ.2.1, σ.2.2.1, σ.2.2.2.1, σ.2.2.2.2.1, σ.2.2.2.2.2.1 + 1, σ.2.2.2.2.2.2.1, σ.2.2.2.2.2.2.2))) hD hS hA [0, 1, 2, 3] rfl
      refine va_callv (va_runV (As := [.int (S_X0_propLandingIn σ 0)]) (rest := []) ⟨hx, hb, hml, hown, hts⟩ (c_X0_dropProp l dC dI cI cR _ j a1 a2 a3 (σ.1, σ.2.1, σ.2.2.1, σ.2.2.2.1, σ.2.2.2.2.1, σ.2.2.2.2.2.1 + 1, σ.2.2.2.2.2.2.1, σ.2.2.2.2.2.2.2) (S_X0_propLandingIn σ 0)) (cwV 1 hts gX0_slip_X0_dropProp rfl rfl rfl (by decide +kernel) ⟨Nat.le_of_ble_eq_true rfl, Nat.le_of_ble_eq_true rfl⟩) ⟨fun a U g mk q => by obtain ⟨q0, q1, qP, qE, qD⟩ := q; exact ⟨q0, q1, qP, cE.same (s := U) rfl qE, qD⟩, va_recv hK hP (ci := 0) (q0 := 0) rfl rfl, fun U hU hW => ⟨rfl, by rw [hU], by rw [hU]; exact hPc, hE.warm hW, hDc.weaken (fun _ _ _ _ => trivial)⟩⟩ rfl rfl hl.1 rfl (lv_room (Nat.le_of_ble_eq_true rfl)) dX0_slip_37 ⟨Nat.zero_le _, Nat.zero_le _⟩) hS (fun q _ h => hFc q h) hFc (fun u t H1 locs ht hvm h_37 hB hz1 hk1 hS => ?_)
      obtain ⟨hP1, -, hD1⟩ := hB
      rw [ht] at hP1
      obtain ⟨hP, hD⟩ := va_join (wr := []) (w1 := (wJ cI j a1 a2 a3 (S_X0_dropProp (σ.1, σ.2.1, σ.2.2.1, σ.2.2.2.1, σ.2.2.2.2.1, σ.2.2.2.2.2.1 + 1, σ.2.2.2.2.2.2.1, σ.2.2.2.2.2.2.2) (S_X0_propLandingIn σ 0)))) hP hD [0, 1, 2, 3] [] rfl rfl (by decide) (by decide) hk1 hFc hP1 hD1
      have hP := hP.sub (ws' := [(j, .inr (0, [.ref a1, .ref a2, .ref a3, .int ((S_X0_dropProp (σ.1, σ.2.1, σ.2.2.1, σ.2.2.2.1, σ.2.2.2.2.1, σ.2.2.2.2.2.1 + 1, σ.2.2.2.2.2.2.1, σ.2.2.2.2.2.2.2) (S_X0_propLandingIn σ 0)).2.2.2.1), .int ((S_X0_dropProp (σ.1, σ.2.1, σ.2.2.1, σ.2.2.2.1, σ.2.2.2.2.1, σ.2.2.2.2.2.1 + 1, σ.2.2.2.2.2.2.1, σ.2.2.2.2.2.2.2) (S_X0_propLandingIn σ 0)).2.2.2.2.1), .int ((S_X0_dropProp (σ.1, σ.2.1, σ.2.2.1, σ.2.2.2.1, σ.2.2.2.2.1, σ.2.2.2.2.2.1 + 1, σ.2.2.2.2.2.2.1, σ.2.2.2.2.2.2.2) (S_X0_propLandingIn σ 0)).2.2.2.2.2.1), .int ((S_X0_dropProp (σ.1, σ.2.1, σ.2.2.1, σ.2.2.2.1, σ.2.2.2.2.1, σ.2.2.2.2.2.1 + 1, σ.2.2.2.2.2.2.1, σ.2.2.2.2.2.2.2) (S_X0_propLandingIn σ 0)).2.2.2.2.2.2.1), .double ((S_X0_dropProp (σ.1, σ.2.1, σ.2.2.1, σ.2.2.2.1, σ.2.2.2.2.1, σ.2.2.2.2.2.1 + 1, σ.2.2.2.2.2.2.1, σ.2.2.2.2.2.2.2) (S_X0_propLandingIn σ 0)).2.2.2.2.2.2.2)])), (a1, .inl (cI, 6, .inl ((S_X0_dropProp (σ.1, σ.2.1, σ.2.2.1, σ.2.2.2.1, σ.2.2.2.2.1, σ.2.2.2.2.2.1 + 1, σ.2.2.2.2.2.2.1, σ.2.2.2.2.2.2.2) (S_X0_propLandingIn σ 0)).1))), (a2, .inl (cI, 6, .inl ((S_X0_dropProp (σ.1, σ.2.1, σ.2.2.1, σ.2.2.2.1, σ.2.2.2.2.1, σ.2.2.2.2.2.1 + 1, σ.2.2.2.2.2.2.1, σ.2.2.2.2.2.2.2) (S_X0_propLandingIn σ 0)).2.1))), (a3, .inl (cI, 6, .inl ((S_X0_dropProp (σ.1, σ.2.1, σ.2.2.1, σ.2.2.2.1, σ.2.2.2.2.1, σ.2.2.2.2.2.1 + 1, σ.2.2.2.2.2.2.1, σ.2.2.2.2.2.2.2) (S_X0_propLandingIn σ 0)).2.2.1)))]) [0, 1, 2, 3] rfl
      have hD := hD.sub (ws' := [(j, .inr (0, [.ref a1, .ref a2, .ref a3, .int ((S_X0_dropProp (σ.1, σ.2.1, σ.2.2.1, σ.2.2.2.1, σ.2.2.2.2.1, σ.2.2.2.2.2.1 + 1, σ.2.2.2.2.2.2.1, σ.2.2.2.2.2.2.2) (S_X0_propLandingIn σ 0)).2.2.2.1), .int ((S_X0_dropProp (σ.1, σ.2.1, σ.2.2.1, σ.2.2.2.1, σ.2.2.2.2.1, σ.2.2.2.2.2.1 + 1, σ.2.2.2.2.2.2.1, σ.2.2.2.2.2.2.2) (S_X0_propLandingIn σ 0)).2.2.2.2.1), .int ((S_X0_dropProp (σ.1, σ.2.1, σ.2.2.1, σ.2.2.2.1, σ.2.2.2.2.1, σ.2.2.2.2.2.1 + 1, σ.2.2.2.2.2.2.1, σ.2.2.2.2.2.2.2) (S_X0_propLandingIn σ 0)).2.2.2.2.2.1), .int ((S_X0_dropProp (σ.1, σ.2.1, σ.2.2.1, σ.2.2.2.1, σ.2.2.2.2.1, σ.2.2.2.2.2.1 + 1, σ.2.2.2.2.2.2.1, σ.2.2.2.2.2.2.2) (S_X0_propLandingIn σ 0)).2.2.2.2.2.2.1), .double ((S_X0_dropProp (σ.1, σ.2.1, σ.2.2.1, σ.2.2.2.1, σ.2.2.2.2.1, σ.2.2.2.2.2.1 + 1, σ.2.2.2.2.2.2.1, σ.2.2.2.2.2.2.2) (S_X0_propLandingIn σ 0)).2.2.2.2.2.2.2)])), (a1, .inl (cI, 6, .inl ((S_X0_dropProp (σ.1, σ.2.1, σ.2.2.1, σ.2.2.2.1, σ.2.2.2.2.1, σ.2.2.2.2.2.1 + 1, σ.2.2.2.2.2.2.1, σ.2.2.2.2.2.2.2) (S_X0_propLandingIn σ 0)).1))), (a2, .inl (cI, 6, .inl ((S_X0_dropProp (σ.1, σ.2.1, σ.2.2.1, σ.2.2.2.1, σ.2.2.2.2.1, σ.2.2.2.2.2.1 + 1, σ.2.2.2.2.2.2.1, σ.2.2.2.2.2.2.2) (S_X0_propLandingIn σ 0)).2.1))), (a3, .inl (cI, 6, .inl ((S_X0_dropProp (σ.1, σ.2.1, σ.2.2.1, σ.2.2.2.1, σ.2.2.2.2.1, σ.2.2.2.2.2.1 + 1, σ.2.2.2.2.2.2.1, σ.2.2.2.2.2.2.2) (S_X0_propLandingIn σ 0)).2.2.1)))]) [0, 1, 2, 3] (by decide) rfl
      clear hPc hDc hP1 hD1 hk1 hFc hz1 ht hvm
      generalize H1 = H at hP hS ⊢
      refine lv_aload_n hx hb dX0_slip_40 rfl (lv_at hl 2 rfl) ?_
      refine lv_iload_n hx hb dX0_slip_41 rfl (lv_at hl 0 rfl) ?_
      have hPc := hP.sub (ws' := (wJ cI j a1 a2 a3 (S_X0_dropProp (σ.1, σ.2.1, σ.2.2.1, σ.2.2.2.1, σ.2.2.2.2.1, σ.2.2.2.2.2.1 + 1, σ.2.2.2.2.2.2.1, σ.2.2.2.2.2.2.2) (S_X0_propLandingIn σ 0)))) [0, 1, 2, 3] rfl
      have hDc := hD.sub (ws' := (wJ cI j a1 a2 a3 (S_X0_dropProp (σ.1, σ.2.1, σ.2.2.1, σ.2.2.2.1, σ.2.2.2.2.1, σ.2.2.2.2.2.1 + 1, σ.2.2.2.2.2.2.1, σ.2.2.2.2.2.2.2) (S_X0_propLandingIn σ 0)))) [0, 1, 2, 3] (by decide) rfl
      have hFc := va_free (wc := (wJ cI j a1 a2 a3 (S_X0_dropProp (σ.1, σ.2.1, σ.2.2.1, σ.2.2.2.1, σ.2.2.2.2.1, σ.2.2.2.2.2.1 + 1, σ.2.2.2.2.2.2.1, σ.2.2.2.2.2.2.2) (S_X0_propLandingIn σ 0)))) hD hS hA [0, 1, 2, 3] rfl
      refine va_callv (va_runV (As := [.int (-1)]) (rest := []) ⟨hx, hb, hml, hown, hts⟩ (c_X0_dropProp l dC dI cI cR _ j a1 a2 a3 (S_X0_dropProp (σ.1, σ.2.1, σ.2.2.1, σ.2.2.2.1, σ.2.2.2.2.1, σ.2.2.2.2.2.1 + 1, σ.2.2.2.2.2.2.1, σ.2.2.2.2.2.2.2) (S_X0_propLandingIn σ 0)) (-1)) (cwV 1 hts gX0_slip_X0_dropProp rfl rfl rfl (by decide +kernel) ⟨Nat.le_of_ble_eq_true rfl, Nat.le_of_ble_eq_true rfl⟩) ⟨fun a U g mk q => by obtain ⟨q0, q1, qP, qE, qD⟩ := q; exact ⟨q0, q1, qP, cE.same (s := U) rfl qE, qD⟩, va_recv hK hP (ci := 0) (q0 := 0) rfl rfl, fun U hU hW => ⟨rfl, by rw [hU], by rw [hU]; exact hPc, hE.warm hW, hDc.weaken (fun _ _ _ _ => trivial)⟩⟩ rfl rfl hl.1 rfl (lv_room (Nat.le_of_ble_eq_true rfl)) dX0_slip_42 ⟨Nat.zero_le _, Nat.zero_le _⟩) hS (fun q _ h => hFc q h) hFc (fun u t H1 locs ht hvm h_42 hB hz1 hk1 hS => ?_)
      obtain ⟨hP1, -, hD1⟩ := hB
      rw [ht] at hP1
      obtain ⟨hP, hD⟩ := va_join (wr := []) (w1 := (wJ cI j a1 a2 a3 (S_X0_dropProp (S_X0_dropProp (σ.1, σ.2.1, σ.2.2.1, σ.2.2.2.1, σ.2.2.2.2.1, σ.2.2.2.2.2.1 + 1, σ.2.2.2.2.2.2.1, σ.2.2.2.2.2.2.2) (S_X0_propLandingIn σ 0)) (-1)))) hP hD [0, 1, 2, 3] [] rfl rfl (by decide) (by decide) hk1 hFc hP1 hD1
      have hP := hP.sub (ws' := [(j, .inr (0, [.ref a1, .ref a2, .ref a3, .int ((S_X0_dropProp (S_X0_dropProp (σ.1, σ.2.1, σ.2.2.1, σ.2.2.2.1, σ.2.2.2.2.1, σ.2.2.2.2.2.1 + 1, σ.2.2.2.2.2.2.1, σ.2.2.2.2.2.2.2) (S_X0_propLandingIn σ 0)) (-1)).2.2.2.1), .int ((S_X0_dropProp (S_X0_dropProp (σ.1, σ.2.1, σ.2.2.1, σ.2.2.2.1, σ.2.2.2.2.1, σ.2.2.2.2.2.1 + 1, σ.2.2.2.2.2.2.1, σ.2.2.2.2.2.2.2) (S_X0_propLandingIn σ 0)) (-1)).2.2.2.2.1), .int ((S_X0_dropProp (S_X0_dropProp (σ.1, σ.2.1, σ.2.2.1, σ.2.2.2.1, σ.2.2.2.2.1, σ.2.2.2.2.2.1 + 1, σ.2.2.2.2.2.2.1, σ.2.2.2.2.2.2.2) (S_X0_propLandingIn σ 0)) (-1)).2.2.2.2.2.1), .int ((S_X0_dropProp (S_X0_dropProp (σ.1, σ.2.1, σ.2.2.1, σ.2.2.2.1, σ.2.2.2.2.1, σ.2.2.2.2.2.1 + 1, σ.2.2.2.2.2.2.1, σ.2.2.2.2.2.2.2) (S_X0_propLandingIn σ 0)) (-1)).2.2.2.2.2.2.1), .double ((S_X0_dropProp (S_X0_dropProp (σ.1, σ.2.1, σ.2.2.1, σ.2.2.2.1, σ.2.2.2.2.1, σ.2.2.2.2.2.1 + 1, σ.2.2.2.2.2.2.1, σ.2.2.2.2.2.2.2) (S_X0_propLandingIn σ 0)) (-1)).2.2.2.2.2.2.2)])), (a1, .inl (cI, 6, .inl ((S_X0_dropProp (S_X0_dropProp (σ.1, σ.2.1, σ.2.2.1, σ.2.2.2.1, σ.2.2.2.2.1, σ.2.2.2.2.2.1 + 1, σ.2.2.2.2.2.2.1, σ.2.2.2.2.2.2.2) (S_X0_propLandingIn σ 0)) (-1)).1))), (a2, .inl (cI, 6, .inl ((S_X0_dropProp (S_X0_dropProp (σ.1, σ.2.1, σ.2.2.1, σ.2.2.2.1, σ.2.2.2.2.1, σ.2.2.2.2.2.1 + 1, σ.2.2.2.2.2.2.1, σ.2.2.2.2.2.2.2) (S_X0_propLandingIn σ 0)) (-1)).2.1))), (a3, .inl (cI, 6, .inl ((S_X0_dropProp (S_X0_dropProp (σ.1, σ.2.1, σ.2.2.1, σ.2.2.2.1, σ.2.2.2.2.1, σ.2.2.2.2.2.1 + 1, σ.2.2.2.2.2.2.1, σ.2.2.2.2.2.2.2) (S_X0_propLandingIn σ 0)) (-1)).2.2.1)))]) [0, 1, 2, 3] rfl
      have hD := hD.sub (ws' := [(j, .inr (0, [.ref a1, .ref a2, .ref a3, .int ((S_X0_dropProp (S_X0_dropProp (σ.1, σ.2.1, σ.2.2.1, σ.2.2.2.1, σ.2.2.2.2.1, σ.2.2.2.2.2.1 + 1, σ.2.2.2.2.2.2.1, σ.2.2.2.2.2.2.2) (S_X0_propLandingIn σ 0)) (-1)).2.2.2.1), .int ((S_X0_dropProp (S_X0_dropProp (σ.1, σ.2.1, σ.2.2.1, σ.2.2.2.1, σ.2.2.2.2.1, σ.2.2.2.2.2.1 + 1, σ.2.2.2.2.2.2.1, σ.2.2.2.2.2.2.2) (S_X0_propLandingIn σ 0)) (-1)).2.2.2.2.1), .int ((S_X0_dropProp (S_X0_dropProp (σ.1, σ.2.1, σ.2.2.1, σ.2.2.2.1, σ.2.2.2.2.1, σ.2.2.2.2.2.1 + 1, σ.2.2.2.2.2.2.1, σ.2.2.2.2.2.2.2) (S_X0_propLandingIn σ 0)) (-1)).2.2.2.2.2.1), .int ((S_X0_dropProp (S_X0_dropProp (σ.1, σ.2.1, σ.2.2.1, σ.2.2.2.1, σ.2.2.2.2.1, σ.2.2.2.2.2.1 + 1, σ.2.2.2.2.2.2.1, σ.2.2.2.2.2.2.2) (S_X0_propLandingIn σ 0)) (-1)).2.2.2.2.2.2.1), .double ((S_X0_dropProp (S_X0_dropProp (σ.1, σ.2.1, σ.2.2.1, σ.2.2.2.1, σ.2.2.2.2.1, σ.2.2.2.2.2.1 + 1, σ.2.2.2.2.2.2.1, σ.2.2.2.2.2.2.2) (S_X0_propLandingIn σ 0)) (-1)).2.2.2.2.2.2.2)])), (a1, .inl (cI, 6, .inl ((S_X0_dropProp (S_X0_dropProp (σ.1, σ.2.1, σ.2.2.1, σ.2.2.2.1, σ.2.2.2.2.1, σ.2.2.2.2.2.1 + 1, σ.2.2.2.2.2.2.1, σ.2.2.2.2.2.2.2) (S_X0_propLandingIn σ 0)) (-1)).1))), (a2, .inl (cI, 6, .inl ((S_X0_dropProp (S_X0_dropProp (σ.1, σ.2.1, σ.2.2.1, σ.2.2.2.1, σ.2.2.2.2.1, σ.2.2.2.2.2.1 + 1, σ.2.2.2.2.2.2.1, σ.2.2.2.2.2.2.2) (S_X0_propLandingIn σ 0)) (-1)).2.1))), (a3, .inl (cI, 6, .inl ((S_X0_dropProp (S_X0_dropProp (σ.1, σ.2.1, σ.2.2.1, σ.2.2.2.1, σ.2.2.2.2.1, σ.2.2.2.2.2.1 + 1, σ.2.2.2.2.2.2.1, σ.2.2.2.2.2.2.2) (S_X0_propLandingIn σ 0)) (-1)).2.2.1)))]) [0, 1, 2, 3] (by decide) rfl
      clear hPc hDc hP1 hD1 hk1 hFc hz1 ht hvm
      generalize H1 = H at hP hS ⊢
      have e9 : S_X0_slip σ p0 = (S_X0_dropProp (S_X0_dropProp (σ.1, σ.2.1, σ.2.2.1, σ.2.2.2.1, σ.2.2.2.2.1, σ.2.2.2.2.2.1 + 1, σ.2.2.2.2.2.2.1, σ.2.2.2.2.2.2.2) (S_X0_propLandingIn σ 0)) (-1)) := by simp only [S_X0_slip, if_pos c_7, if_neg c_32]
      exact W.vret hx hb hr (fun t ht hW => ⟨⟨(), rfl, trivial, by rw [ht, e9]; exact hP, hE.warm hW, by rw [e9]; exact hD⟩, hS.F ht⟩) hS.2.2 dX0_slip_45
  · refine lv_aload_n hx hb dX0_slip_10 rfl (lv_at hl 1 rfl) ?_
    refine lv_iload_n hx hb dX0_slip_11 rfl (lv_at hl 2 rfl) ?_
    refine vp_callSi (va_Run.run (va_runV (As := [.int p0]) (rest := []) ⟨hx, hb, hml, hown, hts⟩ (c_X0_propLandingIn l dC dI cI cR j a1 a2 a3 σ p0) (cwV 1 hts gX0_slip_X0_propLandingIn rfl rfl rfl (by decide +kernel) ⟨Nat.le_of_ble_eq_true rfl, Nat.le_of_ble_eq_true rfl⟩) ⟨fun a U g mk q => by obtain ⟨q0, qP, qE⟩ := q; exact ⟨q0, qP, cE.same (s := U) rfl qE⟩, va_recv hK hP (ci := 0) (q0 := 0) rfl rfl, fun U hU hW => ⟨rfl, by rw [hU]; exact hP.sub (ws' := (wJ cI j a1 a2 a3 σ)) [0, 1, 2, 3] rfl, hE.warm hW⟩⟩ rfl rfl hl.1 rfl (lv_room (Nat.le_of_ble_eq_true rfl)) dX0_slip_12 ⟨Nat.zero_le _, Nat.zero_le _⟩)) (fun r_12 h_12 => ?_)
    subst h_12
    refine lv_goto (tgt := 19) hx hb dX0_slip_15 (by decide) ?_
    refine lv_istore_n (lv' := [(3, .int (S_X0_propLandingIn σ p0)), (2, .int (S_X0_propLandingIn σ 0)), (0, .ref j), (1, .int p0)]) hx hb dX0_slip_19 rfl hl (by decide) rfl (fun ls hl => ?_)
    refine lv_aload_n hx hb dX0_slip_20 rfl (lv_at hl 2 rfl) ?_
    refine lv_dup hx hb dX0_slip_21 rfl ?_
    refine va_get (D := (dC, dI)) (ci := 0) (v := .int σ.2.2.2.2.2.1) (C := RX0) (T := TX0) (N := 8) hx hb hts in_X0 hown hK hP 0 rfl rfl 5 (by decide) q_0 (fun _ h9 => h9) rfl dX0_slip_22 ?_
    refine lv_iconst (v := 1) hx hb dX0_slip_25 (by decide) ?_
    refine lv_iadd hx hb dX0_slip_26 ?_
    refine va_put (D := (dC, dI)) (ci := 0) (v := .int (σ.2.2.2.2.2.1 + 1)) (ty := .int) (C := RX0) (T := TX0) (N := 8) hx hb hts in_X0 tyX0 tyX0_ok nmX0 hown hK hP hD hS 0 rfl rfl 5 (by decide) q_0 (fun _ h9 => h9) rfl (by decide +kernel) rfl rfl (Nat.le_of_ble_eq_true rfl) dX0_slip_27 (fun H locs hP hD hS => ?_)
    have hP : va_P (dC, dI) vwCl [(j, .inr (0, [.ref a1, .ref a2, .ref a3, .int σ.2.2.2.1, .int σ.2.2.2.2.1, .int (σ.2.2.2.2.2.1 + 1), .int σ.2.2.2.2.2.2.1, .double σ.2.2.2.2.2.2.2])), (a1, .inl (cI, 6, .inl σ.1)), (a2, .inl (cI, 6, .inl σ.2.1)), (a3, .inl (cI, 6, .inl σ.2.2.1))] H := hP
    have hD : va_D A [(j, .inr (0, [.ref a1, .ref a2, .ref a3, .int σ.2.2.2.1, .int σ.2.2.2.2.1, .int (σ.2.2.2.2.2.1 + 1), .int σ.2.2.2.2.2.2.1, .double σ.2.2.2.2.2.2.2])), (a1, .inl (cI, 6, .inl σ.1)), (a2, .inl (cI, 6, .inl σ.2.1)), (a3, .inl (cI, 6, .inl σ.2.2.1))] := hD
    refine lv_iload_n hx hb dX0_slip_30 rfl (lv_at hl 1 rfl) ?_
    refine lv_iconst (v := (-1)) hx hb dX0_slip_31 (by decide) ?_
    refine lv_icmp_eq (tgt := 45) hx hb dX0_slip_32 (by decide) (fun c_32 => ?_) (fun c_32 => ?_)
    · have e9 : S_X0_slip σ p0 = (σ.1, σ.2.1, σ.2.2.1, σ.2.2.2.1, σ.2.2.2.2.1, σ.2.2.2.2.2.1 + 1, σ.2.2.2.2.2.2.1, σ.2.2.2.2.2.2.2) := by simp only [S_X0_slip, if_neg c_7, if_pos c_32]
      exact W.vret hx hb hr (fun t ht hW => ⟨⟨(), rfl, trivial, by rw [ht, e9]; exact hP, hE.warm hW, by rw [e9]; exact hD⟩, hS.F ht⟩) hS.2.2 dX0_slip_45
    · refine lv_aload_n hx hb dX0_slip_35 rfl (lv_at hl 2 rfl) ?_
      refine lv_iload_n hx hb dX0_slip_36 rfl (lv_at hl 1 rfl) ?_
      have hPc := hP.sub (ws' := (wJ cI j a1 a2 a3 (σ.1, σ.2.1, σ.2.2.1, σ.2.2.2.1, σ.2.2.2.2.1, σ.2.2.2.2.2.1 + 1, σ.2.2.2.2.2.2.1, σ.2.2.2.2.2.2.2))) [0, 1, 2, 3] rfl
      have hDc := hD.sub (ws' := (wJ cI j a1 a2 a3 (σ.1, σ.2.1, σ.2.2.1, σ.2.2.2.1, σ.2.2.2.2.1, σ.2.2.2.2.2.1 + 1, σ.2.2.2.2.2.2.1, σ.2.2.2.2.2.2.2))) [0, 1, 2, 3] (by decide) rfl
      have hFc := va_free (wc := (wJ cI j a1 a2 a3 (σ.1, σ.2.1, σ.2.2.1, σ.2.2.2.1, σ.2.2.2.2.1, σ.2.2.2.2.2.1 + 1, σ.2.2.2.2.2.2.1, σ.2.2.2.2.2.2.2))) hD hS hA [0, 1, 2, 3] rfl
      refine va_callv (va_runV (As := [.int (S_X0_propLandingIn σ 0)]) (rest := []) ⟨hx, hb, hml, hown, hts⟩ (c_X0_dropProp l dC dI cI cR _ j a1 a2 a3 (σ.1, σ.2.1, σ.2.2.1, σ.2.2.2.1, σ.2.2.2.2.1, σ.2.2.2.2.2.1 + 1, σ.2.2.2.2.2.2.1, σ.2.2.2.2.2.2.2) (S_X0_propLandingIn σ 0)) (cwV 1 hts gX0_slip_X0_dropProp rfl rfl rfl (by decide +kernel) ⟨Nat.le_of_ble_eq_true rfl, Nat.le_of_ble_eq_true rfl⟩) ⟨fun a U g mk q => by obtain ⟨q0, q1, qP, qE, qD⟩ := q; exact ⟨q0, q1, qP, cE.same (s := U) rfl qE, qD⟩, va_recv hK hP (ci := 0) (q0 := 0) rfl rfl, fun U hU hW => ⟨rfl, by rw [hU], by rw [hU]; exact hPc, hE.warm hW, hDc.weaken (fun _ _ _ _ => trivial)⟩⟩ rfl rfl hl.1 rfl (lv_room (Nat.le_of_ble_eq_true rfl)) dX0_slip_37 ⟨Nat.zero_le _, Nat.zero_le _⟩) hS (fun q _ h => hFc q h) hFc (fun u t H1 locs ht hvm h_37 hB hz1 hk1 hS => ?_)
      obtain ⟨hP1, -, hD1⟩ := hB
      rw [ht] at hP1
      obtain ⟨hP, hD⟩ := va_join (wr := []) (w1 := (wJ cI j a1 a2 a3 (S_X0_dropProp (σ.1, σ.2.1, σ.2.2.1, σ.2.2.2.1, σ.2.2.2.2.1, σ.2.2.2.2.2.1 + 1, σ.2.2.2.2.2.2.1, σ.2.2.2.2.2.2.2) (S_X0_propLandingIn σ 0)))) hP hD [0, 1, 2, 3] [] rfl rfl (by decide) (by decide) hk1 hFc hP1 hD1
      have hP := hP.sub (ws' := [(j, .inr (0, [.ref a1, .ref a2, .ref a3, .int ((S_X0_dropProp (σ.1, σ.2.1, σ.2.2.1, σ.2.2.2.1, σ.2.2.2.2.1, σ.2.2.2.2.2.1 + 1, σ.2.2.2.2.2.2.1, σ.2.2.2.2.2.2.2) (S_X0_propLandingIn σ 0)).2.2.2.1), .int ((S_X0_dropProp (σ.1, σ.2.1, σ.2.2.1, σ.2.2.2.1, σ.2.2.2.2.1, σ.2.2.2.2.2.1 + 1, σ.2.2.2.2.2.2.1, σ.2.2.2.2.2.2.2) (S_X0_propLandingIn σ 0)).2.2.2.2.1), .int ((S_X0_dropProp (σ.1, σ.2.1, σ.2.2.1, σ.2.2.2.1, σ.2.2.2.2.1, σ.2.2.2.2.2.1 + 1, σ.2.2.2.2.2.2.1, σ.2.2.2.2.2.2.2) (S_X0_propLandingIn σ 0)).2.2.2.2.2.1), .int ((S_X0_dropProp (σ.1, σ.2.1, σ.2.2.1, σ.2.2.2.1, σ.2.2.2.2.1, σ.2.2.2.2.2.1 + 1, σ.2.2.2.2.2.2.1, σ.2.2.2.2.2.2.2) (S_X0_propLandingIn σ 0)).2.2.2.2.2.2.1), .double ((S_X0_dropProp (σ.1, σ.2.1, σ.2.2.1, σ.2.2.2.1, σ.2.2.2.2.1, σ.2.2.2.2.2.1 + 1, σ.2.2.2.2.2.2.1, σ.2.2.2.2.2.2.2) (S_X0_propLandingIn σ 0)).2.2.2.2.2.2.2)])), (a1, .inl (cI, 6, .inl ((S_X0_dropProp (σ.1, σ.2.1, σ.2.2.1, σ.2.2.2.1, σ.2.2.2.2.1, σ.2.2.2.2.2.1 + 1, σ.2.2.2.2.2.2.1, σ.2.2.2.2.2.2.2) (S_X0_propLandingIn σ 0)).1))), (a2, .inl (cI, 6, .inl ((S_X0_dropProp (σ.1, σ.2.1, σ.2.2.1, σ.2.2.2.1, σ.2.2.2.2.1, σ.2.2.2.2.2.1 + 1, σ.2.2.2.2.2.2.1, σ.2.2.2.2.2.2.2) (S_X0_propLandingIn σ 0)).2.1))), (a3, .inl (cI, 6, .inl ((S_X0_dropProp (σ.1, σ.2.1, σ.2.2.1, σ.2.2.2.1, σ.2.2.2.2.1, σ.2.2.2.2.2.1 + 1, σ.2.2.2.2.2.2.1, σ.2.2.2.2.2.2.2) (S_X0_propLandingIn σ 0)).2.2.1)))]) [0, 1, 2, 3] rfl
      have hD := hD.sub (ws' := [(j, .inr (0, [.ref a1, .ref a2, .ref a3, .int ((S_X0_dropProp (σ.1, σ.2.1, σ.2.2.1, σ.2.2.2.1, σ.2.2.2.2.1, σ.2.2.2.2.2.1 + 1, σ.2.2.2.2.2.2.1, σ.2.2.2.2.2.2.2) (S_X0_propLandingIn σ 0)).2.2.2.1), .int ((S_X0_dropProp (σ.1, σ.2.1, σ.2.2.1, σ.2.2.2.1, σ.2.2.2.2.1, σ.2.2.2.2.2.1 + 1, σ.2.2.2.2.2.2.1, σ.2.2.2.2.2.2.2) (S_X0_propLandingIn σ 0)).2.2.2.2.1), .int ((S_X0_dropProp (σ.1, σ.2.1, σ.2.2.1, σ.2.2.2.1, σ.2.2.2.2.1, σ.2.2.2.2.2.1 + 1, σ.2.2.2.2.2.2.1, σ.2.2.2.2.2.2.2) (S_X0_propLandingIn σ 0)).2.2.2.2.2.1), .int ((S_X0_dropProp (σ.1, σ.2.1, σ.2.2.1, σ.2.2.2.1, σ.2.2.2.2.1, σ.2.2.2.2.2.1 + 1, σ.2.2.2.2.2.2.1, σ.2.2.2.2.2.2.2) (S_X0_propLandingIn σ 0)).2.2.2.2.2.2.1), .double ((S_X0_dropProp (σ.1, σ.2.1, σ.2.2.1, σ.2.2.2.1, σ.2.2.2.2.1, σ.2.2.2.2.2.1 + 1, σ.2.2.2.2.2.2.1, σ.2.2.2.2.2.2.2) (S_X0_propLandingIn σ 0)).2.2.2.2.2.2.2)])), (a1, .inl (cI, 6, .inl ((S_X0_dropProp (σ.1, σ.2.1, σ.2.2.1, σ.2.2.2.1, σ.2.2.2.2.1, σ.2.2.2.2.2.1 + 1, σ.2.2.2.2.2.2.1, σ.2.2.2.2.2.2.2) (S_X0_propLandingIn σ 0)).1))), (a2, .inl (cI, 6, .inl ((S_X0_dropProp (σ.1, σ.2.1, σ.2.2.1, σ.2.2.2.1, σ.2.2.2.2.1, σ.2.2.2.2.2.1 + 1, σ.2.2.2.2.2.2.1, σ.2.2.2.2.2.2.2) (S_X0_propLandingIn σ 0)).2.1))), (a3, .inl (cI, 6, .inl ((S_X0_dropProp (σ.1, σ.2.1, σ.2.2.1, σ.2.2.2.1, σ.2.2.2.2.1, σ.2.2.2.2.2.1 + 1, σ.2.2.2.2.2.2.1, σ.2.2.2.2.2.2.2) (S_X0_propLandingIn σ 0)).2.2.1)))]) [0, 1, 2, 3] (by decide) rfl
      clear hPc hDc hP1 hD1 hk1 hFc hz1 ht hvm
      generalize H1 = H at hP hS ⊢
      refine lv_aload_n hx hb dX0_slip_40 rfl (lv_at hl 2 rfl) ?_
      refine lv_iload_n hx hb dX0_slip_41 rfl (lv_at hl 0 rfl) ?_
      have hPc := hP.sub (ws' := (wJ cI j a1 a2 a3 (S_X0_dropProp (σ.1, σ.2.1, σ.2.2.1, σ.2.2.2.1, σ.2.2.2.2.1, σ.2.2.2.2.2.1 + 1, σ.2.2.2.2.2.2.1, σ.2.2.2.2.2.2.2) (S_X0_propLandingIn σ 0)))) [0, 1, 2, 3] rfl
      have hDc := hD.sub (ws' := (wJ cI j a1 a2 a3 (S_X0_dropProp (σ.1, σ.2.1, σ.2.2.1, σ.2.2.2.1, σ.2.2.2.2.1, σ.2.2.2.2.2.1 + 1, σ.2.2.2.2.2.2.1, σ.2.2.2.2.2.2.2) (S_X0_propLandingIn σ 0)))) [0, 1, 2, 3] (by decide) rfl
      have hFc := va_free (wc := (wJ cI j a1 a2 a3 (S_X0_dropProp (σ.1, σ.2.1, σ.2.2.1, σ.2.2.2.1, σ.2.2.2.2.1, σ.2.2.2.2.2.1 + 1, σ.2.2.2.2.2.2.1, σ.2.2.2.2.2.2.2) (S_X0_propLandingIn σ 0)))) hD hS hA [0, 1, 2, 3] rfl
      refine va_callv (va_runV (As := [.int (S_X0_propLandingIn σ p0)]) (rest := []) ⟨hx, hb, hml, hown, hts⟩ (c_X0_dropProp l dC dI cI cR _ j a1 a2 a3 (S_X0_dropProp (σ.1, σ.2.1, σ.2.2.1, σ.2.2.2.1, σ.2.2.2.2.1, σ.2.2.2.2.2.1 + 1, σ.2.2.2.2.2.2.1, σ.2.2.2.2.2.2.2) (S_X0_propLandingIn σ 0)) (S_X0_propLandingIn σ p0)) (cwV 1 hts gX0_slip_X0_dropProp rfl rfl rfl (by decide +kernel) ⟨Nat.le_of_ble_eq_true rfl, Nat.le_of_ble_eq_true rfl⟩) ⟨fun a U g mk q => by obtain ⟨q0, q1, qP, qE, qD⟩ := q; exact ⟨q0, q1, qP, cE.same (s := U) rfl qE, qD⟩, va_recv hK hP (ci := 0) (q0 := 0) rfl rfl, fun U hU hW => ⟨rfl, by rw [hU], by rw [hU]; exact hPc, hE.warm hW, hDc.weaken (fun _ _ _ _ => trivial)⟩⟩ rfl rfl hl.1 rfl (lv_room (Nat.le_of_ble_eq_true rfl)) dX0_slip_42 ⟨Nat.zero_le _, Nat.zero_le _⟩) hS (fun q _ h => hFc q h) hFc (fun u t H1 locs ht hvm h_42 hB hz1 hk1 hS => ?_)
      obtain ⟨hP1, -, hD1⟩ := hB
      rw [ht] at hP1
      obtain ⟨hP, hD⟩ := va_join (wr := []) (w1 := (wJ cI j a1 a2 a3 (S_X0_dropProp (S_X0_dropProp (σ.1, σ.2.1, σ.2.2.1, σ.2.2.2.1, σ.2.2.2.2.1, σ.2.2.2.2.2.1 + 1, σ.2.2.2.2.2.2.1, σ.2.2.2.2.2.2.2) (S_X0_propLandingIn σ 0)) (S_X0_propLandingIn σ p0)))) hP hD [0, 1, 2, 3] [] rfl rfl (by decide) (by decide) hk1 hFc hP1 hD1
      have hP := hP.sub (ws' := [(j, .inr (0, [.ref a1, .ref a2, .ref a3, .int ((S_X0_dropProp (S_X0_dropProp (σ.1, σ.2.1, σ.2.2.1, σ.2.2.2.1, σ.2.2.2.2.1, σ.2.2.2.2.2.1 + 1, σ.2.2.2.2.2.2.1, σ.2.2.2.2.2.2.2) (S_X0_propLandingIn σ 0)) (S_X0_propLandingIn σ p0)).2.2.2.1), .int ((S_X0_dropProp (S_X0_dropProp (σ.1, σ.2.1, σ.2.2.1, σ.2.2.2.1, σ.2.2.2.2.1, σ.2.2.2.2.2.1 + 1, σ.2.2.2.2.2.2.1, σ.2.2.2.2.2.2.2) (S_X0_propLandingIn σ 0)) (S_X0_propLandingIn σ p0)).2.2.2.2.1), .int ((S_X0_dropProp (S_X0_dropProp (σ.1, σ.2.1, σ.2.2.1, σ.2.2.2.1, σ.2.2.2.2.1, σ.2.2.2.2.2.1 + 1, σ.2.2.2.2.2.2.1, σ.2.2.2.2.2.2.2) (S_X0_propLandingIn σ 0)) (S_X0_propLandingIn σ p0)).2.2.2.2.2.1), .int ((S_X0_dropProp (S_X0_dropProp (σ.1, σ.2.1, σ.2.2.1, σ.2.2.2.1, σ.2.2.2.2.1, σ.2.2.2.2.2.1 + 1, σ.2.2.2.2.2.2.1, σ.2.2.2.2.2.2.2) (S_X0_propLandingIn σ 0)) (S_X0_propLandingIn σ p0)).2.2.2.2.2.2.1), .double ((S_X0_dropProp (S_X0_dropProp (σ.1, σ.2.1, σ.2.2.1, σ.2.2.2.1, σ.2.2.2.2.1, σ.2.2.2.2.2.1 + 1, σ.2.2.2.2.2.2.1, σ.2.2.2.2.2.2.2) (S_X0_propLandingIn σ 0)) (S_X0_propLandingIn σ p0)).2.2.2.2.2.2.2)])), (a1, .inl (cI, 6, .inl ((S_X0_dropProp (S_X0_dropProp (σ.1, σ.2.1, σ.2.2.1, σ.2.2.2.1, σ.2.2.2.2.1, σ.2.2.2.2.2.1 + 1, σ.2.2.2.2.2.2.1, σ.2.2.2.2.2.2.2) (S_X0_propLandingIn σ 0)) (S_X0_propLandingIn σ p0)).1))), (a2, .inl (cI, 6, .inl ((S_X0_dropProp (S_X0_dropProp (σ.1, σ.2.1, σ.2.2.1, σ.2.2.2.1, σ.2.2.2.2.1, σ.2.2.2.2.2.1 + 1, σ.2.2.2.2.2.2.1, σ.2.2.2.2.2.2.2) (S_X0_propLandingIn σ 0)) (S_X0_propLandingIn σ p0)).2.1))), (a3, .inl (cI, 6, .inl ((S_X0_dropProp (S_X0_dropProp (σ.1, σ.2.1, σ.2.2.1, σ.2.2.2.1, σ.2.2.2.2.1, σ.2.2.2.2.2.1 + 1, σ.2.2.2.2.2.2.1, σ.2.2.2.2.2.2.2) (S_X0_propLandingIn σ 0)) (S_X0_propLandingIn σ p0)).2.2.1)))]) [0, 1, 2, 3] rfl
      have hD := hD.sub (ws' := [(j, .inr (0, [.ref a1, .ref a2, .ref a3, .int ((S_X0_dropProp (S_X0_dropProp (σ.1, σ.2.1, σ.2.2.1, σ.2.2.2.1, σ.2.2.2.2.1, σ.2.2.2.2.2.1 + 1, σ.2.2.2.2.2.2.1, σ.2.2.2.2.2.2.2) (S_X0_propLandingIn σ 0)) (S_X0_propLandingIn σ p0)).2.2.2.1), .int ((S_X0_dropProp (S_X0_dropProp (σ.1, σ.2.1, σ.2.2.1, σ.2.2.2.1, σ.2.2.2.2.1, σ.2.2.2.2.2.1 + 1, σ.2.2.2.2.2.2.1, σ.2.2.2.2.2.2.2) (S_X0_propLandingIn σ 0)) (S_X0_propLandingIn σ p0)).2.2.2.2.1), .int ((S_X0_dropProp (S_X0_dropProp (σ.1, σ.2.1, σ.2.2.1, σ.2.2.2.1, σ.2.2.2.2.1, σ.2.2.2.2.2.1 + 1, σ.2.2.2.2.2.2.1, σ.2.2.2.2.2.2.2) (S_X0_propLandingIn σ 0)) (S_X0_propLandingIn σ p0)).2.2.2.2.2.1), .int ((S_X0_dropProp (S_X0_dropProp (σ.1, σ.2.1, σ.2.2.1, σ.2.2.2.1, σ.2.2.2.2.1, σ.2.2.2.2.2.1 + 1, σ.2.2.2.2.2.2.1, σ.2.2.2.2.2.2.2) (S_X0_propLandingIn σ 0)) (S_X0_propLandingIn σ p0)).2.2.2.2.2.2.1), .double ((S_X0_dropProp (S_X0_dropProp (σ.1, σ.2.1, σ.2.2.1, σ.2.2.2.1, σ.2.2.2.2.1, σ.2.2.2.2.2.1 + 1, σ.2.2.2.2.2.2.1, σ.2.2.2.2.2.2.2) (S_X0_propLandingIn σ 0)) (S_X0_propLandingIn σ p0)).2.2.2.2.2.2.2)])), (a1, .inl (cI, 6, .inl ((S_X0_dropProp (S_X0_dropProp (σ.1, σ.2.1, σ.2.2.1, σ.2.2.2.1, σ.2.2.2.2.1, σ.2.2.2.2.2.1 + 1, σ.2.2.2.2.2.2.1, σ.2.2.2.2.2.2.2) (S_X0_propLandingIn σ 0)) (S_X0_propLandingIn σ p0)).1))), (a2, .inl (cI, 6, .inl ((S_X0_dropProp (S_X0_dropProp (σ.1, σ.2.1, σ.2.2.1, σ.2.2.2.1, σ.2.2.2.2.1, σ.2.2.2.2.2.1 + 1, σ.2.2.2.2.2.2.1, σ.2.2.2.2.2.2.2) (S_X0_propLandingIn σ 0)) (S_X0_propLandingIn σ p0)).2.1))), (a3, .inl (cI, 6, .inl ((S_X0_dropProp (S_X0_dropProp (σ.1, σ.2.1, σ.2.2.1, σ.2.2.2.1, σ.2.2.2.2.1, σ.2.2.2.2.2.1 + 1, σ.2.2.2.2.2.2.1, σ.2.2.2.2.2.2.2) (S_X0_propLandingIn σ 0)) (S_X0_propLandingIn σ p0)).2.2.1)))]) [0, 1, 2, 3] (by decide) rfl
      clear hPc hDc hP1 hD1 hk1 hFc hz1 ht hvm
      generalize H1 = H at hP hS ⊢
      have e9 : S_X0_slip σ p0 = (S_X0_dropProp (S_X0_dropProp (σ.1, σ.2.1, σ.2.2.1, σ.2.2.2.1, σ.2.2.2.2.1, σ.2.2.2.2.2.1 + 1, σ.2.2.2.2.2.2.1, σ.2.2.2.2.2.2.2) (S_X0_propLandingIn σ 0)) (S_X0_propLandingIn σ p0)) := by simp only [S_X0_slip, if_neg c_7, if_neg c_32]
      exact W.vret hx hb hr (fun t ht hW => ⟨⟨(), rfl, trivial, by rw [ht, e9]; exact hP, hE.warm hW, by rw [e9]; exact hD⟩, hS.F ht⟩) hS.2.2 dX0_slip_45
def S_X0_tire (σ : JS) (p0 : Int32) (p1 : Int32) : JS := (if p0 = (-1) then (if 0 ≤ (Op.cmpValue (FP.dcmp (FP.dsub σ.2.2.2.2.2.2.2 4598175219545276416) FP.dconst0) CmpOp.g) then (σ.1, σ.2.1, σ.2.2.1, σ.2.2.2.1, σ.2.2.2.2.1, σ.2.2.2.2.2.1, σ.2.2.2.2.2.2.1, FP.dsub σ.2.2.2.2.2.2.2 4598175219545276416) else (σ.1, σ.2.1, σ.2.2.1, σ.2.2.2.1, σ.2.2.2.2.1, σ.2.2.2.2.2.1, σ.2.2.2.2.2.2.1, FP.dconst0)) else (if 0 ≤ (Op.cmpValue (FP.dcmp (FP.dadd σ.2.2.2.2.2.2.2 (FP.dmul (FP.i2d p1) 4593671619917905920)) FP.dconst0) CmpOp.g) then (σ.1, σ.2.1, σ.2.2.1, σ.2.2.2.1, σ.2.2.2.2.1, σ.2.2.2.2.2.1, σ.2.2.2.2.2.2.1, FP.dadd σ.2.2.2.2.2.2.2 (FP.dmul (FP.i2d p1) 4593671619917905920)) else (σ.1, σ.2.1, σ.2.2.1, σ.2.2.2.1, σ.2.2.2.2.1, σ.2.2.2.2.2.1, σ.2.2.2.2.2.2.1, FP.dconst0)))
set_option maxHeartbeats 4000000 in
set_option maxRecDepth 100000 in
theorem c_X0_tire (l : Launch) (dC : Nat → ClassId) (dI : Nat → Nat → Nat) (cI cR : ClassId) (sz : Nat) (j a1 a2 a3 : Nat) (σ : JS) (p0 : Int32) (p1 : Int32) (hT : tOK σ.2.2.2.2.2.2.2 p1) : Met l yX0_tire wsX0_tire ({ frames := 0, cells := 0, slots := 0, locals := 0 }) (va_Pc [.ref j, .int p0, .int p1] (fun U => U.heap.size = sz ∧ va_P (dC, dI) vwCl (wJ cI j a1 a2 a3 σ) U.heap ∧ cE (dC, dI) cI cR U ∧ va_D (fun _ => True) (wJ cI j a1 a2 a3 σ))) (va_Qv (fun _ : Unit => True) (fun (_ : Unit) t => va_P (dC, dI) vwCl (wJ cI j a1 a2 a3 (S_X0_tire σ p0 p1)) t.heap ∧ cE (dC, dI) cI cR t ∧ va_D (va_A (wJ cI j a1 a2 a3 σ) sz) (wJ cI j a1 a2 a3 (S_X0_tire σ p0 p1))) (va_A (wJ cI j a1 a2 a3 σ) sz)) 0 0 (va_A (wJ cI j a1 a2 a3 σ) sz) := by
  refine Met.ofW (cc := cX0_tire) (maxL := 5) (ret := none) (by decide) rfl ?_
  intro p e s m args below meth c s₁ B hml hv
  obtain ⟨rfl, hsz, hP, hE, hD0⟩ := hv
  have hK := hE.1
  have hx := B.exec
  have hb := B.bytes
  have hr := B.returns
  have hts := atoms_spec (ws := wsX0_tire) B.pre
  have hown : s.vm.findClass RX0 = some m.cls := findClass_of_methodNamed B.named
  have hlocks := B.notSynchronized
  subst hsz
  have hD := hD0.self (sz := s.heap.size)
  generalize hAe : va_A (wJ cI j a1 a2 a3 σ) s.heap.size = A at hD ⊢
  have hA : ∀ q : Nat, s.heap.size ≤ q → A q := fun q h => by rw [← hAe]; exact Or.inr h
  have hS : va_S A s.heap s.heap [] := va_S.rf
  have hP : va_P (dC, dI) vwCl [(j, .inr (0, [.ref a1, .ref a2, .ref a3, .int σ.2.2.2.1, .int σ.2.2.2.2.1, .int σ.2.2.2.2.2.1, .int σ.2.2.2.2.2.2.1, .double σ.2.2.2.2.2.2.2])), (a1, .inl (cI, 6, .inl σ.1)), (a2, .inl (cI, 6, .inl σ.2.1)), (a3, .inl (cI, 6, .inl σ.2.2.1))] s.heap := hP
  have hD : va_D A [(j, .inr (0, [.ref a1, .ref a2, .ref a3, .int σ.2.2.2.1, .int σ.2.2.2.2.1, .int σ.2.2.2.2.2.1, .int σ.2.2.2.2.2.2.1, .double σ.2.2.2.2.2.2.2])), (a1, .inl (cI, 6, .inl σ.1)), (a2, .inl (cI, 6, .inl σ.2.1)), (a3, .inl (cI, 6, .inl σ.2.2.1))] := hD
  have hl := lv_entry ([.ref j, .int p0, .int p1]) (n := 5) (Nat.le_of_ble_eq_true rfl)
  rw [lg_entry_eq]
  generalize (lg_sl ([.ref j, .int p0, .int p1]) ++ List.replicate (5 - (lg_sl ([.ref j, .int p0, .int p1])).length) Slot.unset).toArray = ls at hl ⊢
  have hl : lv_has ls 5 [(0, .ref j), (1, .int p0), (2, .int p1)] := hl
  have q_0 := hts (.fieldLink RX0 28 "Cascadecourt$Juggler" "tiredness" "D") (by decide +kernel)
  have in_X0 : ∀ w ∈ wsX00, w ∈ wsX0_tire := by decide +kernel
  have q_1 := hts (.constantDouble RX0 84 (4593671619917905920)) (by decide +kernel)
  have q_2 := hts (.constantDouble RX0 82 (4598175219545276416)) (by decide +kernel)
  refine lv_iload_n hx hb dX0_tire_0 rfl (lv_at hl 1 rfl) ?_
  refine lv_iconst (v := (-1)) hx hb dX0_tire_1 (by decide) ?_
  refine lv_icmp_ne (tgt := 16) hx hb dX0_tire_2 (by decide) (fun c_2 => ?_) (fun c_2 => ?_)
  · refine lv_aload_n hx hb dX0_tire_16 rfl (lv_at hl 0 rfl) ?_
    refine va_get (D := (dC, dI)) (ci := 0) (v := .double σ.2.2.2.2.2.2.2) (C := RX0) (T := TX0) (N := 8) hx hb hts in_X0 hown hK hP 0 rfl rfl 7 (by decide) q_0 (fun _ h9 => h9) rfl dX0_tire_17 ?_
    refine lv_iload_n hx hb dX0_tire_20 rfl (lv_at hl 2 rfl) ?_
    refine lv_i2d hx hb dX0_tire_21 ?_
    refine lv_ldc2d hx hb hown q_1 dX0_tire_22 ?_
    refine lv_dmul hx hb dX0_tire_25 hT.2.1 ?_
    refine lv_dadd hx hb dX0_tire_26 hT.2.2 ?_
    refine lv_dstore_n (lv' := [(3, .double (FP.dadd σ.2.2.2.2.2.2.2 (FP.dmul (FP.i2d p1) 4593671619917905920))), (0, .ref j), (1, .int p0), (2, .int p1)]) hx hb dX0_tire_27 rfl hl (by decide) rfl (fun ls hl => ?_)
    refine lv_aload_n hx hb dX0_tire_28 rfl (lv_at hl 1 rfl) ?_
    refine lv_dload_n hx hb dX0_tire_29 rfl (lv_at hl 0 rfl) ?_
    refine lv_dconst0 hx hb dX0_tire_30 ?_
    refine lv_dcmp hx hb dX0_tire_31 ?_
    refine lv_if_ge (tgt := 39) hx hb dX0_tire_32 (by decide) (fun c_32 => ?_) (fun c_32 => ?_)
    · refine lv_dload_n hx hb dX0_tire_39 rfl (lv_at hl 0 rfl) ?_
      refine va_put (D := (dC, dI)) (ci := 0) (v := .double (FP.dadd σ.2.2.2.2.2.2.2 (FP.dmul (FP.i2d p1) 4593671619917905920))) (ty := .double) (C := RX0) (T := TX0) (N := 8) hx hb hts in_X0 tyX0 tyX0_ok nmX0 hown hK hP hD hS 0 rfl rfl 7 (by decide) q_0 (fun _ h9 => h9) rfl (by decide +kernel) rfl rfl (Nat.le_of_ble_eq_true rfl) dX0_tire_40 (fun H locs hP hD hS => ?_)
      have hP : va_P (dC, dI) vwCl [(j, .inr (0, [.ref a1, .ref a2, .ref a3, .int σ.2.2.2.1, .int σ.2.2.2.2.1, .int σ.2.2.2.2.2.1, .int σ.2.2.2.2.2.2.1, .double (FP.dadd σ.2.2.2.2.2.2.2 (FP.dmul (FP.i2d p1) 4593671619917905920))])), (a1, .inl (cI, 6, .inl σ.1)), (a2, .inl (cI, 6, .inl σ.2.1)), (a3, .inl (cI, 6, .inl σ.2.2.1))] H := hP
      have hD : va_D A [(j, .inr (0, [.ref a1, .ref a2, .ref a3, .int σ.2.2.2.1, .int σ.2.2.2.2.1, .int σ.2.2.2.2.2.1, .int σ.2.2.2.2.2.2.1, .double (FP.dadd σ.2.2.2.2.2.2.2 (FP.dmul (FP.i2d p1) 4593671619917905920))])), (a1, .inl (cI, 6, .inl σ.1)), (a2, .inl (cI, 6, .inl σ.2.1)), (a3, .inl (cI, 6, .inl σ.2.2.1))] := hD
      have e9 : S_X0_tire σ p0 p1 = (σ.1, σ.2.1, σ.2.2.1, σ.2.2.2.1, σ.2.2.2.2.1, σ.2.2.2.2.2.1, σ.2.2.2.2.2.2.1, FP.dadd σ.2.2.2.2.2.2.2 (FP.dmul (FP.i2d p1) 4593671619917905920)) := by simp only [S_X0_tire, if_neg c_2, if_pos c_32]
      exact W.vret hx hb hr (fun t ht hW => ⟨⟨(), rfl, trivial, by rw [ht, e9]; exact hP, hE.warm hW, by rw [e9]; exact hD⟩, hS.F ht⟩) hS.2.2 dX0_tire_43
    · refine lv_dconst0 hx hb dX0_tire_35 ?_
      refine lv_goto (tgt := 40) hx hb dX0_tire_36 (by decide) ?_
      refine va_put (D := (dC, dI)) (ci := 0) (v := .double FP.dconst0) (ty := .double) (C := RX0) (T := TX0) (N := 8) hx hb hts in_X0 tyX0 tyX0_ok nmX0 hown hK hP hD hS 0 rfl rfl 7 (by decide) q_0 (fun _ h9 => h9) rfl (by decide +kernel) rfl rfl (Nat.le_of_ble_eq_true rfl) dX0_tire_40 (fun H locs hP hD hS => ?_)
      have hP : va_P (dC, dI) vwCl [(j, .inr (0, [.ref a1, .ref a2, .ref a3, .int σ.2.2.2.1, .int σ.2.2.2.2.1, .int σ.2.2.2.2.2.1, .int σ.2.2.2.2.2.2.1, .double FP.dconst0])), (a1, .inl (cI, 6, .inl σ.1)), (a2, .inl (cI, 6, .inl σ.2.1)), (a3, .inl (cI, 6, .inl σ.2.2.1))] H := hP
      have hD : va_D A [(j, .inr (0, [.ref a1, .ref a2, .ref a3, .int σ.2.2.2.1, .int σ.2.2.2.2.1, .int σ.2.2.2.2.2.1, .int σ.2.2.2.2.2.2.1, .double FP.dconst0])), (a1, .inl (cI, 6, .inl σ.1)), (a2, .inl (cI, 6, .inl σ.2.1)), (a3, .inl (cI, 6, .inl σ.2.2.1))] := hD
      have e9 : S_X0_tire σ p0 p1 = (σ.1, σ.2.1, σ.2.2.1, σ.2.2.2.1, σ.2.2.2.2.1, σ.2.2.2.2.2.1, σ.2.2.2.2.2.2.1, FP.dconst0) := by simp only [S_X0_tire, if_neg c_2, if_neg c_32]
      exact W.vret hx hb hr (fun t ht hW => ⟨⟨(), rfl, trivial, by rw [ht, e9]; exact hP, hE.warm hW, by rw [e9]; exact hD⟩, hS.F ht⟩) hS.2.2 dX0_tire_43
  · refine lv_aload_n hx hb dX0_tire_5 rfl (lv_at hl 0 rfl) ?_
    refine va_get (D := (dC, dI)) (ci := 0) (v := .double σ.2.2.2.2.2.2.2) (C := RX0) (T := TX0) (N := 8) hx hb hts in_X0 hown hK hP 0 rfl rfl 7 (by decide) q_0 (fun _ h9 => h9) rfl dX0_tire_6 ?_
    refine lv_ldc2d hx hb hown q_2 dX0_tire_9 ?_
    refine lv_dsub hx hb dX0_tire_12 hT.1 ?_
    refine lv_goto (tgt := 27) hx hb dX0_tire_13 (by decide) ?_
    refine lv_dstore_n (lv' := [(3, .double (FP.dsub σ.2.2.2.2.2.2.2 4598175219545276416)), (0, .ref j), (1, .int p0), (2, .int p1)]) hx hb dX0_tire_27 rfl hl (by decide) rfl (fun ls hl => ?_)
    refine lv_aload_n hx hb dX0_tire_28 rfl (lv_at hl 1 rfl) ?_
    refine lv_dload_n hx hb dX0_tire_29 rfl (lv_at hl 0 rfl) ?_
    refine lv_dconst0 hx hb dX0_tire_30 ?_
    refine lv_dcmp hx hb dX0_tire_31 ?_
    refine lv_if_ge (tgt := 39) hx hb dX0_tire_32 (by decide) (fun c_32 => ?_) (fun c_32 => ?_)
    · refine lv_dload_n hx hb dX0_tire_39 rfl (lv_at hl 0 rfl) ?_
      refine va_put (D := (dC, dI)) (ci := 0) (v := .double (FP.dsub σ.2.2.2.2.2.2.2 4598175219545276416)) (ty := .double) (C := RX0) (T := TX0) (N := 8) hx hb hts in_X0 tyX0 tyX0_ok nmX0 hown hK hP hD hS 0 rfl rfl 7 (by decide) q_0 (fun _ h9 => h9) rfl (by decide +kernel) rfl rfl (Nat.le_of_ble_eq_true rfl) dX0_tire_40 (fun H locs hP hD hS => ?_)
      have hP : va_P (dC, dI) vwCl [(j, .inr (0, [.ref a1, .ref a2, .ref a3, .int σ.2.2.2.1, .int σ.2.2.2.2.1, .int σ.2.2.2.2.2.1, .int σ.2.2.2.2.2.2.1, .double (FP.dsub σ.2.2.2.2.2.2.2 4598175219545276416)])), (a1, .inl (cI, 6, .inl σ.1)), (a2, .inl (cI, 6, .inl σ.2.1)), (a3, .inl (cI, 6, .inl σ.2.2.1))] H := hP
      have hD : va_D A [(j, .inr (0, [.ref a1, .ref a2, .ref a3, .int σ.2.2.2.1, .int σ.2.2.2.2.1, .int σ.2.2.2.2.2.1, .int σ.2.2.2.2.2.2.1, .double (FP.dsub σ.2.2.2.2.2.2.2 4598175219545276416)])), (a1, .inl (cI, 6, .inl σ.1)), (a2, .inl (cI, 6, .inl σ.2.1)), (a3, .inl (cI, 6, .inl σ.2.2.1))] := hD
      have e9 : S_X0_tire σ p0 p1 = (σ.1, σ.2.1, σ.2.2.1, σ.2.2.2.1, σ.2.2.2.2.1, σ.2.2.2.2.2.1, σ.2.2.2.2.2.2.1, FP.dsub σ.2.2.2.2.2.2.2 4598175219545276416) := by simp only [S_X0_tire, if_pos c_2, if_pos c_32]
      exact W.vret hx hb hr (fun t ht hW => ⟨⟨(), rfl, trivial, by rw [ht, e9]; exact hP, hE.warm hW, by rw [e9]; exact hD⟩, hS.F ht⟩) hS.2.2 dX0_tire_43
    · refine lv_dconst0 hx hb dX0_tire_35 ?_
      refine lv_goto (tgt := 40) hx hb dX0_tire_36 (by decide) ?_
      refine va_put (D := (dC, dI)) (ci := 0) (v := .double FP.dconst0) (ty := .double) (C := RX0) (T := TX0) (N := 8) hx hb hts in_X0 tyX0 tyX0_ok nmX0 hown hK hP hD hS 0 rfl rfl 7 (by decide) q_0 (fun _ h9 => h9) rfl (by decide +kernel) rfl rfl (Nat.le_of_ble_eq_true rfl) dX0_tire_40 (fun H locs hP hD hS => ?_)
      have hP : va_P (dC, dI) vwCl [(j, .inr (0, [.ref a1, .ref a2, .ref a3, .int σ.2.2.2.1, .int σ.2.2.2.2.1, .int σ.2.2.2.2.2.1, .int σ.2.2.2.2.2.2.1, .double FP.dconst0])), (a1, .inl (cI, 6, .inl σ.1)), (a2, .inl (cI, 6, .inl σ.2.1)), (a3, .inl (cI, 6, .inl σ.2.2.1))] H := hP
      have hD : va_D A [(j, .inr (0, [.ref a1, .ref a2, .ref a3, .int σ.2.2.2.1, .int σ.2.2.2.2.1, .int σ.2.2.2.2.2.1, .int σ.2.2.2.2.2.2.1, .double FP.dconst0])), (a1, .inl (cI, 6, .inl σ.1)), (a2, .inl (cI, 6, .inl σ.2.1)), (a3, .inl (cI, 6, .inl σ.2.2.1))] := hD
      have e9 : S_X0_tire σ p0 p1 = (σ.1, σ.2.1, σ.2.2.1, σ.2.2.2.1, σ.2.2.2.2.1, σ.2.2.2.2.2.1, σ.2.2.2.2.2.2.1, FP.dconst0) := by simp only [S_X0_tire, if_pos c_2, if_neg c_32]
      exact W.vret hx hb hr (fun t ht hW => ⟨⟨(), rfl, trivial, by rw [ht, e9]; exact hP, hE.warm hW, by rw [e9]; exact hD⟩, hS.F ht⟩) hS.2.2 dX0_tire_43
theorem t_dropProp (σ : JS) (p : Int32) : (S_X0_dropProp σ p).2.2.2.2.2.2.2 = σ.2.2.2.2.2.2.2 := by
  simp only [S_X0_dropProp]; split <;> rfl
theorem t_slip (σ : JS) (p : Int32) : (S_X0_slip σ p).2.2.2.2.2.2.2 = σ.2.2.2.2.2.2.2 := by
  simp only [S_X0_slip]; repeat' split
  all_goals first | rfl | (simp only [t_dropProp])
theorem t_sendUp (σ : JS) (p q : Int32) : (S_X0_sendUp σ p q).2.2.2.2.2.2.2 = σ.2.2.2.2.2.2.2 := by
  simp only [S_X0_sendUp]; split <;> rfl
def S_X0_throwNow (σ : JS) (p0 : Int32) : Int32 × JS := (if (S_X3_stateBehind (S_X0_state σ) p0) = (-1) then ((-1), ((S_X0_tire (S_X0_slip σ p0) (-1) p0).1, (S_X0_tire (S_X0_slip σ p0) (-1) p0).2.1, (S_X0_tire (S_X0_slip σ p0) (-1) p0).2.2.1, (S_X0_tire (S_X0_slip σ p0) (-1) p0).2.2.2.1, ((S_X0_tire (S_X0_slip σ p0) (-1) p0).2.2.2.2.1) + 1, (S_X0_tire (S_X0_slip σ p0) (-1) p0).2.2.2.2.2.1, ((S_X0_tire (S_X0_slip σ p0) (-1) p0).2.2.2.2.2.2.1) + 1, (S_X0_tire (S_X0_slip σ p0) (-1) p0).2.2.2.2.2.2.2)) else (S_X0_propLandingIn σ 0, ((S_X0_tire (S_X0_sendUp σ (S_X0_propLandingIn σ 0) p0) (S_X0_propLandingIn σ 0) p0).1, (S_X0_tire (S_X0_sendUp σ (S_X0_propLandingIn σ 0) p0) (S_X0_propLandingIn σ 0) p0).2.1, (S_X0_tire (S_X0_sendUp σ (S_X0_propLandingIn σ 0) p0) (S_X0_propLandingIn σ 0) p0).2.2.1, (S_X0_tire (S_X0_sendUp σ (S_X0_propLandingIn σ 0) p0) (S_X0_propLandingIn σ 0) p0).2.2.2.1, ((S_X0_tire (S_X0_sendUp σ (S_X0_propLandingIn σ 0) p0) (S_X0_propLandingIn σ 0) p0).2.2.2.2.1) + 1, (S_X0_tire (S_X0_sendUp σ (S_X0_propLandingIn σ 0) p0) (S_X0_propLandingIn σ 0) p0).2.2.2.2.2.1, ((S_X0_tire (S_X0_sendUp σ (S_X0_propLandingIn σ 0) p0) (S_X0_propLandingIn σ 0) p0).2.2.2.2.2.2.1) + 1, (S_X0_tire (S_X0_sendUp σ (S_X0_propLandingIn σ 0) p0) (S_X0_propLandingIn σ 0) p0).2.2.2.2.2.2.2)))
set_option maxHeartbeats 4000000 in
set_option maxRecDepth 100000 in
theorem c_X0_throwNow (l : Launch) (dC : Nat → ClassId) (dI : Nat → Nat → Nat) (cI cR : ClassId) (sz : Nat) (j a1 a2 a3 : Nat) (σ : JS) (p0 : Int32) (hT : tOK σ.2.2.2.2.2.2.2 p0) : Met l yX0_throwNow wsX0_throwNow ({ frames := 4, cells := 0, slots := 0, locals := 88 }) (va_Pc [.ref j, .int p0] (fun U => U.heap.size = sz ∧ va_P (dC, dI) vwCl (wJ cI j a1 a2 a3 σ) U.heap ∧ cE (dC, dI) cI cR U ∧ va_D (fun _ => True) (wJ cI j a1 a2 a3 σ))) (va_Qi (fun (r : Int32) (_ : Unit) => r = (S_X0_throwNow σ p0).1) (fun (_ : Unit) t => va_P (dC, dI) vwCl (wJ cI j a1 a2 a3 ((S_X0_throwNow σ p0).2)) t.heap ∧ cE (dC, dI) cI cR t ∧ va_D (va_A (wJ cI j a1 a2 a3 σ) sz) (wJ cI j a1 a2 a3 ((S_X0_throwNow σ p0).2))) (va_A (wJ cI j a1 a2 a3 σ) sz)) 0 0 (va_A (wJ cI j a1 a2 a3 σ) sz) := by
  refine Met.ofW (cc := cX0_throwNow) (maxL := 3) (ret := (some .int)) (by decide) rfl ?_
  intro p e s m args below meth c s₁ B hml hv
  obtain ⟨rfl, hsz, hP, hE, hD0⟩ := hv
  have hK := hE.1
  have hx := B.exec
  have hb := B.bytes
  have hr := B.returns
  have hts := atoms_spec (ws := wsX0_throwNow) B.pre
  have hown : s.vm.findClass RX0 = some m.cls := findClass_of_methodNamed B.named
  have hlocks := B.notSynchronized
  subst hsz
  have hD := hD0.self (sz := s.heap.size)
  generalize hAe : va_A (wJ cI j a1 a2 a3 σ) s.heap.size = A at hD ⊢
  have hA : ∀ q : Nat, s.heap.size ≤ q → A q := fun q h => by rw [← hAe]; exact Or.inr h
  have hS : va_S A s.heap s.heap [] := va_S.rf
  have hP : va_P (dC, dI) vwCl [(j, .inr (0, [.ref a1, .ref a2, .ref a3, .int σ.2.2.2.1, .int σ.2.2.2.2.1, .int σ.2.2.2.2.2.1, .int σ.2.2.2.2.2.2.1, .double σ.2.2.2.2.2.2.2])), (a1, .inl (cI, 6, .inl σ.1)), (a2, .inl (cI, 6, .inl σ.2.1)), (a3, .inl (cI, 6, .inl σ.2.2.1))] s.heap := hP
  have hD : va_D A [(j, .inr (0, [.ref a1, .ref a2, .ref a3, .int σ.2.2.2.1, .int σ.2.2.2.2.1, .int σ.2.2.2.2.2.1, .int σ.2.2.2.2.2.2.1, .double σ.2.2.2.2.2.2.2])), (a1, .inl (cI, 6, .inl σ.1)), (a2, .inl (cI, 6, .inl σ.2.1)), (a3, .inl (cI, 6, .inl σ.2.2.1))] := hD
  have hl := lv_entry ([.ref j, .int p0]) (n := 3) (Nat.le_of_ble_eq_true rfl)
  rw [lg_entry_eq]
  generalize (lg_sl ([.ref j, .int p0]) ++ List.replicate (3 - (lg_sl ([.ref j, .int p0])).length) Slot.unset).toArray = ls at hl ⊢
  have hl : lv_has ls 3 [(0, .ref j), (1, .int p0)] := hl
  have q_0 := hts (.initialized RX3) (by decide +kernel)
  have q_1 := hts (.static yX3_stateBehind) (by decide +kernel)
  have q_2 := hts (.fieldLink RX0 25 "Cascadecourt$Juggler" "beat" "I") (by decide +kernel)
  have in_X0 : ∀ w ∈ wsX00, w ∈ wsX0_throwNow := by decide +kernel
  have q_3 := hts (.fieldLink RX0 39 "Cascadecourt$Juggler" "beatsEver" "I") (by decide +kernel)
  refine lv_iconst (v := (-1)) hx hb dX0_throwNow_0 (by decide) ?_
  refine lv_istore_n (lv' := [(2, .int (-1)), (0, .ref j), (1, .int p0)]) hx hb dX0_throwNow_1 rfl hl (by decide) rfl (fun ls hl => ?_)
  refine lv_aload_n hx hb dX0_throwNow_2 rfl (lv_at hl 1 rfl) ?_
  refine vp_callSi (va_Run.run (va_runV (As := []) (rest := []) ⟨hx, hb, hml, hown, hts⟩ (c_X0_state l dC dI cI cR j a1 a2 a3 σ) (cwV 0 hts gX0_throwNow_X0_state rfl rfl rfl (by decide +kernel) ⟨Nat.le_of_ble_eq_true rfl, Nat.le_of_ble_eq_true rfl⟩) ⟨fun a U g mk q => by obtain ⟨q0, qP, qE⟩ := q; exact ⟨q0, qP, cE.same (s := U) rfl qE⟩, va_recv hK hP (ci := 0) (q0 := 0) rfl rfl, fun U hU hW => ⟨rfl, by rw [hU]; exact hP.sub (ws' := (wJ cI j a1 a2 a3 σ)) [0, 1, 2, 3] rfl, hE.warm hW⟩⟩ rfl rfl hl.1 rfl (lv_room (Nat.le_of_ble_eq_true rfl)) dX0_throwNow_3 ⟨Nat.zero_le _, Nat.zero_le _⟩)) (fun r_3 h_3 => ?_)
  subst h_3
  refine lv_iload_n hx hb dX0_throwNow_6 rfl (lv_at hl 2 rfl) ?_
  refine vp_callSi (va_Run.run (va_runSN (As := [.int (S_X0_state σ), .int p0]) (rest := []) ⟨hx, hb, hml, hown, hts⟩ (c_X3_stateBehind l (S_X0_state σ) p0) ⟨va_cnB 2 hts gX0_throwNow_X3_stateBehind_n61 rfl rfl rfl (hE.2 (.methodLinkNest RX0 61 yX3_stateBehind "Cascadecourt") (by decide +kernel)) q_0 (by decide +kernel) ⟨Nat.le_of_ble_eq_true rfl, Nat.le_of_ble_eq_true rfl⟩, q_1, trivial⟩ ⟨fun a U g mk q => q, fun U hU hW => ⟨rfl, trivial⟩⟩ rfl rfl hl.1 rfl (lv_room (Nat.le_of_ble_eq_true rfl)) dX0_throwNow_7 ⟨Nat.zero_le _, Nat.zero_le _⟩)) (fun r_7 h_7 => ?_)
  subst h_7
  refine lv_iconst (v := (-1)) hx hb dX0_throwNow_10 (by decide) ?_
  refine lv_icmp_ne (tgt := 22) hx hb dX0_throwNow_11 (by decide) (fun c_11 => ?_) (fun c_11 => ?_)
  · refine lv_aload_n hx hb dX0_throwNow_22 rfl (lv_at hl 1 rfl) ?_
    refine lv_iconst (v := 0) hx hb dX0_throwNow_23 (by decide) ?_
    refine vp_callSi (va_Run.run (va_runV (As := [.int 0]) (rest := []) ⟨hx, hb, hml, hown, hts⟩ (c_X0_propLandingIn l dC dI cI cR j a1 a2 a3 σ 0) (cwV 1 hts gX0_throwNow_X0_propLandingIn rfl rfl rfl (by decide +kernel) ⟨Nat.le_of_ble_eq_true rfl, Nat.le_of_ble_eq_true rfl⟩) ⟨fun a U g mk q => by obtain ⟨q0, qP, qE⟩ := q; exact ⟨q0, qP, cE.same (s := U) rfl qE⟩, va_recv hK hP (ci := 0) (q0 := 0) rfl rfl, fun U hU hW => ⟨rfl, by rw [hU]; exact hP.sub (ws' := (wJ cI j a1 a2 a3 σ)) [0, 1, 2, 3] rfl, hE.warm hW⟩⟩ rfl rfl hl.1 rfl (lv_room (Nat.le_of_ble_eq_true rfl)) dX0_throwNow_24 ⟨Nat.zero_le _, Nat.zero_le _⟩)) (fun r_24 h_24 => ?_)
    subst h_24
    refine lv_istore_n (lv' := [(2, .int (S_X0_propLandingIn σ 0)), (0, .ref j), (1, .int p0)]) hx hb dX0_throwNow_27 rfl hl (by decide) rfl (fun ls hl => ?_)
    refine lv_aload_n hx hb dX0_throwNow_28 rfl (lv_at hl 1 rfl) ?_
    refine lv_iload_n hx hb dX0_throwNow_29 rfl (lv_at hl 0 rfl) ?_
    refine lv_iload_n hx hb dX0_throwNow_30 rfl (lv_at hl 2 rfl) ?_
    have hPc := hP.sub (ws' := (wJ cI j a1 a2 a3 σ)) [0, 1, 2, 3] rfl
    have hDc := hD.sub (ws' := (wJ cI j a1 a2 a3 σ)) [0, 1, 2, 3] (by decide) rfl
    have hFc := va_free (wc := (wJ cI j a1 a2 a3 σ)) hD hS hA [0, 1, 2, 3] rfl
    refine va_callv (va_runV (As := [.int (S_X0_propLandingIn σ 0), .int p0]) (rest := []) ⟨hx, hb, hml, hown, hts⟩ (c_X0_sendUp l dC dI cI cR _ j a1 a2 a3 σ (S_X0_propLandingIn σ 0) p0) (cwV 2 hts gX0_throwNow_X0_sendUp rfl rfl rfl (by decide +kernel) ⟨Nat.le_of_ble_eq_true rfl, Nat.le_of_ble_eq_true rfl⟩) ⟨fun a U g mk q => by obtain ⟨q0, q1, qP, qE, qD⟩ := q; exact ⟨q0, q1, qP, cE.same (s := U) rfl qE, qD⟩, va_recv hK hP (ci := 0) (q0 := 0) rfl rfl, fun U hU hW => ⟨rfl, by rw [hU], by rw [hU]; exact hPc, hE.warm hW, hDc.weaken (fun _ _ _ _ => trivial)⟩⟩ rfl rfl hl.1 rfl (lv_room (Nat.le_of_ble_eq_true rfl)) dX0_throwNow_31 ⟨Nat.zero_le _, Nat.zero_le _⟩) hS (fun q _ h => hFc q h) hFc (fun u t H1 locs ht hvm h_31 hB hz1 hk1 hS => ?_)
    obtain ⟨hP1, -, hD1⟩ := hB
    rw [ht] at hP1
    obtain ⟨hP, hD⟩ := va_join (wr := []) (w1 := (wJ cI j a1 a2 a3 (S_X0_sendUp σ (S_X0_propLandingIn σ 0) p0))) hP hD [0, 1, 2, 3] [] rfl rfl (by decide) (by decide) hk1 hFc hP1 hD1
    have hP := hP.sub (ws' := [(j, .inr (0, [.ref a1, .ref a2, .ref a3, .int ((S_X0_sendUp σ (S_X0_propLandingIn σ 0) p0).2.2.2.1), .int ((S_X0_sendUp σ (S_X0_propLandingIn σ 0) p0).2.2.2.2.1), .int ((S_X0_sendUp σ (S_X0_propLandingIn σ 0) p0).2.2.2.2.2.1), .int ((S_X0_sendUp σ (S_X0_propLandingIn σ 0) p0).2.2.2.2.2.2.1), .double ((S_X0_sendUp σ (S_X0_propLandingIn σ 0) p0).2.2.2.2.2.2.2)])), (a1, .inl (cI, 6, .inl ((S_X0_sendUp σ (S_X0_propLandingIn σ 0) p0).1))), (a2, .inl (cI, 6, .inl ((S_X0_sendUp σ (S_X0_propLandingIn σ 0) p0).2.1))), (a3, .inl (cI, 6, .inl ((S_X0_sendUp σ (S_X0_propLandingIn σ 0) p0).2.2.1)))]) [0, 1, 2, 3] rfl
    have hD := hD.sub (ws' := [(j, .inr (0, [.ref a1, .ref a2, .ref a3, .int ((S_X0_sendUp σ (S_X0_propLandingIn σ 0) p0).2.2.2.1), .int ((S_X0_sendUp σ (S_X0_propLandingIn σ 0) p0).2.2.2.2.1), .int ((S_X0_sendUp σ (S_X0_propLandingIn σ 0) p0).2.2.2.2.2.1), .int ((S_X0_sendUp σ (S_X0_propLandingIn σ 0) p0).2.2.2.2.2.2.1), .double ((S_X0_sendUp σ (S_X0_propLandingIn σ 0) p0).2.2.2.2.2.2.2)])), (a1, .inl (cI, 6, .inl ((S_X0_sendUp σ (S_X0_propLandingIn σ 0) p0).1))), (a2, .inl (cI, 6, .inl ((S_X0_sendUp σ (S_X0_propLandingIn σ 0) p0).2.1))), (a3, .inl (cI, 6, .inl ((S_X0_sendUp σ (S_X0_propLandingIn σ 0) p0).2.2.1)))]) [0, 1, 2, 3] (by decide) rfl
    clear hPc hDc hP1 hD1 hk1 hFc hz1 ht hvm
    generalize H1 = H at hP hS ⊢
    refine lv_aload_n hx hb dX0_throwNow_34 rfl (lv_at hl 1 rfl) ?_
    refine lv_iload_n hx hb dX0_throwNow_35 rfl (lv_at hl 0 rfl) ?_
    refine lv_iload_n hx hb dX0_throwNow_36 rfl (lv_at hl 2 rfl) ?_
    have hPc := hP.sub (ws' := (wJ cI j a1 a2 a3 (S_X0_sendUp σ (S_X0_propLandingIn σ 0) p0))) [0, 1, 2, 3] rfl
    have hDc := hD.sub (ws' := (wJ cI j a1 a2 a3 (S_X0_sendUp σ (S_X0_propLandingIn σ 0) p0))) [0, 1, 2, 3] (by decide) rfl
    have hFc := va_free (wc := (wJ cI j a1 a2 a3 (S_X0_sendUp σ (S_X0_propLandingIn σ 0) p0))) hD hS hA [0, 1, 2, 3] rfl
    refine va_callv (va_runV (As := [.int (S_X0_propLandingIn σ 0), .int p0]) (rest := []) ⟨hx, hb, hml, hown, hts⟩ (c_X0_tire l dC dI cI cR _ j a1 a2 a3 (S_X0_sendUp σ (S_X0_propLandingIn σ 0) p0) (S_X0_propLandingIn σ 0) p0 (by first | (rw [t_slip]; exact hT) | (rw [t_sendUp]; exact hT))) (cwV 2 hts gX0_throwNow_X0_tire rfl rfl rfl (by decide +kernel) ⟨Nat.le_of_ble_eq_true rfl, Nat.le_of_ble_eq_true rfl⟩) ⟨fun a U g mk q => by obtain ⟨q0, q1, qP, qE, qD⟩ := q; exact ⟨q0, q1, qP, cE.same (s := U) rfl qE, qD⟩, va_recv hK hP (ci := 0) (q0 := 0) rfl rfl, fun U hU hW => ⟨rfl, by rw [hU], by rw [hU]; exact hPc, hE.warm hW, hDc.weaken (fun _ _ _ _ => trivial)⟩⟩ rfl rfl hl.1 rfl (lv_room (Nat.le_of_ble_eq_true rfl)) dX0_throwNow_37 ⟨Nat.zero_le _, Nat.zero_le _⟩) hS (fun q _ h => hFc q h) hFc (fun u t H1 locs ht hvm h_37 hB hz1 hk1 hS => ?_)
    obtain ⟨hP1, -, hD1⟩ := hB
    rw [ht] at hP1
    obtain ⟨hP, hD⟩ := va_join (wr := []) (w1 := (wJ cI j a1 a2 a3 (S_X0_tire (S_X0_sendUp σ (S_X0_propLandingIn σ 0) p0) (S_X0_propLandingIn σ 0) p0))) hP hD [0, 1, 2, 3] [] rfl rfl (by decide) (by decide) hk1 hFc hP1 hD1
    have hP := hP.sub (ws' := [(j, .inr (0, [.ref a1, .ref a2, .ref a3, .int ((S_X0_tire (S_X0_sendUp σ (S_X0_propLandingIn σ 0) p0) (S_X0_propLandingIn σ 0) p0).2.2.2.1), .int ((S_X0_tire (S_X0_sendUp σ (S_X0_propLandingIn σ 0) p0) (S_X0_propLandingIn σ 0) p0).2.2.2.2.1), .int ((S_X0_tire (S_X0_sendUp σ (S_X0_propLandingIn σ 0) p0) (S_X0_propLandingIn σ 0) p0).2.2.2.2.2.1), .int ((S_X0_tire (S_X0_sendUp σ (S_X0_propLandingIn σ 0) p0) (S_X0_propLandingIn σ 0) p0).2.2.2.2.2.2.1), .double ((S_X0_tire (S_X0_sendUp σ (S_X0_propLandingIn σ 0) p0) (S_X0_propLandingIn σ 0) p0).2.2.2.2.2.2.2)])), (a1, .inl (cI, 6, .inl ((S_X0_tire (S_X0_sendUp σ (S_X0_propLandingIn σ 0) p0) (S_X0_propLandingIn σ 0) p0).1))), (a2, .inl (cI, 6, .inl ((S_X0_tire (S_X0_sendUp σ (S_X0_propLandingIn σ 0) p0) (S_X0_propLandingIn σ 0) p0).2.1))), (a3, .inl (cI, 6, .inl ((S_X0_tire (S_X0_sendUp σ (S_X0_propLandingIn σ 0) p0) (S_X0_propLandingIn σ 0) p0).2.2.1)))]) [0, 1, 2, 3] rfl
    have hD := hD.sub (ws' := [(j, .inr (0, [.ref a1, .ref a2, .ref a3, .int ((S_X0_tire (S_X0_sendUp σ (S_X0_propLandingIn σ 0) p0) (S_X0_propLandingIn σ 0) p0).2.2.2.1), .int ((S_X0_tire (S_X0_sendUp σ (S_X0_propLandingIn σ 0) p0) (S_X0_propLandingIn σ 0) p0).2.2.2.2.1), .int ((S_X0_tire (S_X0_sendUp σ (S_X0_propLandingIn σ 0) p0) (S_X0_propLandingIn σ 0) p0).2.2.2.2.2.1), .int ((S_X0_tire (S_X0_sendUp σ (S_X0_propLandingIn σ 0) p0) (S_X0_propLandingIn σ 0) p0).2.2.2.2.2.2.1), .double ((S_X0_tire (S_X0_sendUp σ (S_X0_propLandingIn σ 0) p0) (S_X0_propLandingIn σ 0) p0).2.2.2.2.2.2.2)])), (a1, .inl (cI, 6, .inl ((S_X0_tire (S_X0_sendUp σ (S_X0_propLandingIn σ 0) p0) (S_X0_propLandingIn σ 0) p0).1))), (a2, .inl (cI, 6, .inl ((S_X0_tire (S_X0_sendUp σ (S_X0_propLandingIn σ 0) p0) (S_X0_propLandingIn σ 0) p0).2.1))), (a3, .inl (cI, 6, .inl ((S_X0_tire (S_X0_sendUp σ (S_X0_propLandingIn σ 0) p0) (S_X0_propLandingIn σ 0) p0).2.2.1)))]) [0, 1, 2, 3] (by decide) rfl
    clear hPc hDc hP1 hD1 hk1 hFc hz1 ht hvm
    generalize H1 = H at hP hS ⊢
    refine lv_aload_n hx hb dX0_throwNow_40 rfl (lv_at hl 1 rfl) ?_
    refine lv_dup hx hb dX0_throwNow_41 rfl ?_
    refine va_get (D := (dC, dI)) (ci := 0) (v := .int ((S_X0_tire (S_X0_sendUp σ (S_X0_propLandingIn σ 0) p0) (S_X0_propLandingIn σ 0) p0).2.2.2.2.1)) (C := RX0) (T := TX0) (N := 8) hx hb hts in_X0 hown hK hP 0 rfl rfl 4 (by decide) q_2 (fun _ h9 => h9) rfl dX0_throwNow_42 ?_
    refine lv_iconst (v := 1) hx hb dX0_throwNow_45 (by decide) ?_
    refine lv_iadd hx hb dX0_throwNow_46 ?_
    refine va_put (D := (dC, dI)) (ci := 0) (v := .int (((S_X0_tire (S_X0_sendUp σ (S_X0_propLandingIn σ 0) p0) (S_X0_propLandingIn σ 0) p0).2.2.2.2.1) + 1)) (ty := .int) (C := RX0) (T := TX0) (N := 8) hx hb hts in_X0 tyX0 tyX0_ok nmX0 hown hK hP hD hS 0 rfl rfl 4 (by decide) q_2 (fun _ h9 => h9) rfl (by decide +kernel) rfl rfl (Nat.le_of_ble_eq_true rfl) dX0_throwNow_47 (fun H locs hP hD hS => ?_)
    have hP : va_P (dC, dI) vwCl [(j, .inr (0, [.ref a1, .ref a2, .ref a3, .int ((S_X0_tire (S_X0_sendUp σ (S_X0_propLandingIn σ 0) p0) (S_X0_propLandingIn σ 0) p0).2.2.2.1), .int (((S_X0_tire (S_X0_sendUp σ (S_X0_propLandingIn σ 0) p0) (S_X0_propLandingIn σ 0) p0).2.2.2.2.1) + 1), .int ((S_X0_tire (S_X0_sendUp σ (S_X0_propLandingIn σ 0) p0) (S_X0_propLandingIn σ 0) p0).2.2.2.2.2.1), .int ((S_X0_tire (S_X0_sendUp σ (S_X0_propLandingIn σ 0) p0) (S_X0_propLandingIn σ 0) p0).2.2.2.2.2.2.1), .double ((S_X0_tire (S_X0_sendUp σ (S_X0_propLandingIn σ 0) p0) (S_X0_propLandingIn σ 0) p0).2.2.2.2.2.2.2)])), (a1, .inl (cI, 6, .inl ((S_X0_tire (S_X0_sendUp σ (S_X0_propLandingIn σ 0) p0) (S_X0_propLandingIn σ 0) p0).1))), (a2, .inl (cI, 6, .inl ((S_X0_tire (S_X0_sendUp σ (S_X0_propLandingIn σ 0) p0) (S_X0_propLandingIn σ 0) p0).2.1))), (a3, .inl (cI, 6, .inl ((S_X0_tire (S_X0_sendUp σ (S_X0_propLandingIn σ 0) p0) (S_X0_propLandingIn σ 0) p0).2.2.1)))] H := hP
    have hD : va_D A [(j, .inr (0, [.ref a1, .ref a2, .ref a3, .int ((S_X0_tire (S_X0_sendUp σ (S_X0_propLandingIn σ 0) p0) (S_X0_propLandingIn σ 0) p0).2.2.2.1), .int (((S_X0_tire (S_X0_sendUp σ (S_X0_propLandingIn σ 0) p0) (S_X0_propLandingIn σ 0) p0).2.2.2.2.1) + 1), .int ((S_X0_tire (S_X0_sendUp σ (S_X0_propLandingIn σ 0) p0) (S_X0_propLandingIn σ 0) p0).2.2.2.2.2.1), .int ((S_X0_tire (S_X0_sendUp σ (S_X0_propLandingIn σ 0) p0) (S_X0_propLandingIn σ 0) p0).2.2.2.2.2.2.1), .double ((S_X0_tire (S_X0_sendUp σ (S_X0_propLandingIn σ 0) p0) (S_X0_propLandingIn σ 0) p0).2.2.2.2.2.2.2)])), (a1, .inl (cI, 6, .inl ((S_X0_tire (S_X0_sendUp σ (S_X0_propLandingIn σ 0) p0) (S_X0_propLandingIn σ 0) p0).1))), (a2, .inl (cI, 6, .inl ((S_X0_tire (S_X0_sendUp σ (S_X0_propLandingIn σ 0) p0) (S_X0_propLandingIn σ 0) p0).2.1))), (a3, .inl (cI, 6, .inl ((S_X0_tire (S_X0_sendUp σ (S_X0_propLandingIn σ 0) p0) (S_X0_propLandingIn σ 0) p0).2.2.1)))] := hD
    refine lv_aload_n hx hb dX0_throwNow_50 rfl (lv_at hl 1 rfl) ?_
    refine lv_dup hx hb dX0_throwNow_51 rfl ?_
    refine va_get (D := (dC, dI)) (ci := 0) (v := .int ((S_X0_tire (S_X0_sendUp σ (S_X0_propLandingIn σ 0) p0) (S_X0_propLandingIn σ 0) p0).2.2.2.2.2.2.1)) (C := RX0) (T := TX0) (N := 8) hx hb hts in_X0 hown hK hP 0 rfl rfl 6 (by decide) q_3 (fun _ h9 => h9) rfl dX0_throwNow_52 ?_
    refine lv_iconst (v := 1) hx hb dX0_throwNow_55 (by decide) ?_
    refine lv_iadd hx hb dX0_throwNow_56 ?_
    refine va_put (D := (dC, dI)) (ci := 0) (v := .int (((S_X0_tire (S_X0_sendUp σ (S_X0_propLandingIn σ 0) p0) (S_X0_propLandingIn σ 0) p0).2.2.2.2.2.2.1) + 1)) (ty := .int) (C := RX0) (T := TX0) (N := 8) hx hb hts in_X0 tyX0 tyX0_ok nmX0 hown hK hP hD hS 0 rfl rfl 6 (by decide) q_3 (fun _ h9 => h9) rfl (by decide +kernel) rfl rfl (Nat.le_of_ble_eq_true rfl) dX0_throwNow_57 (fun H locs hP hD hS => ?_)
    have hP : va_P (dC, dI) vwCl [(j, .inr (0, [.ref a1, .ref a2, .ref a3, .int ((S_X0_tire (S_X0_sendUp σ (S_X0_propLandingIn σ 0) p0) (S_X0_propLandingIn σ 0) p0).2.2.2.1), .int (((S_X0_tire (S_X0_sendUp σ (S_X0_propLandingIn σ 0) p0) (S_X0_propLandingIn σ 0) p0).2.2.2.2.1) + 1), .int ((S_X0_tire (S_X0_sendUp σ (S_X0_propLandingIn σ 0) p0) (S_X0_propLandingIn σ 0) p0).2.2.2.2.2.1), .int (((S_X0_tire (S_X0_sendUp σ (S_X0_propLandingIn σ 0) p0) (S_X0_propLandingIn σ 0) p0).2.2.2.2.2.2.1) + 1), .double ((S_X0_tire (S_X0_sendUp σ (S_X0_propLandingIn σ 0) p0) (S_X0_propLandingIn σ 0) p0).2.2.2.2.2.2.2)])), (a1, .inl (cI, 6, .inl ((S_X0_tire (S_X0_sendUp σ (S_X0_propLandingIn σ 0) p0) (S_X0_propLandingIn σ 0) p0).1))), (a2, .inl (cI, 6, .inl ((S_X0_tire (S_X0_sendUp σ (S_X0_propLandingIn σ 0) p0) (S_X0_propLandingIn σ 0) p0).2.1))), (a3, .inl (cI, 6, .inl ((S_X0_tire (S_X0_sendUp σ (S_X0_propLandingIn σ 0) p0) (S_X0_propLandingIn σ 0) p0).2.2.1)))] H := hP
    have hD : va_D A [(j, .inr (0, [.ref a1, .ref a2, .ref a3, .int ((S_X0_tire (S_X0_sendUp σ (S_X0_propLandingIn σ 0) p0) (S_X0_propLandingIn σ 0) p0).2.2.2.1), .int (((S_X0_tire (S_X0_sendUp σ (S_X0_propLandingIn σ 0) p0) (S_X0_propLandingIn σ 0) p0).2.2.2.2.1) + 1), .int ((S_X0_tire (S_X0_sendUp σ (S_X0_propLandingIn σ 0) p0) (S_X0_propLandingIn σ 0) p0).2.2.2.2.2.1), .int (((S_X0_tire (S_X0_sendUp σ (S_X0_propLandingIn σ 0) p0) (S_X0_propLandingIn σ 0) p0).2.2.2.2.2.2.1) + 1), .double ((S_X0_tire (S_X0_sendUp σ (S_X0_propLandingIn σ 0) p0) (S_X0_propLandingIn σ 0) p0).2.2.2.2.2.2.2)])), (a1, .inl (cI, 6, .inl ((S_X0_tire (S_X0_sendUp σ (S_X0_propLandingIn σ 0) p0) (S_X0_propLandingIn σ 0) p0).1))), (a2, .inl (cI, 6, .inl ((S_X0_tire (S_X0_sendUp σ (S_X0_propLandingIn σ 0) p0) (S_X0_propLandingIn σ 0) p0).2.1))), (a3, .inl (cI, 6, .inl ((S_X0_tire (S_X0_sendUp σ (S_X0_propLandingIn σ 0) p0) (S_X0_propLandingIn σ 0) p0).2.2.1)))] := hD
    refine lv_iload_n hx hb dX0_throwNow_60 rfl (lv_at hl 0 rfl) ?_
    have e9 : S_X0_throwNow σ p0 = (S_X0_propLandingIn σ 0, ((S_X0_tire (S_X0_sendUp σ (S_X0_propLandingIn σ 0) p0) (S_X0_propLandingIn σ 0) p0).1, (S_X0_tire (S_X0_sendUp σ (S_X0_propLandingIn σ 0) p0) (S_X0_propLandingIn σ 0) p0).2.1, (S_X0_tire (S_X0_sendUp σ (S_X0_propLandingIn σ 0) p0) (S_X0_propLandingIn σ 0) p0).2.2.1, (S_X0_tire (S_X0_sendUp σ (S_X0_propLandingIn σ 0) p0) (S_X0_propLandingIn σ 0) p0).2.2.2.1, ((S_X0_tire (S_X0_sendUp σ (S_X0_propLandingIn σ 0) p0) (S_X0_propLandingIn σ 0) p0).2.2.2.2.1) + 1, (S_X0_tire (S_X0_sendUp σ (S_X0_propLandingIn σ 0) p0) (S_X0_propLandingIn σ 0) p0).2.2.2.2.2.1, ((S_X0_tire (S_X0_sendUp σ (S_X0_propLandingIn σ 0) p0) (S_X0_propLandingIn σ 0) p0).2.2.2.2.2.2.1) + 1, (S_X0_tire (S_X0_sendUp σ (S_X0_propLandingIn σ 0) p0) (S_X0_propLandingIn σ 0) p0).2.2.2.2.2.2.2)) := by simp only [S_X0_throwNow, if_neg c_11]
    exact W.iret (v := (S_X0_propLandingIn σ 0)) hx hb hr (fun t ht hW => ⟨⟨(S_X0_propLandingIn σ 0), (), rfl, by rw [e9], by rw [ht, e9]; exact hP, hE.warm hW, by rw [e9]; exact hD⟩, hS.F ht⟩) hS.2.2 dX0_throwNow_61
  · refine lv_aload_n hx hb dX0_throwNow_14 rfl (lv_at hl 1 rfl) ?_
    refine lv_iload_n hx hb dX0_throwNow_15 rfl (lv_at hl 2 rfl) ?_
    have hPc := hP.sub (ws' := (wJ cI j a1 a2 a3 σ)) [0, 1, 2, 3] rfl
    have hDc := hD.sub (ws' := (wJ cI j a1 a2 a3 σ)) [0, 1, 2, 3] (by decide) rfl
    have hFc := va_free (wc := (wJ cI j a1 a2 a3 σ)) hD hS hA [0, 1, 2, 3] rfl
    refine va_callv (va_runV (As := [.int p0]) (rest := []) ⟨hx, hb, hml, hown, hts⟩ (c_X0_slip l dC dI cI cR _ j a1 a2 a3 σ p0) (cwV 1 hts gX0_throwNow_X0_slip rfl rfl rfl (by decide +kernel) ⟨Nat.le_of_ble_eq_true rfl, Nat.le_of_ble_eq_true rfl⟩) ⟨fun a U g mk q => by obtain ⟨q0, q1, qP, qE, qD⟩ := q; exact ⟨q0, q1, qP, cE.same (s := U) rfl qE, qD⟩, va_recv hK hP (ci := 0) (q0 := 0) rfl rfl, fun U hU hW => ⟨rfl, by rw [hU], by rw [hU]; exact hPc, hE.warm hW, hDc.weaken (fun _ _ _ _ => trivial)⟩⟩ rfl rfl hl.1 rfl (lv_room (Nat.le_of_ble_eq_true rfl)) dX0_throwNow_16 ⟨Nat.zero_le _, Nat.zero_le _⟩) hS (fun q _ h => hFc q h) hFc (fun u t H1 locs ht hvm h_16 hB hz1 hk1 hS => ?_)
    obtain ⟨hP1, -, hD1⟩ := hB
    rw [ht] at hP1
    obtain ⟨hP, hD⟩ := va_join (wr := []) (w1 := (wJ cI j a1 a2 a3 (S_X0_slip σ p0))) hP hD [0, 1, 2, 3] [] rfl rfl (by decide) (by decide) hk1 hFc hP1 hD1
    have hP := hP.sub (ws' := [(j, .inr (0, [.ref a1, .ref a2, .ref a3, .int ((S_X0_slip σ p0).2.2.2.1), .int ((S_X0_slip σ p0).2.2.2.2.1), .int ((S_X0_slip σ p0).2.2.2.2.2.1), .int ((S_X0_slip σ p0).2.2.2.2.2.2.1), .double ((S_X0_slip σ p0).2.2.2.2.2.2.2)])), (a1, .inl (cI, 6, .inl ((S_X0_slip σ p0).1))), (a2, .inl (cI, 6, .inl ((S_X0_slip σ p0).2.1))), (a3, .inl (cI, 6, .inl ((S_X0_slip σ p0).2.2.1)))]) [0, 1, 2, 3] rfl
    have hD := hD.sub (ws' := [(j, .inr (0, [.ref a1, .ref a2, .ref a3, .int ((S_X0_slip σ p0).2.2.2.1), .int ((S_X0_slip σ p0).2.2.2.2.1), .int ((S_X0_slip σ p0).2.2.2.2.2.1), .int ((S_X0_slip σ p0).2.2.2.2.2.2.1), .double ((S_X0_slip σ p0).2.2.2.2.2.2.2)])), (a1, .inl (cI, 6, .inl ((S_X0_slip σ p0).1))), (a2, .inl (cI, 6, .inl ((S_X0_slip σ p0).2.1))), (a3, .inl (cI, 6, .inl ((S_X0_slip σ p0).2.2.1)))]) [0, 1, 2, 3] (by decide) rfl
    clear hPc hDc hP1 hD1 hk1 hFc hz1 ht hvm
    generalize H1 = H at hP hS ⊢
    refine lv_goto (tgt := 34) hx hb dX0_throwNow_19 (by decide) ?_
    refine lv_aload_n hx hb dX0_throwNow_34 rfl (lv_at hl 1 rfl) ?_
    refine lv_iload_n hx hb dX0_throwNow_35 rfl (lv_at hl 0 rfl) ?_
    refine lv_iload_n hx hb dX0_throwNow_36 rfl (lv_at hl 2 rfl) ?_
    have hPc := hP.sub (ws' := (wJ cI j a1 a2 a3 (S_X0_slip σ p0))) [0, 1, 2, 3] rfl
    have hDc := hD.sub (ws' := (wJ cI j a1 a2 a3 (S_X0_slip σ p0))) [0, 1, 2, 3] (by decide) rfl
    have hFc := va_free (wc := (wJ cI j a1 a2 a3 (S_X0_slip σ p0))) hD hS hA [0, 1, 2, 3] rfl
    refine va_callv (va_runV (As := [.int (-1), .int p0]) (rest := []) ⟨hx, hb, hml, hown, hts⟩ (c_X0_tire l dC dI cI cR _ j a1 a2 a3 (S_X0_slip σ p0) (-1) p0 (by first | (rw [t_slip]; exact hT) | (rw [t_sendUp]; exact hT))) (cwV 2 hts gX0_throwNow_X0_tire rfl rfl rfl (by decide +kernel) ⟨Nat.le_of_ble_eq_true rfl, Nat.le_of_ble_eq_true rfl⟩) ⟨fun a U g mk q => by obtain ⟨q0, q1, qP, qE, qD⟩ := q; exact ⟨q0, q1, qP, cE.same (s := U) rfl qE, qD⟩, va_recv hK hP (ci := 0) (q0 := 0) rfl rfl, fun U hU hW => ⟨rfl, by rw [hU], by rw [hU]; exact hPc, hE.warm hW, hDc.weaken (fun _ _ _ _ => trivial)⟩⟩ rfl rfl hl.1 rfl (lv_room (Nat.le_of_ble_eq_true rfl)) dX0_throwNow_37 ⟨Nat.zero_le _, Nat.zero_le _⟩) hS (fun q _ h => hFc q h) hFc (fun u t H1 locs ht hvm h_37 hB hz1 hk1 hS => ?_)
    obtain ⟨hP1, -, hD1⟩ := hB
    rw [ht] at hP1
    obtain ⟨hP, hD⟩ := va_join (wr := []) (w1 := (wJ cI j a1 a2 a3 (S_X0_tire (S_X0_slip σ p0) (-1) p0))) hP hD [0, 1, 2, 3] [] rfl rfl (by decide) (by decide) hk1 hFc hP1 hD1
    have hP := hP.sub (ws' := [(j, .inr (0, [.ref a1, .ref a2, .ref a3, .int ((S_X0_tire (S_X0_slip σ p0) (-1) p0).2.2.2.1), .int ((S_X0_tire (S_X0_slip σ p0) (-1) p0).2.2.2.2.1), .int ((S_X0_tire (S_X0_slip σ p0) (-1) p0).2.2.2.2.2.1), .int ((S_X0_tire (S_X0_slip σ p0) (-1) p0).2.2.2.2.2.2.1), .double ((S_X0_tire (S_X0_slip σ p0) (-1) p0).2.2.2.2.2.2.2)])), (a1, .inl (cI, 6, .inl ((S_X0_tire (S_X0_slip σ p0) (-1) p0).1))), (a2, .inl (cI, 6, .inl ((S_X0_tire (S_X0_slip σ p0) (-1) p0).2.1))), (a3, .inl (cI, 6, .inl ((S_X0_tire (S_X0_slip σ p0) (-1) p0).2.2.1)))]) [0, 1, 2, 3] rfl
    have hD := hD.sub (ws' := [(j, .inr (0, [.ref a1, .ref a2, .ref a3, .int ((S_X0_tire (S_X0_slip σ p0) (-1) p0).2.2.2.1), .int ((S_X0_tire (S_X0_slip σ p0) (-1) p0).2.2.2.2.1), .int ((S_X0_tire (S_X0_slip σ p0) (-1) p0).2.2.2.2.2.1), .int ((S_X0_tire (S_X0_slip σ p0) (-1) p0).2.2.2.2.2.2.1), .double ((S_X0_tire (S_X0_slip σ p0) (-1) p0).2.2.2.2.2.2.2)])), (a1, .inl (cI, 6, .inl ((S_X0_tire (S_X0_slip σ p0) (-1) p0).1))), (a2, .inl (cI, 6, .inl ((S_X0_tire (S_X0_slip σ p0) (-1) p0).2.1))), (a3, .inl (cI, 6, .inl ((S_X0_tire (S_X0_slip σ p0) (-1) p0).2.2.1)))]) [0, 1, 2, 3] (by decide) rfl
    clear hPc hDc hP1 hD1 hk1 hFc hz1 ht hvm
    generalize H1 = H at hP hS ⊢
    refine lv_aload_n hx hb dX0_throwNow_40 rfl (lv_at hl 1 rfl) ?_
    refine lv_dup hx hb dX0_throwNow_41 rfl ?_
    refine va_get (D := (dC, dI)) (ci := 0) (v := .int ((S_X0_tire (S_X0_slip σ p0) (-1) p0).2.2.2.2.1)) (C := RX0) (T := TX0) (N := 8) hx hb hts in_X0 hown hK hP 0 rfl rfl 4 (by decide) q_2 (fun _ h9 => h9) rfl dX0_throwNow_42 ?_
    refine lv_iconst (v := 1) hx hb dX0_throwNow_45 (by decide) ?_
    refine lv_iadd hx hb dX0_throwNow_46 ?_
    refine va_put (D := (dC, dI)) (ci := 0) (v := .int (((S_X0_tire (S_X0_slip σ p0) (-1) p0).2.2.2.2.1) + 1)) (ty := .int) (C := RX0) (T := TX0) (N := 8) hx hb hts in_X0 tyX0 tyX0_ok nmX0 hown hK hP hD hS 0 rfl rfl 4 (by decide) q_2 (fun _ h9 => h9) rfl (by decide +kernel) rfl rfl (Nat.le_of_ble_eq_true rfl) dX0_throwNow_47 (fun H locs hP hD hS => ?_)
    have hP : va_P (dC, dI) vwCl [(j, .inr (0, [.ref a1, .ref a2, .ref a3, .int ((S_X0_tire (S_X0_slip σ p0) (-1) p0).2.2.2.1), .int (((S_X0_tire (S_X0_slip σ p0) (-1) p0).2.2.2.2.1) + 1), .int ((S_X0_tire (S_X0_slip σ p0) (-1) p0).2.2.2.2.2.1), .int ((S_X0_tire (S_X0_slip σ p0) (-1) p0).2.2.2.2.2.2.1), .double ((S_X0_tire (S_X0_slip σ p0) (-1) p0).2.2.2.2.2.2.2)])), (a1, .inl (cI, 6, .inl ((S_X0_tire (S_X0_slip σ p0) (-1) p0).1))), (a2, .inl (cI, 6, .inl ((S_X0_tire (S_X0_slip σ p0) (-1) p0).2.1))), (a3, .inl (cI, 6, .inl ((S_X0_tire (S_X0_slip σ p0) (-1) p0).2.2.1)))] H := hP
    have hD : va_D A [(j, .inr (0, [.ref a1, .ref a2, .ref a3, .int ((S_X0_tire (S_X0_slip σ p0) (-1) p0).2.2.2.1), .int (((S_X0_tire (S_X0_slip σ p0) (-1) p0).2.2.2.2.1) + 1), .int ((S_X0_tire (S_X0_slip σ p0) (-1) p0).2.2.2.2.2.1), .int ((S_X0_tire (S_X0_slip σ p0) (-1) p0).2.2.2.2.2.2.1), .double ((S_X0_tire (S_X0_slip σ p0) (-1) p0).2.2.2.2.2.2.2)])), (a1, .inl (cI, 6, .inl ((S_X0_tire (S_X0_slip σ p0) (-1) p0).1))), (a2, .inl (cI, 6, .inl ((S_X0_tire (S_X0_slip σ p0) (-1) p0).2.1))), (a3, .inl (cI, 6, .inl ((S_X0_tire (S_X0_slip σ p0) (-1) p0).2.2.1)))] := hD
    refine lv_aload_n hx hb dX0_throwNow_50 rfl (lv_at hl 1 rfl) ?_
    refine lv_dup hx hb dX0_throwNow_51 rfl ?_
    refine va_get (D := (dC, dI)) (ci := 0) (v := .int ((S_X0_tire (S_X0_slip σ p0) (-1) p0).2.2.2.2.2.2.1)) (C := RX0) (T := TX0) (N := 8) hx hb hts in_X0 hown hK hP 0 rfl rfl 6 (by decide) q_3 (fun _ h9 => h9) rfl dX0_throwNow_52 ?_
    refine lv_iconst (v := 1) hx hb dX0_throwNow_55 (by decide) ?_
    refine lv_iadd hx hb dX0_throwNow_56 ?_
    refine va_put (D := (dC, dI)) (ci := 0) (v := .int (((S_X0_tire (S_X0_slip σ p0) (-1) p0).2.2.2.2.2.2.1) + 1)) (ty := .int) (C := RX0) (T := TX0) (N := 8) hx hb hts in_X0 tyX0 tyX0_ok nmX0 hown hK hP hD hS 0 rfl rfl 6 (by decide) q_3 (fun _ h9 => h9) rfl (by decide +kernel) rfl rfl (Nat.le_of_ble_eq_true rfl) dX0_throwNow_57 (fun H locs hP hD hS => ?_)
    have hP : va_P (dC, dI) vwCl [(j, .inr (0, [.ref a1, .ref a2, .ref a3, .int ((S_X0_tire (S_X0_slip σ p0) (-1) p0).2.2.2.1), .int (((S_X0_tire (S_X0_slip σ p0) (-1) p0).2.2.2.2.1) + 1), .int ((S_X0_tire (S_X0_slip σ p0) (-1) p0).2.2.2.2.2.1), .int (((S_X0_tire (S_X0_slip σ p0) (-1) p0).2.2.2.2.2.2.1) + 1), .double ((S_X0_tire (S_X0_slip σ p0) (-1) p0).2.2.2.2.2.2.2)])), (a1, .inl (cI, 6, .inl ((S_X0_tire (S_X0_slip σ p0) (-1) p0).1))), (a2, .inl (cI, 6, .inl ((S_X0_tire (S_X0_slip σ p0) (-1) p0).2.1))), (a3, .inl (cI, 6, .inl ((S_X0_tire (S_X0_slip σ p0) (-1) p0).2.2.1)))] H := hP
    have hD : va_D A [(j, .inr (0, [.ref a1, .ref a2, .ref a3, .int ((S_X0_tire (S_X0_slip σ p0) (-1) p0).2.2.2.1), .int (((S_X0_tire (S_X0_slip σ p0) (-1) p0).2.2.2.2.1) + 1), .int ((S_X0_tire (S_X0_slip σ p0) (-1) p0).2.2.2.2.2.1), .int (((S_X0_tire (S_X0_slip σ p0) (-1) p0).2.2.2.2.2.2.1) + 1), .double ((S_X0_tire (S_X0_slip σ p0) (-1) p0).2.2.2.2.2.2.2)])), (a1, .inl (cI, 6, .inl ((S_X0_tire (S_X0_slip σ p0) (-1) p0).1))), (a2, .inl (cI, 6, .inl ((S_X0_tire (S_X0_slip σ p0) (-1) p0).2.1))), (a3, .inl (cI, 6, .inl ((S_X0_tire (S_X0_slip σ p0) (-1) p0).2.2.1)))] := hD
    refine lv_iload_n hx hb dX0_throwNow_60 rfl (lv_at hl 0 rfl) ?_
    have e9 : S_X0_throwNow σ p0 = ((-1), ((S_X0_tire (S_X0_slip σ p0) (-1) p0).1, (S_X0_tire (S_X0_slip σ p0) (-1) p0).2.1, (S_X0_tire (S_X0_slip σ p0) (-1) p0).2.2.1, (S_X0_tire (S_X0_slip σ p0) (-1) p0).2.2.2.1, ((S_X0_tire (S_X0_slip σ p0) (-1) p0).2.2.2.2.1) + 1, (S_X0_tire (S_X0_slip σ p0) (-1) p0).2.2.2.2.2.1, ((S_X0_tire (S_X0_slip σ p0) (-1) p0).2.2.2.2.2.2.1) + 1, (S_X0_tire (S_X0_slip σ p0) (-1) p0).2.2.2.2.2.2.2)) := by simp only [S_X0_throwNow, if_pos c_11]
    exact W.iret (v := (-1)) hx hb hr (fun t ht hW => ⟨⟨(-1), (), rfl, by rw [e9], by rw [ht, e9]; exact hP, hE.warm hW, by rw [e9]; exact hD⟩, hS.F ht⟩) hS.2.2 dX0_throwNow_61
def G_X0_startWith_17 (σ : JS) (p0 : Int32) : Nat → Nat → (Nat → Int32) → (Nat → Int32) → (Nat → Int32) → JS
  | 0, k, g0_0_17, g0_1_17, g0_2_17 => (g0_0_17, g0_1_17, g0_2_17, p0, 0, σ.2.2.2.2.2.1, σ.2.2.2.2.2.2.1, FP.dconst0)
  | mm + 1, k, g0_0_17, g0_1_17, g0_2_17 => G_X0_startWith_17 σ p0 mm (k + 1) (S_X3_setCell 6 g0_0_17 (nI k) (nI k)) (S_X3_setCell 6 g0_1_17 (nI k) 0) (S_X3_setCell 6 g0_2_17 (nI k) 0)
def S_X0_startWith (σ : JS) (p0 : Int32) : JS := G_X0_startWith_17 σ p0 p0.toNatClampNeg 0 σ.1 σ.2.1 σ.2.2.1
set_option maxHeartbeats 4000000 in
set_option maxRecDepth 100000 in
theorem c_X0_startWith (l : Launch) (dC : Nat → ClassId) (dI : Nat → Nat → Nat) (cI cR : ClassId) (sz : Nat) (j a1 a2 a3 : Nat) (σ : JS) (p0 : Int32)  : Met l yX0_startWith wsX0_startWith ({ frames := 1, cells := 0, slots := 0, locals := 22 }) (va_Pc [.ref j, .int p0] (fun U => U.heap.size = sz ∧ va_P (dC, dI) vwCl (wJ cI j a1 a2 a3 σ) U.heap ∧ cE (dC, dI) cI cR U ∧ va_D (fun _ => True) (wJ cI j a1 a2 a3 σ))) (va_Qv (fun _ : Unit => True) (fun (_ : Unit) t => va_P (dC, dI) vwCl (wJ cI j a1 a2 a3 (S_X0_startWith σ p0)) t.heap ∧ cE (dC, dI) cI cR t ∧ va_D (va_A (wJ cI j a1 a2 a3 σ) sz) (wJ cI j a1 a2 a3 (S_X0_startWith σ p0))) (va_A (wJ cI j a1 a2 a3 σ) sz)) 0 0 (va_A (wJ cI j a1 a2 a3 σ) sz) := by
  refine Met.ofW (cc := cX0_startWith) (maxL := 3) (ret := none) (by decide) rfl ?_
  intro p e s m args below meth c s₁ B hml hv
  obtain ⟨rfl, hsz, hP, hE, hD0⟩ := hv
  have hK := hE.1
  have hx := B.exec
  have hb := B.bytes
  have hr := B.returns
  have hts := atoms_spec (ws := wsX0_startWith) B.pre
  have hown : s.vm.findClass RX0 = some m.cls := findClass_of_methodNamed B.named
  have hlocks := B.notSynchronized
  subst hsz
  have hD := hD0.self (sz := s.heap.size)
  generalize hAe : va_A (wJ cI j a1 a2 a3 σ) s.heap.size = A at hD ⊢
  have hA : ∀ q : Nat, s.heap.size ≤ q → A q := fun q h => by rw [← hAe]; exact Or.inr h
  have hS : va_S A s.heap s.heap [] := va_S.rf
  have hP : va_P (dC, dI) vwCl [(j, .inr (0, [.ref a1, .ref a2, .ref a3, .int σ.2.2.2.1, .int σ.2.2.2.2.1, .int σ.2.2.2.2.2.1, .int σ.2.2.2.2.2.2.1, .double σ.2.2.2.2.2.2.2])), (a1, .inl (cI, 6, .inl σ.1)), (a2, .inl (cI, 6, .inl σ.2.1)), (a3, .inl (cI, 6, .inl σ.2.2.1))] s.heap := hP
  have hD : va_D A [(j, .inr (0, [.ref a1, .ref a2, .ref a3, .int σ.2.2.2.1, .int σ.2.2.2.2.1, .int σ.2.2.2.2.2.1, .int σ.2.2.2.2.2.2.1, .double σ.2.2.2.2.2.2.2])), (a1, .inl (cI, 6, .inl σ.1)), (a2, .inl (cI, 6, .inl σ.2.1)), (a3, .inl (cI, 6, .inl σ.2.2.1))] := hD
  have hl := lv_entry ([.ref j, .int p0]) (n := 3) (Nat.le_of_ble_eq_true rfl)
  rw [lg_entry_eq]
  generalize (lg_sl ([.ref j, .int p0]) ++ List.replicate (3 - (lg_sl ([.ref j, .int p0])).length) Slot.unset).toArray = ls at hl ⊢
  have hl : lv_has ls 3 [(0, .ref j), (1, .int p0)] := hl
  have q_0 := hts (.fieldLink RX0 21 "Cascadecourt$Juggler" "props" "I") (by decide +kernel)
  have in_X0 : ∀ w ∈ wsX00, w ∈ wsX0_startWith := by decide +kernel
  have q_1 := hts (.fieldLink RX0 25 "Cascadecourt$Juggler" "beat" "I") (by decide +kernel)
  have q_2 := hts (.fieldLink RX0 28 "Cascadecourt$Juggler" "tiredness" "D") (by decide +kernel)
  have q_3 := hts (.fieldLink RX0 9 "Cascadecourt$Juggler" "landsAt" "[I") (by decide +kernel)
  have q_4 := hts (.initialized RX3) (by decide +kernel)
  have q_5 := hts (.static yX3_setCell) (by decide +kernel)
  have q_6 := hts (.fieldLink RX0 15 "Cascadecourt$Juggler" "flights" "[I") (by decide +kernel)
  have q_7 := hts (.fieldLink RX0 18 "Cascadecourt$Juggler" "drops" "[I") (by decide +kernel)
  refine lv_aload_n hx hb dX0_startWith_0 rfl (lv_at hl 0 rfl) ?_
  refine lv_iload_n hx hb dX0_startWith_1 rfl (lv_at hl 1 rfl) ?_
  refine va_put (D := (dC, dI)) (ci := 0) (v := .int p0) (ty := .int) (C := RX0) (T := TX0) (N := 8) hx hb hts in_X0 tyX0 tyX0_ok nmX0 hown hK hP hD hS 0 rfl rfl 3 (by decide) q_0 (fun _ h9 => h9) rfl (by decide +kernel) rfl rfl (Nat.le_of_ble_eq_true rfl) dX0_startWith_2 (fun H locs hP hD hS => ?_)
  have hP : va_P (dC, dI) vwCl [(j, .inr (0, [.ref a1, .ref a2, .ref a3, .int p0, .int σ.2.2.2.2.1, .int σ.2.2.2.2.2.1, .int σ.2.2.2.2.2.2.1, .double σ.2.2.2.2.2.2.2])), (a1, .inl (cI, 6, .inl σ.1)), (a2, .inl (cI, 6, .inl σ.2.1)), (a3, .inl (cI, 6, .inl σ.2.2.1))] H := hP
  have hD : va_D A [(j, .inr (0, [.ref a1, .ref a2, .ref a3, .int p0, .int σ.2.2.2.2.1, .int σ.2.2.2.2.2.1, .int σ.2.2.2.2.2.2.1, .double σ.2.2.2.2.2.2.2])), (a1, .inl (cI, 6, .inl σ.1)), (a2, .inl (cI, 6, .inl σ.2.1)), (a3, .inl (cI, 6, .inl σ.2.2.1))] := hD
  refine lv_aload_n hx hb dX0_startWith_5 rfl (lv_at hl 0 rfl) ?_
  refine lv_iconst (v := 0) hx hb dX0_startWith_6 (by decide) ?_
  refine va_put (D := (dC, dI)) (ci := 0) (v := .int 0) (ty := .int) (C := RX0) (T := TX0) (N := 8) hx hb hts in_X0 tyX0 tyX0_ok nmX0 hown hK hP hD hS 0 rfl rfl 4 (by decide) q_1 (fun _ h9 => h9) rfl (by decide +kernel) rfl rfl (Nat.le_of_ble_eq_true rfl) dX0_startWith_7 (fun H locs hP hD hS => ?_)
  have hP : va_P (dC, dI) vwCl [(j, .inr (0, [.ref a1, .ref a2, .ref a3, .int p0, .int 0, .int σ.2.2.2.2.2.1, .int σ.2.2.2.2.2.2.1, .double σ.2.2.2.2.2.2.2])), (a1, .inl (cI, 6, .inl σ.1)), (a2, .inl (cI, 6, .inl σ.2.1)), (a3, .inl (cI, 6, .inl σ.2.2.1))] H := hP
  have hD : va_D A [(j, .inr (0, [.ref a1, .ref a2, .ref a3, .int p0, .int 0, .int σ.2.2.2.2.2.1, .int σ.2.2.2.2.2.2.1, .double σ.2.2.2.2.2.2.2])), (a1, .inl (cI, 6, .inl σ.1)), (a2, .inl (cI, 6, .inl σ.2.1)), (a3, .inl (cI, 6, .inl σ.2.2.1))] := hD
  refine lv_aload_n hx hb dX0_startWith_10 rfl (lv_at hl 0 rfl) ?_
  refine lv_dconst0 hx hb dX0_startWith_11 ?_
  refine va_put (D := (dC, dI)) (ci := 0) (v := .double FP.dconst0) (ty := .double) (C := RX0) (T := TX0) (N := 8) hx hb hts in_X0 tyX0 tyX0_ok nmX0 hown hK hP hD hS 0 rfl rfl 7 (by decide) q_2 (fun _ h9 => h9) rfl (by decide +kernel) rfl rfl (Nat.le_of_ble_eq_true rfl) dX0_startWith_12 (fun H locs hP hD hS => ?_)
  have hP : va_P (dC, dI) vwCl [(j, .inr (0, [.ref a1, .ref a2, .ref a3, .int p0, .int 0, .int σ.2.2.2.2.2.1, .int σ.2.2.2.2.2.2.1, .double FP.dconst0])), (a1, .inl (cI, 6, .inl σ.1)), (a2, .inl (cI, 6, .inl σ.2.1)), (a3, .inl (cI, 6, .inl σ.2.2.1))] H := hP
  have hD : va_D A [(j, .inr (0, [.ref a1, .ref a2, .ref a3, .int p0, .int 0, .int σ.2.2.2.2.2.1, .int σ.2.2.2.2.2.2.1, .double FP.dconst0])), (a1, .inl (cI, 6, .inl σ.1)), (a2, .inl (cI, 6, .inl σ.2.1)), (a3, .inl (cI, 6, .inl σ.2.2.1))] := hD
  refine lv_iconst (v := 0) hx hb dX0_startWith_15 (by decide) ?_
  refine lv_istore_n (lv' := [(2, .int 0), (0, .ref j), (1, .int p0)]) hx hb dX0_startWith_16 rfl hl (by decide) rfl (fun ls hl => ?_)
  have hn17 := p_clt p0
  have loop17 : ∀ (mm k : Nat) (g0_0_17 : Nat → Int32) (g0_1_17 : Nat → Int32) (g0_2_17 : Nat → Int32) (H : Heap) (locs : List Loc) (ls : Array Slot), k + mm = p0.toNatClampNeg → G_X0_startWith_17 σ p0 mm k g0_0_17 g0_1_17 g0_2_17 = S_X0_startWith σ p0 → lv_has ls 3 [(2, .int (nI k)), (0, .ref j), (1, .int p0)] → va_P (dC, dI) vwCl [(j, .inr (0, [.ref a1, .ref a2, .ref a3, .int p0, .int 0, .int σ.2.2.2.2.2.1, .int σ.2.2.2.2.2.2.1, .double FP.dconst0])), (a1, .inl (cI, 6, .inl g0_0_17)), (a2, .inl (cI, 6, .inl g0_1_17)), (a3, .inl (cI, 6, .inl g0_2_17))] H → va_D A [(j, .inr (0, [.ref a1, .ref a2, .ref a3, .int p0, .int 0, .int σ.2.2.2.2.2.1, .int σ.2.2.2.2.2.2.1, .double FP.dconst0])), (a1, .inl (cI, 6, .inl g0_0_17)), (a2, .inl (cI, 6, .inl g0_1_17)), (a3, .inl (cI, 6, .inl g0_2_17))] → va_S A s.heap H locs → W p l e (headSpec wsX0_startWith ({ frames := 1, cells := 0, slots := 0, locals := 22 })).room s m (([.ref j, .int p0] : List Value).toArray) below meth c H locs 0 0 (MQ below (va_Qv (fun _ : Unit => True) (fun (_ : Unit) t => va_P (dC, dI) vwCl (wJ cI j a1 a2 a3 (S_X0_startWith σ p0)) t.heap ∧ cE (dC, dI) cI cR t ∧ va_D A (wJ cI j a1 a2 a3 (S_X0_startWith σ p0))) A) (([.ref j, .int p0] : List Value).toArray) s 0 0 A) (F0 m 17 ls []) := by
    intro mm
    induction mm with
    | zero =>
      intro k g0_0_17 g0_1_17 g0_2_17 H locs ls hk17 hG17 hl hP hD hS
      refine lv_iload_n hx hb dX0_startWith_17 rfl (lv_at hl 0 rfl) ?_
      refine lv_aload_n hx hb dX0_startWith_18 rfl (lv_at hl 1 rfl) ?_
      refine va_get (D := (dC, dI)) (ci := 0) (v := .int p0) (C := RX0) (T := TX0) (N := 8) hx hb hts in_X0 hown hK hP 0 rfl rfl 3 (by decide) q_0 (fun _ h9 => h9) rfl dX0_startWith_19 ?_
      refine lv_icmp_ge (tgt := 58) hx hb dX0_startWith_22 (by decide) (fun c_22 => ?_) (fun c_22 => ?_)
      · have e9 : S_X0_startWith σ p0 = (g0_0_17, g0_1_17, g0_2_17, p0, 0, σ.2.2.2.2.2.1, σ.2.2.2.2.2.2.1, FP.dconst0) := by rw [← hG17]; simp only [G_X0_startWith_17]
        exact W.vret hx hb hr (fun t ht hW => ⟨⟨(), rfl, trivial, by rw [ht, e9]; exact hP, hE.warm hW, by rw [e9]; exact hD⟩, hS.F ht⟩) hS.2.2 dX0_startWith_58
      · exact absurd ((p_le (by omega)).mpr (by omega)) c_22
    | succ mm ih17 =>
      intro k g0_0_17 g0_1_17 g0_2_17 H locs ls hk17 hG17 hl hP hD hS
      refine lv_iload_n hx hb dX0_startWith_17 rfl (lv_at hl 0 rfl) ?_
      refine lv_aload_n hx hb dX0_startWith_18 rfl (lv_at hl 1 rfl) ?_
      refine va_get (D := (dC, dI)) (ci := 0) (v := .int p0) (C := RX0) (T := TX0) (N := 8) hx hb hts in_X0 hown hK hP 0 rfl rfl 3 (by decide) q_0 (fun _ h9 => h9) rfl dX0_startWith_19 ?_
      refine lv_icmp_ge (tgt := 58) hx hb dX0_startWith_22 (by decide) (fun c_22 => ?_) (fun c_22 => ?_)
      · exact absurd ((p_le (by omega)).mp c_22) (by omega)
      · refine lv_aload_n hx hb dX0_startWith_25 rfl (lv_at hl 1 rfl) ?_
        refine va_get (D := (dC, dI)) (ci := 0) (v := .ref a1) (C := RX0) (T := TX0) (N := 8) hx hb hts in_X0 hown hK hP 0 rfl rfl 0 (by decide) q_3 (fun _ h9 => h9) rfl dX0_startWith_26 ?_
        refine lv_iload_n hx hb dX0_startWith_29 rfl (lv_at hl 0 rfl) ?_
        refine lv_iload_n hx hb dX0_startWith_30 rfl (lv_at hl 0 rfl) ?_
        have hPc := hP.sub (ws' := [(a1, .inl (cI, 6, .inl g0_0_17))]) [1] rfl
        have hDc := hD.sub (ws' := [(a1, .inl (cI, 6, .inl g0_0_17))]) [1] (by decide) rfl
        have hFc := va_free (wc := [(a1, .inl (cI, 6, .inl g0_0_17))]) hD hS hA [1] rfl
        refine va_callv (va_runSN (As := [.ref a1, .int (nI k), .int (nI k)]) (rest := []) ⟨hx, hb, hml, hown, hts⟩ (c_X3_setCell l dC dI cI cR _ a1 6 g0_0_17 (by decide) (nI k) (nI k)) ⟨va_cnB 3 hts gX0_startWith_X3_setCell_n32 rfl rfl rfl (hE.2 (.methodLinkNest RX0 32 yX3_setCell "Cascadecourt") (by decide +kernel)) q_4 (by decide +kernel) ⟨Nat.le_of_ble_eq_true rfl, Nat.le_of_ble_eq_true rfl⟩, q_5, trivial⟩ ⟨fun a U g mk q => by obtain ⟨q0, q1, qP, qE, qD⟩ := q; exact ⟨q0, q1, qP, cE.same (s := U) rfl qE, qD⟩, fun U hU hW => ⟨rfl, by rw [hU], by rw [hU]; exact hPc, hE.warm hW, hDc.weaken (fun _ _ _ _ => trivial)⟩⟩ rfl rfl hl.1 rfl (lv_room (Nat.le_of_ble_eq_true rfl)) dX0_startWith_31 ⟨Nat.zero_le _, Nat.zero_le _⟩) hS (fun q _ h => hFc q h) hFc (fun u t H1 locs ht hvm h_31 hB hz1 hk1 hS => ?_)
        obtain ⟨hP1, -, hD1⟩ := hB
        rw [ht] at hP1
        obtain ⟨hP, hD⟩ := va_join (wr := [(j, .inr (0, [.ref a1, .ref a2, .ref a3, .int p0, .int 0, .int σ.2.2.2.2.2.1, .int σ.2.2.2.2.2.2.1, .double FP.dconst0])), (a2, .inl (cI, 6, .inl g0_1_17)), (a3, .inl (cI, 6, .inl g0_2_17))]) (w1 := [(a1, .inl (cI, 6, .inl (S_X3_setCell 6 g0_0_17 (nI k) (nI k))))]) hP hD [1] [0, 2, 3] rfl rfl (by decide) (by decide) hk1 hFc hP1 hD1
        have hP := hP.sub (ws' := [(j, .inr (0, [.ref a1, .ref a2, .ref a3, .int p0, .int 0, .int σ.2.2.2.2.2.1, .int σ.2.2.2.2.2.2.1, .double FP.dconst0])), (a1, .inl (cI, 6, .inl (S_X3_setCell 6 g0_0_17 (nI k) (nI k)))), (a2, .inl (cI, 6, .inl g0_1_17)), (a3, .inl (cI, 6, .inl g0_2_17))]) [0, 3, 1, 2] rfl
        have hD := hD.sub (ws' := [(j, .inr (0, [.ref a1, .ref a2, .ref a3, .int p0, .int 0, .int σ.2.2.2.2.2.1, .int σ.2.2.2.2.2.2.1, .double FP.dconst0])), (a1, .inl (cI, 6, .inl (S_X3_setCell 6 g0_0_17 (nI k) (nI k)))), (a2, .inl (cI, 6, .inl g0_1_17)), (a3, .inl (cI, 6, .inl g0_2_17))]) [0, 3, 1, 2] (by decide) rfl
        clear hPc hDc hP1 hD1 hk1 hFc hz1 ht hvm
        generalize H1 = H at hP hS ⊢
        refine lv_aload_n hx hb dX0_startWith_34 rfl (lv_at hl 1 rfl) ?_
        refine va_get (D := (dC, dI)) (ci := 0) (v := .ref a2) (C := RX0) (T := TX0) (N := 8) hx hb hts in_X0 hown hK hP 0 rfl rfl 1 (by decide) q_6 (fun _ h9 => h9) rfl dX0_startWith_35 ?_
        refine lv_iload_n hx hb dX0_startWith_38 rfl (lv_at hl 0 rfl) ?_
        refine lv_iconst (v := 0) hx hb dX0_startWith_39 (by decide) ?_
        have hPc := hP.sub (ws' := [(a2, .inl (cI, 6, .inl g0_1_17))]) [2] rfl
        have hDc := hD.sub (ws' := [(a2, .inl (cI, 6, .inl g0_1_17))]) [2] (by decide) rfl
        have hFc := va_free (wc := [(a2, .inl (cI, 6, .inl g0_1_17))]) hD hS hA [2] rfl
        refine va_callv (va_runSN (As := [.ref a2, .int (nI k), .int 0]) (rest := []) ⟨hx, hb, hml, hown, hts⟩ (c_X3_setCell l dC dI cI cR _ a2 6 g0_1_17 (by decide) (nI k) 0) ⟨va_cnB 3 hts gX0_startWith_X3_setCell_n32 rfl rfl rfl (hE.2 (.methodLinkNest RX0 32 yX3_setCell "Cascadecourt") (by decide +kernel)) q_4 (by decide +kernel) ⟨Nat.le_of_ble_eq_true rfl, Nat.le_of_ble_eq_true rfl⟩, q_5, trivial⟩ ⟨fun a U g mk q => by obtain ⟨q0, q1, qP, qE, qD⟩ := q; exact ⟨q0, q1, qP, cE.same (s := U) rfl qE, qD⟩, fun U hU hW => ⟨rfl, by rw [hU], by rw [hU]; exact hPc, hE.warm hW, hDc.weaken (fun _ _ _ _ => trivial)⟩⟩ rfl rfl hl.1 rfl (lv_room (Nat.le_of_ble_eq_true rfl)) dX0_startWith_40 ⟨Nat.zero_le _, Nat.zero_le _⟩) hS (fun q _ h => hFc q h) hFc (fun u t H1 locs ht hvm h_40 hB hz1 hk1 hS => ?_)
        obtain ⟨hP1, -, hD1⟩ := hB
        rw [ht] at hP1
        obtain ⟨hP, hD⟩ := va_join (wr := [(j, .inr (0, [.ref a1, .ref a2, .ref a3, .int p0, .int 0, .int σ.2.2.2.2.2.1, .int σ.2.2.2.2.2.2.1, .double FP.dconst0])), (a1, .inl (cI, 6, .inl (S_X3_setCell 6 g0_0_17 (nI k) (nI k)))), (a3, .inl (cI, 6, .inl g0_2_17))]) (w1 := [(a2, .inl (cI, 6, .inl (S_X3_setCell 6 g0_1_17 (nI k) 0)))]) hP hD [2] [0, 1, 3] rfl rfl (by decide) (by decide) hk1 hFc hP1 hD1
        have hP := hP.sub (ws' := [(j, .inr (0, [.ref a1, .ref a2, .ref a3, .int p0, .int 0, .int σ.2.2.2.2.2.1, .int σ.2.2.2.2.2.2.1, .double FP.dconst0])), (a1, .inl (cI, 6, .inl (S_X3_setCell 6 g0_0_17 (nI k) (nI k)))), (a2, .inl (cI, 6, .inl (S_X3_setCell 6 g0_1_17 (nI k) 0))), (a3, .inl (cI, 6, .inl g0_2_17))]) [0, 1, 3, 2] rfl
        have hD := hD.sub (ws' := [(j, .inr (0, [.ref a1, .ref a2, .ref a3, .int p0, .int 0, .int σ.2.2.2.2.2.1, .int σ.2.2.2.2.2.2.1, .double FP.dconst0])), (a1, .inl (cI, 6, .inl (S_X3_setCell 6 g0_0_17 (nI k) (nI k)))), (a2, .inl (cI, 6, .inl (S_X3_setCell 6 g0_1_17 (nI k) 0))), (a3, .inl (cI, 6, .inl g0_2_17))]) [0, 1, 3, 2] (by decide) rfl
        clear hPc hDc hP1 hD1 hk1 hFc hz1 ht hvm
        generalize H1 = H at hP hS ⊢
        refine lv_aload_n hx hb dX0_startWith_43 rfl (lv_at hl 1 rfl) ?_
        refine va_get (D := (dC, dI)) (ci := 0) (v := .ref a3) (C := RX0) (T := TX0) (N := 8) hx hb hts in_X0 hown hK hP 0 rfl rfl 2 (by decide) q_7 (fun _ h9 => h9) rfl dX0_startWith_44 ?_
        refine lv_iload_n hx hb dX0_startWith_47 rfl (lv_at hl 0 rfl) ?_
        refine lv_iconst (v := 0) hx hb dX0_startWith_48 (by decide) ?_
        have hPc := hP.sub (ws' := [(a3, .inl (cI, 6, .inl g0_2_17))]) [3] rfl
        have hDc := hD.sub (ws' := [(a3, .inl (cI, 6, .inl g0_2_17))]) [3] (by decide) rfl
        have hFc := va_free (wc := [(a3, .inl (cI, 6, .inl g0_2_17))]) hD hS hA [3] rfl
        refine va_callv (va_runSN (As := [.ref a3, .int (nI k), .int 0]) (rest := []) ⟨hx, hb, hml, hown, hts⟩ (c_X3_setCell l dC dI cI cR _ a3 6 g0_2_17 (by decide) (nI k) 0) ⟨va_cnB 3 hts gX0_startWith_X3_setCell_n32 rfl rfl rfl (hE.2 (.methodLinkNest RX0 32 yX3_setCell "Cascadecourt") (by decide +kernel)) q_4 (by decide +kernel) ⟨Nat.le_of_ble_eq_true rfl, Nat.le_of_ble_eq_true rfl⟩, q_5, trivial⟩ ⟨fun a U g mk q => by obtain ⟨q0, q1, qP, qE, qD⟩ := q; exact ⟨q0, q1, qP, cE.same (s := U) rfl qE, qD⟩, fun U hU hW => ⟨rfl, by rw [hU], by rw [hU]; exact hPc, hE.warm hW, hDc.weaken (fun _ _ _ _ => trivial)⟩⟩ rfl rfl hl.1 rfl (lv_room (Nat.le_of_ble_eq_true rfl)) dX0_startWith_49 ⟨Nat.zero_le _, Nat.zero_le _⟩) hS (fun q _ h => hFc q h) hFc (fun u t H1 locs ht hvm h_49 hB hz1 hk1 hS => ?_)
        obtain ⟨hP1, -, hD1⟩ := hB
        rw [ht] at hP1
        obtain ⟨hP, hD⟩ := va_join (wr := [(j, .inr (0, [.ref a1, .ref a2, .ref a3, .int p0, .int 0, .int σ.2.2.2.2.2.1, .int σ.2.2.2.2.2.2.1, .double FP.dconst0])), (a1, .inl (cI, 6, .inl (S_X3_setCell 6 g0_0_17 (nI k) (nI k)))), (a2, .inl (cI, 6, .inl (S_X3_setCell 6 g0_1_17 (nI k) 0)))]) (w1 := [(a3, .inl (cI, 6, .inl (S_X3_setCell 6 g0_2_17 (nI k) 0)))]) hP hD [3] [0, 1, 2] rfl rfl (by decide) (by decide) hk1 hFc hP1 hD1
        have hP := hP.sub (ws' := [(j, .inr (0, [.ref a1, .ref a2, .ref a3, .int p0, .int 0, .int σ.2.2.2.2.2.1, .int σ.2.2.2.2.2.2.1, .double FP.dconst0])), (a1, .inl (cI, 6, .inl (S_X3_setCell 6 g0_0_17 (nI k) (nI k)))), (a2, .inl (cI, 6, .inl (S_X3_setCell 6 g0_1_17 (nI k) 0))), (a3, .inl (cI, 6, .inl (S_X3_setCell 6 g0_2_17 (nI k) 0)))]) [0, 1, 2, 3] rfl
        have hD := hD.sub (ws' := [(j, .inr (0, [.ref a1, .ref a2, .ref a3, .int p0, .int 0, .int σ.2.2.2.2.2.1, .int σ.2.2.2.2.2.2.1, .double FP.dconst0])), (a1, .inl (cI, 6, .inl (S_X3_setCell 6 g0_0_17 (nI k) (nI k)))), (a2, .inl (cI, 6, .inl (S_X3_setCell 6 g0_1_17 (nI k) 0))), (a3, .inl (cI, 6, .inl (S_X3_setCell 6 g0_2_17 (nI k) 0)))]) [0, 1, 2, 3] (by decide) rfl
        clear hPc hDc hP1 hD1 hk1 hFc hz1 ht hvm
        generalize H1 = H at hP hS ⊢
        refine lv_iinc (v := nI (k + 1)) (lv' := [(2, .int (nI (k + 1))), (0, .ref j), (1, .int p0)]) hx hb dX0_startWith_52 hl (k := 0) rfl ((nI_succ _).symm) (by decide) rfl (fun ls hl => ?_)
        refine lv_goto (tgt := 17) hx hb dX0_startWith_55 (by decide) ?_
        exact ih17 (k + 1) (S_X3_setCell 6 g0_0_17 (nI k) (nI k)) (S_X3_setCell 6 g0_1_17 (nI k) 0) (S_X3_setCell 6 g0_2_17 (nI k) 0) _ _ ls (by omega) (by rw [← hG17]; simp only [G_X0_startWith_17]) (lv_sub hl [0, 1, 2] rfl) hP hD hS
  exact loop17 p0.toNatClampNeg 0 σ.1 σ.2.1 σ.2.2.1 _ _ ls (by omega) (by simp only [S_X0_startWith]) (lv_sub hl [0, 1, 2] rfl) hP hD hS
def G_X0_pickUp_13 (σ : JS) : Nat → Nat → Int32 × JS
  | 0, k => ((-1), σ)
  | mm + 1, k => (if (S_X0_isDropped σ (nI k)) = 0 then G_X0_pickUp_13 σ mm (k + 1) else (nI k, ((S_X3_setCell 6 σ.1 (nI k) σ.2.2.2.2.1), σ.2.1, σ.2.2.1, σ.2.2.2.1, σ.2.2.2.2.1, σ.2.2.2.2.2.1, σ.2.2.2.2.2.2.1, σ.2.2.2.2.2.2.2)))
def S_X0_pickUp (σ : JS) : Int32 × JS := (if (S_X0_propLandingIn σ 0) = (-1) then G_X0_pickUp_13 σ σ.2.2.2.1.toNatClampNeg 0 else ((-1), σ))
set_option maxHeartbeats 4000000 in
set_option maxRecDepth 100000 in
theorem c_X0_pickUp (l : Launch) (dC : Nat → ClassId) (dI : Nat → Nat → Nat) (cI cR : ClassId) (sz : Nat) (j a1 a2 a3 : Nat) (σ : JS)   : Met l yX0_pickUp wsX0_pickUp ({ frames := 3, cells := 0, slots := 0, locals := 65 }) (va_Pc [.ref j] (fun U => U.heap.size = sz ∧ va_P (dC, dI) vwCl (wJ cI j a1 a2 a3 σ) U.heap ∧ cE (dC, dI) cI cR U ∧ va_D (fun _ => True) (wJ cI j a1 a2 a3 σ))) (va_Qi (fun (r : Int32) (_ : Unit) => r = (S_X0_pickUp σ).1) (fun (_ : Unit) t => va_P (dC, dI) vwCl (wJ cI j a1 a2 a3 ((S_X0_pickUp σ).2)) t.heap ∧ cE (dC, dI) cI cR t ∧ va_D (va_A (wJ cI j a1 a2 a3 σ) sz) (wJ cI j a1 a2 a3 ((S_X0_pickUp σ).2))) (va_A (wJ cI j a1 a2 a3 σ) sz)) 0 0 (va_A (wJ cI j a1 a2 a3 σ) sz) := by
  refine Met.ofW (cc := cX0_pickUp) (maxL := 2) (ret := (some .int)) (by decide) rfl ?_
  intro p e s m args below meth c s₁ B hml hv
  obtain ⟨rfl, hsz, hP, hE, hD0⟩ := hv
  have hK := hE.1
  have hx := B.exec
  have hb := B.bytes
  have hr := B.returns
  have hts := atoms_spec (ws := wsX0_pickUp) B.pre
  have hown : s.vm.findClass RX0 = some m.cls := findClass_of_methodNamed B.named
  have hlocks := B.notSynchronized
  subst hsz
  have hD := hD0.self (sz := s.heap.size)
  generalize hAe : va_A (wJ cI j a1 a2 a3 σ) s.heap.size = A at hD ⊢
  have hA : ∀ q : Nat, s.heap.size ≤ q → A q := fun q h => by rw [← hAe]; exact Or.inr h
  have hS : va_S A s.heap s.heap [] := va_S.rf
  have hP : va_P (dC, dI) vwCl [(j, .inr (0, [.ref a1, .ref a2, .ref a3, .int σ.2.2.2.1, .int σ.2.2.2.2.1, .int σ.2.2.2.2.2.1, .int σ.2.2.2.2.2.2.1, .double σ.2.2.2.2.2.2.2])), (a1, .inl (cI, 6, .inl σ.1)), (a2, .inl (cI, 6, .inl σ.2.1)), (a3, .inl (cI, 6, .inl σ.2.2.1))] s.heap := hP
  have hD : va_D A [(j, .inr (0, [.ref a1, .ref a2, .ref a3, .int σ.2.2.2.1, .int σ.2.2.2.2.1, .int σ.2.2.2.2.2.1, .int σ.2.2.2.2.2.2.1, .double σ.2.2.2.2.2.2.2])), (a1, .inl (cI, 6, .inl σ.1)), (a2, .inl (cI, 6, .inl σ.2.1)), (a3, .inl (cI, 6, .inl σ.2.2.1))] := hD
  have hl := lv_entry ([.ref j]) (n := 2) (Nat.le_of_ble_eq_true rfl)
  rw [lg_entry_eq]
  generalize (lg_sl ([.ref j]) ++ List.replicate (2 - (lg_sl ([.ref j])).length) Slot.unset).toArray = ls at hl ⊢
  have hl : lv_has ls 2 [(0, .ref j)] := hl
  have q_0 := hts (.fieldLink RX0 21 "Cascadecourt$Juggler" "props" "I") (by decide +kernel)
  have in_X0 : ∀ w ∈ wsX00, w ∈ wsX0_pickUp := by decide +kernel
  have q_1 := hts (.fieldLink RX0 9 "Cascadecourt$Juggler" "landsAt" "[I") (by decide +kernel)
  have q_2 := hts (.fieldLink RX0 25 "Cascadecourt$Juggler" "beat" "I") (by decide +kernel)
  have q_3 := hts (.initialized RX3) (by decide +kernel)
  have q_4 := hts (.static yX3_setCell) (by decide +kernel)
  refine lv_aload_n hx hb dX0_pickUp_0 rfl (lv_at hl 0 rfl) ?_
  refine lv_iconst (v := 0) hx hb dX0_pickUp_1 (by decide) ?_
  refine vp_callSi (va_Run.run (va_runV (As := [.int 0]) (rest := []) ⟨hx, hb, hml, hown, hts⟩ (c_X0_propLandingIn l dC dI cI cR j a1 a2 a3 σ 0) (cwV 1 hts gX0_pickUp_X0_propLandingIn rfl rfl rfl (by decide +kernel) ⟨Nat.le_of_ble_eq_true rfl, Nat.le_of_ble_eq_true rfl⟩) ⟨fun a U g mk q => by obtain ⟨q0, qP, qE⟩ := q; exact ⟨q0, qP, cE.same (s := U) rfl qE⟩, va_recv hK hP (ci := 0) (q0 := 0) rfl rfl, fun U hU hW => ⟨rfl, by rw [hU]; exact hP.sub (ws' := (wJ cI j a1 a2 a3 σ)) [0, 1, 2, 3] rfl, hE.warm hW⟩⟩ rfl rfl hl.1 rfl (lv_room (Nat.le_of_ble_eq_true rfl)) dX0_pickUp_2 ⟨Nat.zero_le _, Nat.zero_le _⟩)) (fun r_2 h_2 => ?_)
  subst h_2
  refine lv_iconst (v := (-1)) hx hb dX0_pickUp_5 (by decide) ?_
  refine lv_icmp_eq (tgt := 11) hx hb dX0_pickUp_6 (by decide) (fun c_6 => ?_) (fun c_6 => ?_)
  · refine lv_iconst (v := 0) hx hb dX0_pickUp_11 (by decide) ?_
    refine lv_istore_n (lv' := [(1, .int 0), (0, .ref j)]) hx hb dX0_pickUp_12 rfl hl (by decide) rfl (fun ls hl => ?_)
    have hn13 := p_clt σ.2.2.2.1
    have loop13 : ∀ (mm k : Nat) (H : Heap) (locs : List Loc) (ls : Array Slot), k + mm = σ.2.2.2.1.toNatClampNeg → G_X0_pickUp_13 σ mm k = S_X0_pickUp σ → lv_has ls 2 [(1, .int (nI k)), (0, .ref j)] → va_P (dC, dI) vwCl [(j, .inr (0, [.ref a1, .ref a2, .ref a3, .int σ.2.2.2.1, .int σ.2.2.2.2.1, .int σ.2.2.2.2.2.1, .int σ.2.2.2.2.2.2.1, .double σ.2.2.2.2.2.2.2])), (a1, .inl (cI, 6, .inl σ.1)), (a2, .inl (cI, 6, .inl σ.2.1)), (a3, .inl (cI, 6, .inl σ.2.2.1))] H → va_D A [(j, .inr (0, [.ref a1, .ref a2, .ref a3, .int σ.2.2.2.1, .int σ.2.2.2.2.1, .int σ.2.2.2.2.2.1, .int σ.2.2.2.2.2.2.1, .double σ.2.2.2.2.2.2.2])), (a1, .inl (cI, 6, .inl σ.1)), (a2, .inl (cI, 6, .inl σ.2.1)), (a3, .inl (cI, 6, .inl σ.2.2.1))] → va_S A s.heap H locs → W p l e (headSpec wsX0_pickUp ({ frames := 3, cells := 0, slots := 0, locals := 65 })).room s m (([.ref j] : List Value).toArray) below meth c H locs 0 0 (MQ below (va_Qi (fun (r : Int32) (_ : Unit) => r = (S_X0_pickUp σ).1) (fun (_ : Unit) t => va_P (dC, dI) vwCl (wJ cI j a1 a2 a3 ((S_X0_pickUp σ).2)) t.heap ∧ cE (dC, dI) cI cR t ∧ va_D A (wJ cI j a1 a2 a3 ((S_X0_pickUp σ).2))) A) (([.ref j] : List Value).toArray) s 0 0 A) (F0 m 13 ls []) := by
      intro mm
      induction mm with
      | zero =>
        intro k H locs ls hk13 hG13 hl hP hD hS
        refine lv_iload_n hx hb dX0_pickUp_13 rfl (lv_at hl 0 rfl) ?_
        refine lv_aload_n hx hb dX0_pickUp_14 rfl (lv_at hl 1 rfl) ?_
        refine va_get (D := (dC, dI)) (ci := 0) (v := .int σ.2.2.2.1) (C := RX0) (T := TX0) (N := 8) hx hb hts in_X0 hown hK hP 0 rfl rfl 3 (by decide) q_0 (fun _ h9 => h9) rfl dX0_pickUp_15 ?_
        refine lv_icmp_ge (tgt := 49) hx hb dX0_pickUp_18 (by decide) (fun c_18 => ?_) (fun c_18 => ?_)
        · refine lv_iconst (v := (-1)) hx hb dX0_pickUp_49 (by decide) ?_
          have e9 : S_X0_pickUp σ = ((-1), σ) := by rw [← hG13]; simp only [G_X0_pickUp_13]
          exact W.iret (v := (-1)) hx hb hr (fun t ht hW => ⟨⟨(-1), (), rfl, by rw [e9], by rw [ht, e9]; exact hP, hE.warm hW, by rw [e9]; exact hD⟩, hS.F ht⟩) hS.2.2 dX0_pickUp_50
        · exact absurd ((p_le (by omega)).mpr (by omega)) c_18
      | succ mm ih13 =>
        intro k H locs ls hk13 hG13 hl hP hD hS
        refine lv_iload_n hx hb dX0_pickUp_13 rfl (lv_at hl 0 rfl) ?_
        refine lv_aload_n hx hb dX0_pickUp_14 rfl (lv_at hl 1 rfl) ?_
        refine va_get (D := (dC, dI)) (ci := 0) (v := .int σ.2.2.2.1) (C := RX0) (T := TX0) (N := 8) hx hb hts in_X0 hown hK hP 0 rfl rfl 3 (by decide) q_0 (fun _ h9 => h9) rfl dX0_pickUp_15 ?_
        refine lv_icmp_ge (tgt := 49) hx hb dX0_pickUp_18 (by decide) (fun c_18 => ?_) (fun c_18 => ?_)
        · exact absurd ((p_le (by omega)).mp c_18) (by omega)
        · refine lv_aload_n hx hb dX0_pickUp_21 rfl (lv_at hl 1 rfl) ?_
          refine lv_iload_n hx hb dX0_pickUp_22 rfl (lv_at hl 0 rfl) ?_
          refine vp_callSi (va_Run.run (va_runV (As := [.int (nI k)]) (rest := []) ⟨hx, hb, hml, hown, hts⟩ (c_X0_isDropped l dC dI cI cR j a1 a2 a3 σ (nI k)) (cwV 1 hts gX0_pickUp_X0_isDropped rfl rfl rfl (by decide +kernel) ⟨Nat.le_of_ble_eq_true rfl, Nat.le_of_ble_eq_true rfl⟩) ⟨fun a U g mk q => by obtain ⟨q0, qP, qE⟩ := q; exact ⟨q0, qP, cE.same (s := U) rfl qE⟩, va_recv hK hP (ci := 0) (q0 := 0) rfl rfl, fun U hU hW => ⟨rfl, by rw [hU]; exact hP.sub (ws' := (wJ cI j a1 a2 a3 σ)) [0, 1, 2, 3] rfl, hE.warm hW⟩⟩ rfl rfl hl.1 rfl (lv_room (Nat.le_of_ble_eq_true rfl)) dX0_pickUp_23 ⟨Nat.zero_le _, Nat.zero_le _⟩)) (fun r_23 h_23 => ?_)
          obtain ⟨rfl, hz_23⟩ := h_23
          refine lv_if_eq (tgt := 43) hx hb dX0_pickUp_26 (by decide) (fun c_26 => ?_) (fun c_26 => ?_)
          · refine lv_iinc (v := nI (k + 1)) (lv' := [(1, .int (nI (k + 1))), (0, .ref j)]) hx hb dX0_pickUp_43 hl (k := 0) rfl ((nI_succ _).symm) (by decide) rfl (fun ls hl => ?_)
            refine lv_goto (tgt := 13) hx hb dX0_pickUp_46 (by decide) ?_
            exact ih13 (k + 1) _ _ ls (by omega) (by rw [← hG13]; simp only [G_X0_pickUp_13, if_pos c_26]) (lv_sub hl [0, 1] rfl) hP hD hS
          · refine lv_aload_n hx hb dX0_pickUp_29 rfl (lv_at hl 1 rfl) ?_
            refine va_get (D := (dC, dI)) (ci := 0) (v := .ref a1) (C := RX0) (T := TX0) (N := 8) hx hb hts in_X0 hown hK hP 0 rfl rfl 0 (by decide) q_1 (fun _ h9 => h9) rfl dX0_pickUp_30 ?_
            refine lv_iload_n hx hb dX0_pickUp_33 rfl (lv_at hl 0 rfl) ?_
            refine lv_aload_n hx hb dX0_pickUp_34 rfl (lv_at hl 1 rfl) ?_
            refine va_get (D := (dC, dI)) (ci := 0) (v := .int σ.2.2.2.2.1) (C := RX0) (T := TX0) (N := 8) hx hb hts in_X0 hown hK hP 0 rfl rfl 4 (by decide) q_2 (fun _ h9 => h9) rfl dX0_pickUp_35 ?_
            have hPc := hP.sub (ws' := [(a1, .inl (cI, 6, .inl σ.1))]) [1] rfl
            have hDc := hD.sub (ws' := [(a1, .inl (cI, 6, .inl σ.1))]) [1] (by decide) rfl
            have hFc := va_free (wc := [(a1, .inl (cI, 6, .inl σ.1))]) hD hS hA [1] rfl
            refine va_callv (va_runSN (As := [.ref a1, .int (nI k), .int σ.2.2.2.2.1]) (rest := []) ⟨hx, hb, hml, hown, hts⟩ (c_X3_setCell l dC dI cI cR _ a1 6 σ.1 (by decide) (nI k) σ.2.2.2.2.1) ⟨va_cnB 3 hts gX0_pickUp_X3_setCell_n32 rfl rfl rfl (hE.2 (.methodLinkNest RX0 32 yX3_setCell "Cascadecourt") (by decide +kernel)) q_3 (by decide +kernel) ⟨Nat.le_of_ble_eq_true rfl, Nat.le_of_ble_eq_true rfl⟩, q_4, trivial⟩ ⟨fun a U g mk q => by obtain ⟨q0, q1, qP, qE, qD⟩ := q; exact ⟨q0, q1, qP, cE.same (s := U) rfl qE, qD⟩, fun U hU hW => ⟨rfl, by rw [hU], by rw [hU]; exact hPc, hE.warm hW, hDc.weaken (fun _ _ _ _ => trivial)⟩⟩ rfl rfl hl.1 rfl (lv_room (Nat.le_of_ble_eq_true rfl)) dX0_pickUp_38 ⟨Nat.zero_le _, Nat.zero_le _⟩) hS (fun q _ h => hFc q h) hFc (fun u t H1 locs ht hvm h_38 hB hz1 hk1 hS => ?_)
            obtain ⟨hP1, -, hD1⟩ := hB
            rw [ht] at hP1
            obtain ⟨hP, hD⟩ := va_join (wr := [(j, .inr (0, [.ref a1, .ref a2, .ref a3, .int σ.2.2.2.1, .int σ.2.2.2.2.1, .int σ.2.2.2.2.2.1, .int σ.2.2.2.2.2.2.1, .double σ.2.2.2.2.2.2.2])), (a2, .inl (cI, 6, .inl σ.2.1)), (a3, .inl (cI, 6, .inl σ.2.2.1))]) (w1 := [(a1, .inl (cI, 6, .inl (S_X3_setCell 6 σ.1 (nI k) σ.2.2.2.2.1)))]) hP hD [1] [0, 2, 3] rfl rfl (by decide) (by decide) hk1 hFc hP1 hD1
            have hP := hP.sub (ws' := [(j, .inr (0, [.ref a1, .ref a2, .ref a3, .int σ.2.2.2.1, .int σ.2.2.2.2.1, .int σ.2.2.2.2.2.1, .int σ.2.2.2.2.2.2.1, .double σ.2.2.2.2.2.2.2])), (a1, .inl (cI, 6, .inl (S_X3_setCell 6 σ.1 (nI k) σ.2.2.2.2.1))), (a2, .inl (cI, 6, .inl σ.2.1)), (a3, .inl (cI, 6, .inl σ.2.2.1))]) [0, 3, 1, 2] rfl
            have hD := hD.sub (ws' := [(j, .inr (0, [.ref a1, .ref a2, .ref a3, .int σ.2.2.2.1, .int σ.2.2.2.2.1, .int σ.2.2.2.2.2.1, .int σ.2.2.2.2.2.2.1, .double σ.2.2.2.2.2.2.2])), (a1, .inl (cI, 6, .inl (S_X3_setCell 6 σ.1 (nI k) σ.2.2.2.2.1))), (a2, .inl (cI, 6, .inl σ.2.1)), (a3, .inl (cI, 6, .inl σ.2.2.1))]) [0, 3, 1, 2] (by decide) rfl
            clear hPc hDc hP1 hD1 hk1 hFc hz1 ht hvm
            generalize H1 = H at hP hS ⊢
            refine lv_iload_n hx hb dX0_pickUp_41 rfl (lv_at hl 0 rfl) ?_
            have e9 : S_X0_pickUp σ = (nI k, ((S_X3_setCell 6 σ.1 (nI k) σ.2.2.2.2.1), σ.2.1, σ.2.2.1, σ.2.2.2.1, σ.2.2.2.2.1, σ.2.2.2.2.2.1, σ.2.2.2.2.2.2.1, σ.2.2.2.2.2.2.2)) := by rw [← hG13]; simp only [G_X0_pickUp_13, if_neg c_26]
            exact W.iret (v := (nI k)) hx hb hr (fun t ht hW => ⟨⟨(nI k), (), rfl, by rw [e9], by rw [ht, e9]; exact hP, hE.warm hW, by rw [e9]; exact hD⟩, hS.F ht⟩) hS.2.2 dX0_pickUp_42
    exact loop13 σ.2.2.2.1.toNatClampNeg 0 _ _ ls (by omega) (by simp only [S_X0_pickUp, if_pos c_6]) (lv_sub hl [0, 1] rfl) hP hD hS
  · refine lv_iconst (v := (-1)) hx hb dX0_pickUp_9 (by decide) ?_
    have e9 : S_X0_pickUp σ = ((-1), σ) := by simp only [S_X0_pickUp, if_neg c_6]
    exact W.iret (v := (-1)) hx hb hr (fun t ht hW => ⟨⟨(-1), (), rfl, by rw [e9], by rw [ht, e9]; exact hP, hE.warm hW, by rw [e9]; exact hD⟩, hS.F ht⟩) hS.2.2 dX0_pickUp_10
