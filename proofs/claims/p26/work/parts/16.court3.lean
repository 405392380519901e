/-! LAID BY MY PROGRAM wip/gen/p26.py: contracts, method by method -/
set_option maxHeartbeats 4000000 in
set_option maxRecDepth 100000 in
theorem c_X3_init (l : Launch) (dC : Nat → ClassId) (dI : Nat → Nat → Nat) (cI cR : ClassId) (sz : Nat) (x : Nat)   : Met l yX3_init wsX3_init ({ frames := 2, cells := 9, slots := 1574, locals := 32 }) (va_Pc [.ref x] (fun U => U.heap.size = sz ∧ va_P (dC, dI) vwCl [(x, .inr (3, [.null, .null, .null, .int 0]))] U.heap ∧ cE (dC, dI) cI cR U ∧ va_D (fun _ => True) [(x, .inr (3, [.null, .null, .null, .int 0]))] ∧ va_AO "Cascadecourt$Row" U)) (va_Qv (fun _ : Nat × Nat × Nat × Nat × Nat × Nat × Nat × Nat × Nat => True) (fun (u : Nat × Nat × Nat × Nat × Nat × Nat × Nat × Nat × Nat) t => va_P (dC, dI) vwCl (wC cI cR x u.1 u.2.1 u.2.2.1 u.2.2.2.1 u.2.2.2.2.1 u.2.2.2.2.2.1 u.2.2.2.2.2.2.1 u.2.2.2.2.2.2.2.1 u.2.2.2.2.2.2.2.2 ((fun _ => none), 0) S_X0_init S_X2_init []) t.heap ∧ cE (dC, dI) cI cR t ∧ va_D (va_A [(x, .inr (3, [.null, .null, .null, .int 0]))] sz) (wC cI cR x u.1 u.2.1 u.2.2.1 u.2.2.2.1 u.2.2.2.2.1 u.2.2.2.2.2.1 u.2.2.2.2.2.2.1 u.2.2.2.2.2.2.2.1 u.2.2.2.2.2.2.2.2 ((fun _ => none), 0) S_X0_init S_X2_init [])) (va_A [(x, .inr (3, [.null, .null, .null, .int 0]))] sz)) 9 1574 (va_A [(x, .inr (3, [.null, .null, .null, .int 0]))] sz) := by
  refine Met.ofW (cc := cX3_init) (maxL := 1) (ret := none) (by decide) rfl ?_
  intro p e s m args below meth c s₁ B hml hv
  obtain ⟨rfl, hsz, hP, hE, hD0, hAO⟩ := hv
  have hK := hE.1
  have hx := B.exec
  have hb := B.bytes
  have hr := B.returns
  have hts := atoms_spec (ws := wsX3_init) B.pre
  have hown : s.vm.findClass RX3 = some m.cls := findClass_of_methodNamed B.named
  have hlocks := B.notSynchronized
  have hin : meth.name = "<init>" := (name_of_methodNamed B.named B.method).1
  subst hsz
  have hD := hD0.self (sz := s.heap.size)
  generalize hAe : va_A [(x, .inr (3, [.null, .null, .null, .int 0]))] s.heap.size = A at hD ⊢
  have hA : ∀ q : Nat, s.heap.size ≤ q → A q := fun q h => by rw [← hAe]; exact Or.inr h
  have hS : va_S A s.heap s.heap [] := va_S.rf
  have hP : va_P (dC, dI) vwCl [(x, .inr (3, [.null, .null, .null, .int 0]))] s.heap := hP
  have hl := lv_entry ([.ref x]) (n := 1) (Nat.le_of_ble_eq_true rfl)
  rw [lg_entry_eq]
  generalize (lg_sl ([.ref x]) ++ List.replicate (1 - (lg_sl ([.ref x])).length) Slot.unset).toArray = ls at hl ⊢
  have hl : lv_has ls 1 [(0, .ref x)] := hl
  have q_0 := hts (.methodLink RX3 1 objectInit) (by decide +kernel)
  have q_1 := hts (.instanceMethod objectInit) (by decide +kernel)
  have q_2 := hts (.code objectInit ⟨#[0xb1]⟩ 1 none) (by decide +kernel)
  have q_3 := hts (.classLink RX3 9 RX1) (by decide +kernel)
  have q_4 := hts (.fieldLink RX3 11 "Cascadecourt" "rows" "[LCascadecourt$Row;") (by decide +kernel)
  have in_X3 : ∀ w ∈ wsX30, w ∈ wsX3_init := by decide +kernel
  have in_X0 : ∀ w ∈ wsX00, w ∈ wsX3_init := by decide +kernel
  have q_5 := hts (.classLink RX3 15 RX0) (by decide +kernel)
  have q_6 := hts (.instantiable RX0 8) (by decide +kernel)
  have q_7 := hts (.initialized RX0) (by decide +kernel)
  have q_8 := hts (.instanceMethod yX0_init) (by decide +kernel)
  have q_9 := hts (.fieldLink RX3 18 "Cascadecourt" "juggler" "LCascadecourt$Juggler;") (by decide +kernel)
  have in_X2 : ∀ w ∈ wsX20, w ∈ wsX3_init := by decide +kernel
  have q_10 := hts (.classLink RX3 22 RX2) (by decide +kernel)
  have q_11 := hts (.instantiable RX2 4) (by decide +kernel)
  have q_12 := hts (.initialized RX2) (by decide +kernel)
  have q_13 := hts (.instanceMethod yX2_init) (by decide +kernel)
  have q_14 := hts (.fieldLink RX3 25 "Cascadecourt" "ways" "LCascadecourt$Ways;") (by decide +kernel)
  have q_15 := hts (.fieldLink RX3 29 "Cascadecourt" "rowsTold" "I") (by decide +kernel)
  refine lv_aload_n hx hb dX3_init_0 rfl (lv_at hl 0 rfl) ?_
  refine W.objInit hx hb hown q_0 q_1 q_2 rfl (by rw [hml]; exact hl.1) rfl dX3_init_1 (Nat.le_of_ble_eq_true rfl) (Nat.le_of_ble_eq_true rfl) ?_
  refine W.eq (g2 := F0 m 4 ls []) rfl ?_
  refine lv_aload_n hx hb dX3_init_4 rfl (lv_at hl 0 rfl) ?_
  refine lv_bipush (v := 8) hx hb dX3_init_5 (by decide) ?_
  refine va_newq (N' := 8) hx hb hown q_3 hAO hK hP hD hS hA (by decide) (by decide) (by decide) (Nat.le_of_ble_eq_true rfl) (Nat.le_of_ble_eq_true rfl) dX3_init_7 (fun q7 cA H hK9 hP hD hS => ?_)
  obtain rfl : cR = cA := (p_sameR hK hK9).symm
  clear hK9
  have hP : va_P (dC, dI) vwCl [(x, .inr (3, [.null, .null, .null, .int 0])), (q7, .inl (cR, 8, .inr (.inr (.inr (.inr (fun _ => none))))))] H := hP
  have hD : va_D A [(x, .inr (3, [.null, .null, .null, .int 0])), (q7, .inl (cR, 8, .inr (.inr (.inr (.inr (fun _ => none))))))] := hD
  refine W.widen (k := 1) (n := 8) (by omega) (by omega) ?_
  refine va_putF (D := (dC, dI)) (ci := 3) (v := .ref q7) (ty := (.array (.object "Cascadecourt$Row"))) (C := RX3) (T := TX3) (N := 4) hx hb hts in_X3 tyX3 tyX3_ok nmX3 hown hK hP hD hS 0 rfl rfl 0 (by decide) q_4 (fun _ h9 => h9) rfl hin rfl (by decide +kernel) rfl rfl (Nat.le_of_ble_eq_true rfl) dX3_init_10 (fun H locs hP hD hS => ?_)
  have hP : va_P (dC, dI) vwCl [(x, .inr (3, [.ref q7, .null, .null, .int 0])), (q7, .inl (cR, 8, .inr (.inr (.inr (.inr (fun _ => none))))))] H := hP
  have hD : va_D A [(x, .inr (3, [.ref q7, .null, .null, .int 0])), (q7, .inl (cR, 8, .inr (.inr (.inr (.inr (fun _ => none))))))] := hD
  refine lv_aload_n hx hb dX3_init_13 rfl (lv_at hl 0 rfl) ?_
  refine va_new (ci := 0) (fs := [.null, .null, .null, .int 0, .int 0, .int 0, .int 0, .double 0]) (C := RX0) (T := TX0) (N := 8) hx hb hts in_X0 tyX0 tyX0_ok hown q_5 q_6 q_7 hK hP hD hS hA rfl (fun j hj => by rcases (show j = 0 ∨ j = 1 ∨ j = 2 ∨ j = 3 ∨ j = 4 ∨ j = 5 ∨ j = 6 ∨ j = 7 by omega) with rfl | rfl | rfl | rfl | rfl | rfl | rfl | rfl <;> rfl) (Nat.le_of_ble_eq_true rfl) (Nat.le_of_ble_eq_true rfl) dX3_init_14 (fun q14 H hP hD hS => ?_)
  have hP : va_P (dC, dI) vwCl [(x, .inr (3, [.ref q7, .null, .null, .int 0])), (q7, .inl (cR, 8, .inr (.inr (.inr (.inr (fun _ => none)))))), (q14, .inr (0, [.null, .null, .null, .int 0, .int 0, .int 0, .int 0, .double 0]))] H := hP
  have hD : va_D A [(x, .inr (3, [.ref q7, .null, .null, .int 0])), (q7, .inl (cR, 8, .inr (.inr (.inr (.inr (fun _ => none)))))), (q14, .inr (0, [.null, .null, .null, .int 0, .int 0, .int 0, .int 0, .double 0]))] := hD
  refine W.widen (k := 2) (n := 16) (by omega) (by omega) ?_
  refine lv_dup hx hb dX3_init_17 rfl ?_
  have hPc := hP.sub (ws' := [(q14, .inr (0, [.null, .null, .null, .int 0, .int 0, .int 0, .int 0, .double 0]))]) [2] rfl
  have hDc := hD.sub (ws' := [(q14, .inr (0, [.null, .null, .null, .int 0, .int 0, .int 0, .int 0, .double 0]))]) [2] (by decide) rfl
  have hFc := va_free (wc := [(q14, .inr (0, [.null, .null, .null, .int 0, .int 0, .int 0, .int 0, .double 0]))]) hD hS hA [2] rfl
  refine va_callv (va_runIN (As := []) (rest := [.ref q14, .ref x]) ⟨hx, hb, hml, hown, hts⟩ (c_X0_init l dC dI cI cR _ q14) ⟨va_cnB 0 hts gX3_init_X0_init_n17 rfl rfl rfl (hE.2 (.methodLinkNest RX3 17 yX0_init "Cascadecourt") (by decide +kernel)) q_7 (by decide +kernel) ⟨Nat.le_of_ble_eq_true rfl, Nat.le_of_ble_eq_true rfl⟩, rfl, q_8⟩ ⟨fun a U g mk q => by obtain ⟨q0, q1, qP, qE, qD⟩ := q; exact ⟨q0, q1, qP, cE.same (s := U) rfl qE, qD⟩, fun U hU hW => ⟨rfl, by rw [hU], by rw [hU]; exact hPc, hE.warm hW, hDc.weaken (fun _ _ _ _ => trivial)⟩⟩ rfl rfl hl.1 rfl (lv_room (Nat.le_of_ble_eq_true rfl)) dX3_init_18 ⟨Nat.le_of_ble_eq_true rfl, Nat.le_of_ble_eq_true rfl⟩) hS (fun q _ h => hFc q h) hFc (fun u t H1 locs ht hvm hw hB hz1 hk1 hS => ?_)
  obtain ⟨u18_0, u18_1, u18_2⟩ := u
  obtain ⟨hP1, -, hD1⟩ := hB
  rw [ht] at hP1
  obtain ⟨hP, hD⟩ := va_join (wr := [(x, .inr (3, [.ref q7, .null, .null, .int 0])), (q7, .inl (cR, 8, .inr (.inr (.inr (.inr (fun _ => none))))))]) (w1 := (wJ cI q14 u18_0 u18_1 u18_2 S_X0_init)) hP hD [2] [0, 1] rfl rfl (by decide) (by decide) hk1 hFc hP1 hD1
  have hP := hP.sub (ws' := [(x, .inr (3, [.ref q7, .null, .null, .int 0])), (q7, .inl (cR, 8, .inr (.inr (.inr (.inr (fun _ => none)))))), (q14, .inr (0, [.ref u18_0, .ref u18_1, .ref u18_2, .int S_X0_init.2.2.2.1, .int S_X0_init.2.2.2.2.1, .int S_X0_init.2.2.2.2.2.1, .int S_X0_init.2.2.2.2.2.2.1, .double S_X0_init.2.2.2.2.2.2.2])), (u18_0, .inl (cI, 6, .inl S_X0_init.1)), (u18_1, .inl (cI, 6, .inl S_X0_init.2.1)), (u18_2, .inl (cI, 6, .inl S_X0_init.2.2.1))]) [0, 1, 2, 3, 4, 5] rfl
  have hD := hD.sub (ws' := [(x, .inr (3, [.ref q7, .null, .null, .int 0])), (q7, .inl (cR, 8, .inr (.inr (.inr (.inr (fun _ => none)))))), (q14, .inr (0, [.ref u18_0, .ref u18_1, .ref u18_2, .int S_X0_init.2.2.2.1, .int S_X0_init.2.2.2.2.1, .int S_X0_init.2.2.2.2.2.1, .int S_X0_init.2.2.2.2.2.2.1, .double S_X0_init.2.2.2.2.2.2.2])), (u18_0, .inl (cI, 6, .inl S_X0_init.1)), (u18_1, .inl (cI, 6, .inl S_X0_init.2.1)), (u18_2, .inl (cI, 6, .inl S_X0_init.2.2.1))]) [0, 1, 2, 3, 4, 5] (by decide) rfl
  clear hPc hDc hP1 hD1 hk1 hFc hz1 ht hvm
  generalize H1 = H at hP hS ⊢
  refine W.widen (k := 5) (n := 34) (by omega) (by omega) ?_
  refine va_putF (D := (dC, dI)) (ci := 3) (v := .ref q14) (ty := (.object "Cascadecourt$Juggler")) (C := RX3) (T := TX3) (N := 4) hx hb hts in_X3 tyX3 tyX3_ok nmX3 hown hK hP hD hS 0 rfl rfl 1 (by decide) q_9 (fun _ h9 => h9) rfl hin rfl (by decide +kernel) rfl rfl (Nat.le_of_ble_eq_true rfl) dX3_init_21 (fun H locs hP hD hS => ?_)
  have hP : va_P (dC, dI) vwCl [(x, .inr (3, [.ref q7, .ref q14, .null, .int 0])), (q7, .inl (cR, 8, .inr (.inr (.inr (.inr (fun _ => none)))))), (q14, .inr (0, [.ref u18_0, .ref u18_1, .ref u18_2, .int S_X0_init.2.2.2.1, .int S_X0_init.2.2.2.2.1, .int S_X0_init.2.2.2.2.2.1, .int S_X0_init.2.2.2.2.2.2.1, .double S_X0_init.2.2.2.2.2.2.2])), (u18_0, .inl (cI, 6, .inl S_X0_init.1)), (u18_1, .inl (cI, 6, .inl S_X0_init.2.1)), (u18_2, .inl (cI, 6, .inl S_X0_init.2.2.1))] H := hP
  have hD : va_D A [(x, .inr (3, [.ref q7, .ref q14, .null, .int 0])), (q7, .inl (cR, 8, .inr (.inr (.inr (.inr (fun _ => none)))))), (q14, .inr (0, [.ref u18_0, .ref u18_1, .ref u18_2, .int S_X0_init.2.2.2.1, .int S_X0_init.2.2.2.2.1, .int S_X0_init.2.2.2.2.2.1, .int S_X0_init.2.2.2.2.2.2.1, .double S_X0_init.2.2.2.2.2.2.2])), (u18_0, .inl (cI, 6, .inl S_X0_init.1)), (u18_1, .inl (cI, 6, .inl S_X0_init.2.1)), (u18_2, .inl (cI, 6, .inl S_X0_init.2.2.1))] := hD
  refine lv_aload_n hx hb dX3_init_24 rfl (lv_at hl 0 rfl) ?_
  refine va_new (ci := 2) (fs := [.null, .null, .null, .int 0]) (C := RX2) (T := TX2) (N := 4) hx hb hts in_X2 tyX2 tyX2_ok hown q_10 q_11 q_12 hK hP hD hS hA rfl (fun j hj => by rcases (show j = 0 ∨ j = 1 ∨ j = 2 ∨ j = 3 by omega) with rfl | rfl | rfl | rfl <;> rfl) (Nat.le_of_ble_eq_true rfl) (Nat.le_of_ble_eq_true rfl) dX3_init_25 (fun q25 H hP hD hS => ?_)
  have hP : va_P (dC, dI) vwCl [(x, .inr (3, [.ref q7, .ref q14, .null, .int 0])), (q7, .inl (cR, 8, .inr (.inr (.inr (.inr (fun _ => none)))))), (q14, .inr (0, [.ref u18_0, .ref u18_1, .ref u18_2, .int S_X0_init.2.2.2.1, .int S_X0_init.2.2.2.2.1, .int S_X0_init.2.2.2.2.2.1, .int S_X0_init.2.2.2.2.2.2.1, .double S_X0_init.2.2.2.2.2.2.2])), (u18_0, .inl (cI, 6, .inl S_X0_init.1)), (u18_1, .inl (cI, 6, .inl S_X0_init.2.1)), (u18_2, .inl (cI, 6, .inl S_X0_init.2.2.1)), (q25, .inr (2, [.null, .null, .null, .int 0]))] H := hP
  have hD : va_D A [(x, .inr (3, [.ref q7, .ref q14, .null, .int 0])), (q7, .inl (cR, 8, .inr (.inr (.inr (.inr (fun _ => none)))))), (q14, .inr (0, [.ref u18_0, .ref u18_1, .ref u18_2, .int S_X0_init.2.2.2.1, .int S_X0_init.2.2.2.2.1, .int S_X0_init.2.2.2.2.2.1, .int S_X0_init.2.2.2.2.2.2.1, .double S_X0_init.2.2.2.2.2.2.2])), (u18_0, .inl (cI, 6, .inl S_X0_init.1)), (u18_1, .inl (cI, 6, .inl S_X0_init.2.1)), (u18_2, .inl (cI, 6, .inl S_X0_init.2.2.1)), (q25, .inr (2, [.null, .null, .null, .int 0]))] := hD
  refine W.widen (k := 6) (n := 38) (by omega) (by omega) ?_
  refine lv_dup hx hb dX3_init_28 rfl ?_
  have hPc := hP.sub (ws' := [(q25, .inr (2, [.null, .null, .null, .int 0]))]) [6] rfl
  have hDc := hD.sub (ws' := [(q25, .inr (2, [.null, .null, .null, .int 0]))]) [6] (by decide) rfl
  have hFc := va_free (wc := [(q25, .inr (2, [.null, .null, .null, .int 0]))]) hD hS hA [6] rfl
  refine va_callv (va_runIN (As := []) (rest := [.ref q25, .ref x]) ⟨hx, hb, hml, hown, hts⟩ (c_X2_init l dC dI cI cR _ q25) ⟨va_cnB 0 hts gX3_init_X2_init_n24 rfl rfl rfl (hE.2 (.methodLinkNest RX3 24 yX2_init "Cascadecourt") (by decide +kernel)) q_12 (by decide +kernel) ⟨Nat.le_of_ble_eq_true rfl, Nat.le_of_ble_eq_true rfl⟩, rfl, q_13⟩ ⟨fun a U g mk q => by obtain ⟨q0, q1, qP, qE, qD⟩ := q; exact ⟨q0, q1, qP, cE.same (s := U) rfl qE, qD⟩, fun U hU hW => ⟨rfl, by rw [hU], by rw [hU]; exact hPc, hE.warm hW, hDc.weaken (fun _ _ _ _ => trivial)⟩⟩ rfl rfl hl.1 rfl (lv_room (Nat.le_of_ble_eq_true rfl)) dX3_init_29 ⟨Nat.le_of_ble_eq_true rfl, Nat.le_of_ble_eq_true rfl⟩) hS (fun q _ h => hFc q h) hFc (fun u t H1 locs ht hvm hw hB hz1 hk1 hS => ?_)
  obtain ⟨u29_0, u29_1, u29_2⟩ := u
  obtain ⟨hP1, -, hD1⟩ := hB
  rw [ht] at hP1
  obtain ⟨hP, hD⟩ := va_join (wr := [(x, .inr (3, [.ref q7, .ref q14, .null, .int 0])), (q7, .inl (cR, 8, .inr (.inr (.inr (.inr (fun _ => none)))))), (q14, .inr (0, [.ref u18_0, .ref u18_1, .ref u18_2, .int S_X0_init.2.2.2.1, .int S_X0_init.2.2.2.2.1, .int S_X0_init.2.2.2.2.2.1, .int S_X0_init.2.2.2.2.2.2.1, .double S_X0_init.2.2.2.2.2.2.2])), (u18_0, .inl (cI, 6, .inl S_X0_init.1)), (u18_1, .inl (cI, 6, .inl S_X0_init.2.1)), (u18_2, .inl (cI, 6, .inl S_X0_init.2.2.1))]) (w1 := (wY cI q25 u29_0 u29_1 u29_2 S_X2_init)) hP hD [6] [0, 1, 2, 3, 4, 5] rfl rfl (by decide) (by decide) hk1 hFc hP1 hD1
  have hP := hP.sub (ws' := [(x, .inr (3, [.ref q7, .ref q14, .null, .int 0])), (q7, .inl (cR, 8, .inr (.inr (.inr (.inr (fun _ => none)))))), (q14, .inr (0, [.ref u18_0, .ref u18_1, .ref u18_2, .int S_X0_init.2.2.2.1, .int S_X0_init.2.2.2.2.1, .int S_X0_init.2.2.2.2.2.1, .int S_X0_init.2.2.2.2.2.2.1, .double S_X0_init.2.2.2.2.2.2.2])), (u18_0, .inl (cI, 6, .inl S_X0_init.1)), (u18_1, .inl (cI, 6, .inl S_X0_init.2.1)), (u18_2, .inl (cI, 6, .inl S_X0_init.2.2.1)), (q25, .inr (2, [.ref u29_0, .ref u29_1, .ref u29_2, .int S_X2_init.2.2.2])), (u29_0, .inl (cI, 512, .inl S_X2_init.1)), (u29_1, .inl (cI, 512, .inl S_X2_init.2.1)), (u29_2, .inl (cI, 512, .inl S_X2_init.2.2.1))]) [0, 1, 2, 3, 4, 5, 6, 7, 8, 9] rfl
  have hD := hD.sub (ws' := [(x, .inr (3, [.ref q7, .ref q14, .null, .int 0])), (q7, .inl (cR, 8, .inr (.inr (.inr (.inr (fun _ => none)))))), (q14, .inr (0, [.ref u18_0, .ref u18_1, .ref u18_2, .int S_X0_init.2.2.2.1, .int S_X0_init.2.2.2.2.1, .int S_X0_init.2.2.2.2.2.1, .int S_X0_init.2.2.2.2.2.2.1, .double S_X0_init.2.2.2.2.2.2.2])), (u18_0, .inl (cI, 6, .inl S_X0_init.1)), (u18_1, .inl (cI, 6, .inl S_X0_init.2.1)), (u18_2, .inl (cI, 6, .inl S_X0_init.2.2.1)), (q25, .inr (2, [.ref u29_0, .ref u29_1, .ref u29_2, .int S_X2_init.2.2.2])), (u29_0, .inl (cI, 512, .inl S_X2_init.1)), (u29_1, .inl (cI, 512, .inl S_X2_init.2.1)), (u29_2, .inl (cI, 512, .inl S_X2_init.2.2.1))]) [0, 1, 2, 3, 4, 5, 6, 7, 8, 9] (by decide) rfl
  clear hPc hDc hP1 hD1 hk1 hFc hz1 ht hvm
  generalize H1 = H at hP hS ⊢
  refine W.widen (k := 9) (n := 1574) (by omega) (by omega) ?_
  refine va_putF (D := (dC, dI)) (ci := 3) (v := .ref q25) (ty := (.object "Cascadecourt$Ways")) (C := RX3) (T := TX3) (N := 4) hx hb hts in_X3 tyX3 tyX3_ok nmX3 hown hK hP hD hS 0 rfl rfl 2 (by decide) q_14 (fun _ h9 => h9) rfl hin rfl (by decide +kernel) rfl rfl (Nat.le_of_ble_eq_true rfl) dX3_init_32 (fun H locs hP hD hS => ?_)
  have hP : va_P (dC, dI) vwCl [(x, .inr (3, [.ref q7, .ref q14, .ref q25, .int 0])), (q7, .inl (cR, 8, .inr (.inr (.inr (.inr (fun _ => none)))))), (q14, .inr (0, [.ref u18_0, .ref u18_1, .ref u18_2, .int S_X0_init.2.2.2.1, .int S_X0_init.2.2.2.2.1, .int S_X0_init.2.2.2.2.2.1, .int S_X0_init.2.2.2.2.2.2.1, .double S_X0_init.2.2.2.2.2.2.2])), (u18_0, .inl (cI, 6, .inl S_X0_init.1)), (u18_1, .inl (cI, 6, .inl S_X0_init.2.1)), (u18_2, .inl (cI, 6, .inl S_X0_init.2.2.1)), (q25, .inr (2, [.ref u29_0, .ref u29_1, .ref u29_2, .int S_X2_init.2.2.2])), (u29_0, .inl (cI, 512, .inl S_X2_init.1)), (u29_1, .inl (cI, 512, .inl S_X2_init.2.1)), (u29_2, .inl (cI, 512, .inl S_X2_init.2.2.1))] H := hP
  have hD : va_D A [(x, .inr (3, [.ref q7, .ref q14, .ref q25, .int 0])), (q7, .inl (cR, 8, .inr (.inr (.inr (.inr (fun _ => none)))))), (q14, .inr (0, [.ref u18_0, .ref u18_1, .ref u18_2, .int S_X0_init.2.2.2.1, .int S_X0_init.2.2.2.2.1, .int S_X0_init.2.2.2.2.2.1, .int S_X0_init.2.2.2.2.2.2.1, .double S_X0_init.2.2.2.2.2.2.2])), (u18_0, .inl (cI, 6, .inl S_X0_init.1)), (u18_1, .inl (cI, 6, .inl S_X0_init.2.1)), (u18_2, .inl (cI, 6, .inl S_X0_init.2.2.1)), (q25, .inr (2, [.ref u29_0, .ref u29_1, .ref u29_2, .int S_X2_init.2.2.2])), (u29_0, .inl (cI, 512, .inl S_X2_init.1)), (u29_1, .inl (cI, 512, .inl S_X2_init.2.1)), (u29_2, .inl (cI, 512, .inl S_X2_init.2.2.1))] := hD
  refine lv_aload_n hx hb dX3_init_35 rfl (lv_at hl 0 rfl) ?_
  refine lv_iconst (v := 0) hx hb dX3_init_36 (by decide) ?_
  refine va_put (D := (dC, dI)) (ci := 3) (v := .int 0) (ty := .int) (C := RX3) (T := TX3) (N := 4) hx hb hts in_X3 tyX3 tyX3_ok nmX3 hown hK hP hD hS 0 rfl rfl 3 (by decide) q_15 (fun _ h9 => h9) rfl (by decide +kernel) rfl rfl (Nat.le_of_ble_eq_true rfl) dX3_init_37 (fun H locs hP hD hS => ?_)
  have hP : va_P (dC, dI) vwCl [(x, .inr (3, [.ref q7, .ref q14, .ref q25, .int 0])), (q7, .inl (cR, 8, .inr (.inr (.inr (.inr (fun _ => none)))))), (q14, .inr (0, [.ref u18_0, .ref u18_1, .ref u18_2, .int S_X0_init.2.2.2.1, .int S_X0_init.2.2.2.2.1, .int S_X0_init.2.2.2.2.2.1, .int S_X0_init.2.2.2.2.2.2.1, .double S_X0_init.2.2.2.2.2.2.2])), (u18_0, .inl (cI, 6, .inl S_X0_init.1)), (u18_1, .inl (cI, 6, .inl S_X0_init.2.1)), (u18_2, .inl (cI, 6, .inl S_X0_init.2.2.1)), (q25, .inr (2, [.ref u29_0, .ref u29_1, .ref u29_2, .int S_X2_init.2.2.2])), (u29_0, .inl (cI, 512, .inl S_X2_init.1)), (u29_1, .inl (cI, 512, .inl S_X2_init.2.1)), (u29_2, .inl (cI, 512, .inl S_X2_init.2.2.1))] H := hP
  have hD : va_D A [(x, .inr (3, [.ref q7, .ref q14, .ref q25, .int 0])), (q7, .inl (cR, 8, .inr (.inr (.inr (.inr (fun _ => none)))))), (q14, .inr (0, [.ref u18_0, .ref u18_1, .ref u18_2, .int S_X0_init.2.2.2.1, .int S_X0_init.2.2.2.2.1, .int S_X0_init.2.2.2.2.2.1, .int S_X0_init.2.2.2.2.2.2.1, .double S_X0_init.2.2.2.2.2.2.2])), (u18_0, .inl (cI, 6, .inl S_X0_init.1)), (u18_1, .inl (cI, 6, .inl S_X0_init.2.1)), (u18_2, .inl (cI, 6, .inl S_X0_init.2.2.1)), (q25, .inr (2, [.ref u29_0, .ref u29_1, .ref u29_2, .int S_X2_init.2.2.2])), (u29_0, .inl (cI, 512, .inl S_X2_init.1)), (u29_1, .inl (cI, 512, .inl S_X2_init.2.1)), (u29_2, .inl (cI, 512, .inl S_X2_init.2.2.1))] := hD
  exact W.vret hx hb hr (fun t ht hW => ⟨⟨(q7, q14, u18_0, u18_1, u18_2, q25, u29_0, u29_1, u29_2), rfl, trivial, by rw [ht]; exact hP, hE.warm hW, hD⟩, hS.F ht⟩) hS.2.2 dX3_init_40
