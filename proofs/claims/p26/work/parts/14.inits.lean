/-! LAID BY MY PROGRAM wip/gen/p26.py: contracts, method by method -/
theorem p_sameI {D : va_G} {cl : List vw_C} {cI cR cA : ClassId} {s : State} (h : va_K D cl (cT cI cR) s) (h2 : va_K D cl (cT cI cR ++ [(cA, .int)]) s) : cA = cI := by
  have a1 := (h.2 0 _ rfl).2
  have a2 := (h2.2 2 _ rfl).2
  exact Option.some.inj (a2.symm.trans a1)
def S_X0_init  : JS := ((fun _ => 0), (fun _ => 0), (fun _ => 0), 0, 0, 0, 0, 0)
set_option maxHeartbeats 4000000 in
set_option maxRecDepth 100000 in
theorem c_X0_init (l : Launch) (dC : Nat → ClassId) (dI : Nat → Nat → Nat) (cI cR : ClassId) (sz : Nat) (j : Nat)   : Met l yX0_init wsX0_init ({ frames := 1, cells := 3, slots := 18, locals := 12 }) (va_Pc [.ref j] (fun U => U.heap.size = sz ∧ va_P (dC, dI) vwCl [(j, .inr (0, [.null, .null, .null, .int 0, .int 0, .int 0, .int 0, .double 0]))] U.heap ∧ cE (dC, dI) cI cR U ∧ va_D (fun _ => True) [(j, .inr (0, [.null, .null, .null, .int 0, .int 0, .int 0, .int 0, .double 0]))])) (va_Qv (fun _ : Nat × Nat × Nat => True) (fun (u : Nat × Nat × Nat) t => va_P (dC, dI) vwCl (wJ cI j u.1 u.2.1 u.2.2 S_X0_init) t.heap ∧ cE (dC, dI) cI cR t ∧ va_D (va_A [(j, .inr (0, [.null, .null, .null, .int 0, .int 0, .int 0, .int 0, .double 0]))] sz) (wJ cI j u.1 u.2.1 u.2.2 S_X0_init)) (va_A [(j, .inr (0, [.null, .null, .null, .int 0, .int 0, .int 0, .int 0, .double 0]))] sz)) 3 18 (va_A [(j, .inr (0, [.null, .null, .null, .int 0, .int 0, .int 0, .int 0, .double 0]))] sz) := by
  refine Met.ofW (cc := cX0_init) (maxL := 1) (ret := none) (by decide) rfl ?_
  intro p e s m args below meth c s₁ B hml hv
  obtain ⟨rfl, hsz, hP, hE, hD0⟩ := hv
  have hK := hE.1
  have hx := B.exec
  have hb := B.bytes
  have hr := B.returns
  have hts := atoms_spec (ws := wsX0_init) B.pre
  have hown : s.vm.findClass RX0 = some m.cls := findClass_of_methodNamed B.named
  have hlocks := B.notSynchronized
  have hin : meth.name = "<init>" := (name_of_methodNamed B.named B.method).1
  subst hsz
  have hD := hD0.self (sz := s.heap.size)
  generalize hAe : va_A [(j, .inr (0, [.null, .null, .null, .int 0, .int 0, .int 0, .int 0, .double 0]))] s.heap.size = A at hD ⊢
  have hA : ∀ q : Nat, s.heap.size ≤ q → A q := fun q h => by rw [← hAe]; exact Or.inr h
  have hS : va_S A s.heap s.heap [] := va_S.rf
  have hP : va_P (dC, dI) vwCl [(j, .inr (0, [.null, .null, .null, .int 0, .int 0, .int 0, .int 0, .double 0]))] s.heap := hP
  have hl := lv_entry ([.ref j]) (n := 1) (Nat.le_of_ble_eq_true rfl)
  rw [lg_entry_eq]
  generalize (lg_sl ([.ref j]) ++ List.replicate (1 - (lg_sl ([.ref j])).length) Slot.unset).toArray = ls at hl ⊢
  have hl : lv_has ls 1 [(0, .ref j)] := hl
  have q_0 := hts (.methodLink RX0 3 objectInit) (by decide +kernel)
  have q_1 := hts (.instanceMethod objectInit) (by decide +kernel)
  have q_2 := hts (.code objectInit ⟨#[0xb1]⟩ 1 none) (by decide +kernel)
  have q_3 := hts (.arrayClass .int) (by decide +kernel)
  have q_4 := hts (.fieldLink RX0 9 "Cascadecourt$Juggler" "landsAt" "[I") (by decide +kernel)
  have in_X0 : ∀ w ∈ wsX00, w ∈ wsX0_init := by decide +kernel
  have q_5 := hts (.fieldLink RX0 15 "Cascadecourt$Juggler" "flights" "[I") (by decide +kernel)
  have q_6 := hts (.fieldLink RX0 18 "Cascadecourt$Juggler" "drops" "[I") (by decide +kernel)
  refine lv_aload_n hx hb dX0_init_0 rfl (lv_at hl 0 rfl) ?_
  refine W.objInit hx hb hown q_0 q_1 q_2 rfl (by rw [hml]; exact hl.1) rfl dX0_init_1 (Nat.le_of_ble_eq_true rfl) (Nat.le_of_ble_eq_true rfl) ?_
  refine W.eq (g2 := F0 m 4 ls []) rfl ?_
  refine lv_aload_n hx hb dX0_init_4 rfl (lv_at hl 0 rfl) ?_
  refine lv_bipush (v := 6) hx hb dX0_init_5 (by decide) ?_
  refine va_newa (atype := .int) (ty := .int) (a0 := (6, .inl (fun _ => 0))) hx hb q_3 rfl hK hP hD hS hA (fun _ => rfl) (by decide) (by decide) (by decide) (Nat.le_of_ble_eq_true rfl) (Nat.le_of_ble_eq_true rfl) dX0_init_7 (fun q7 cA H hK9 hP hD hS => ?_)
  obtain rfl : cI = cA := (p_sameI hK hK9).symm
  clear hK9
  have hP : va_P (dC, dI) vwCl [(j, .inr (0, [.null, .null, .null, .int 0, .int 0, .int 0, .int 0, .double 0])), (q7, .inl (cI, 6, .inl (fun _ => 0)))] H := hP
  have hD : va_D A [(j, .inr (0, [.null, .null, .null, .int 0, .int 0, .int 0, .int 0, .double 0])), (q7, .inl (cI, 6, .inl (fun _ => 0)))] := hD
  refine W.widen (k := 1) (n := 6) (by omega) (by omega) ?_
  refine va_putF (D := (dC, dI)) (ci := 0) (v := .ref q7) (ty := (.array .int)) (C := RX0) (T := TX0) (N := 8) hx hb hts in_X0 tyX0 tyX0_ok nmX0 hown hK hP hD hS 0 rfl rfl 0 (by decide) q_4 (fun _ h9 => h9) rfl hin rfl (by decide +kernel) rfl rfl (Nat.le_of_ble_eq_true rfl) dX0_init_9 (fun H locs hP hD hS => ?_)
  have hP : va_P (dC, dI) vwCl [(j, .inr (0, [.ref q7, .null, .null, .int 0, .int 0, .int 0, .int 0, .double 0])), (q7, .inl (cI, 6, .inl (fun _ => 0)))] H := hP
  have hD : va_D A [(j, .inr (0, [.ref q7, .null, .null, .int 0, .int 0, .int 0, .int 0, .double 0])), (q7, .inl (cI, 6, .inl (fun _ => 0)))] := hD
  refine lv_aload_n hx hb dX0_init_12 rfl (lv_at hl 0 rfl) ?_
  refine lv_bipush (v := 6) hx hb dX0_init_13 (by decide) ?_
  refine va_newa (atype := .int) (ty := .int) (a0 := (6, .inl (fun _ => 0))) hx hb q_3 rfl hK hP hD hS hA (fun _ => rfl) (by decide) (by decide) (by decide) (Nat.le_of_ble_eq_true rfl) (Nat.le_of_ble_eq_true rfl) dX0_init_15 (fun q15 cA H hK9 hP hD hS => ?_)
  obtain rfl : cI = cA := (p_sameI hK hK9).symm
  clear hK9
  have hP : va_P (dC, dI) vwCl [(j, .inr (0, [.ref q7, .null, .null, .int 0, .int 0, .int 0, .int 0, .double 0])), (q7, .inl (cI, 6, .inl (fun _ => 0))), (q15, .inl (cI, 6, .inl (fun _ => 0)))] H := hP
  have hD : va_D A [(j, .inr (0, [.ref q7, .null, .null, .int 0, .int 0, .int 0, .int 0, .double 0])), (q7, .inl (cI, 6, .inl (fun _ => 0))), (q15, .inl (cI, 6, .inl (fun _ => 0)))] := hD
  refine W.widen (k := 2) (n := 12) (by omega) (by omega) ?_
  refine va_putF (D := (dC, dI)) (ci := 0) (v := .ref q15) (ty := (.array .int)) (C := RX0) (T := TX0) (N := 8) hx hb hts in_X0 tyX0 tyX0_ok nmX0 hown hK hP hD hS 0 rfl rfl 1 (by decide) q_5 (fun _ h9 => h9) rfl hin rfl (by decide +kernel) rfl rfl (Nat.le_of_ble_eq_true rfl) dX0_init_17 (fun H locs hP hD hS => ?_)
  have hP : va_P (dC, dI) vwCl [(j, .inr (0, [.ref q7, .ref q15, .null, .int 0, .int 0, .int 0, .int 0, .double 0])), (q7, .inl (cI, 6, .inl (fun _ => 0))), (q15, .inl (cI, 6, .inl (fun _ => 0)))] H := hP
  have hD : va_D A [(j, .inr (0, [.ref q7, .ref q15, .null, .int 0, .int 0, .int 0, .int 0, .double 0])), (q7, .inl (cI, 6, .inl (fun _ => 0))), (q15, .inl (cI, 6, .inl (fun _ => 0)))] := hD
  refine lv_aload_n hx hb dX0_init_20 rfl (lv_at hl 0 rfl) ?_
  refine lv_bipush (v := 6) hx hb dX0_init_21 (by decide) ?_
  refine va_newa (atype := .int) (ty := .int) (a0 := (6, .inl (fun _ => 0))) hx hb q_3 rfl hK hP hD hS hA (fun _ => rfl) (by decide) (by decide) (by decide) (Nat.le_of_ble_eq_true rfl) (Nat.le_of_ble_eq_true rfl) dX0_init_23 (fun q23 cA H hK9 hP hD hS => ?_)
  obtain rfl : cI = cA := (p_sameI hK hK9).symm
  clear hK9
  have hP : va_P (dC, dI) vwCl [(j, .inr (0, [.ref q7, .ref q15, .null, .int 0, .int 0, .int 0, .int 0, .double 0])), (q7, .inl (cI, 6, .inl (fun _ => 0))), (q15, .inl (cI, 6, .inl (fun _ => 0))), (q23, .inl (cI, 6, .inl (fun _ => 0)))] H := hP
  have hD : va_D A [(j, .inr (0, [.ref q7, .ref q15, .null, .int 0, .int 0, .int 0, .int 0, .double 0])), (q7, .inl (cI, 6, .inl (fun _ => 0))), (q15, .inl (cI, 6, .inl (fun _ => 0))), (q23, .inl (cI, 6, .inl (fun _ => 0)))] := hD
  refine W.widen (k := 3) (n := 18) (by omega) (by omega) ?_
  refine va_putF (D := (dC, dI)) (ci := 0) (v := .ref q23) (ty := (.array .int)) (C := RX0) (T := TX0) (N := 8) hx hb hts in_X0 tyX0 tyX0_ok nmX0 hown hK hP hD hS 0 rfl rfl 2 (by decide) q_6 (fun _ h9 => h9) rfl hin rfl (by decide +kernel) rfl rfl (Nat.le_of_ble_eq_true rfl) dX0_init_25 (fun H locs hP hD hS => ?_)
  have hP : va_P (dC, dI) vwCl [(j, .inr (0, [.ref q7, .ref q15, .ref q23, .int 0, .int 0, .int 0, .int 0, .double 0])), (q7, .inl (cI, 6, .inl (fun _ => 0))), (q15, .inl (cI, 6, .inl (fun _ => 0))), (q23, .inl (cI, 6, .inl (fun _ => 0)))] H := hP
  have hD : va_D A [(j, .inr (0, [.ref q7, .ref q15, .ref q23, .int 0, .int 0, .int 0, .int 0, .double 0])), (q7, .inl (cI, 6, .inl (fun _ => 0))), (q15, .inl (cI, 6, .inl (fun _ => 0))), (q23, .inl (cI, 6, .inl (fun _ => 0)))] := hD
  have hP := hP.sub (ws' := [(j, .inr (0, [.ref q7, .ref q15, .ref q23, .int 0, .int 0, .int 0, .int 0, .double 0])), (q7, .inl (cI, 6, .inl (fun _ => 0))), (q15, .inl (cI, 6, .inl (fun _ => 0))), (q23, .inl (cI, 6, .inl (fun _ => 0)))]) [0, 1, 2, 3] rfl
  have hD := hD.sub (ws' := [(j, .inr (0, [.ref q7, .ref q15, .ref q23, .int 0, .int 0, .int 0, .int 0, .double 0])), (q7, .inl (cI, 6, .inl (fun _ => 0))), (q15, .inl (cI, 6, .inl (fun _ => 0))), (q23, .inl (cI, 6, .inl (fun _ => 0)))]) [0, 1, 2, 3] (by decide) rfl
  have e9 : S_X0_init = ((fun _ => 0), (fun _ => 0), (fun _ => 0), 0, 0, 0, 0, 0) := by simp only [S_X0_init]
  exact W.vret hx hb hr (fun t ht hW => ⟨⟨(q7, q15, q23), rfl, trivial, by rw [ht, e9]; exact hP, hE.warm hW, by rw [e9]; exact hD⟩, hS.F ht⟩) hS.2.2 dX0_init_28
def S_X2_init  : YS := ((fun _ => 0), (fun _ => 0), (fun _ => 0), (-1))
set_option maxHeartbeats 4000000 in
set_option maxRecDepth 100000 in
theorem c_X2_init (l : Launch) (dC : Nat → ClassId) (dI : Nat → Nat → Nat) (cI cR : ClassId) (sz : Nat) (y : Nat)   : Met l yX2_init wsX2_init ({ frames := 1, cells := 3, slots := 1536, locals := 12 }) (va_Pc [.ref y] (fun U => U.heap.size = sz ∧ va_P (dC, dI) vwCl [(y, .inr (2, [.null, .null, .null, .int 0]))] U.heap ∧ cE (dC, dI) cI cR U ∧ va_D (fun _ => True) [(y, .inr (2, [.null, .null, .null, .int 0]))])) (va_Qv (fun _ : Nat × Nat × Nat => True) (fun (u : Nat × Nat × Nat) t => va_P (dC, dI) vwCl (wY cI y u.1 u.2.1 u.2.2 S_X2_init) t.heap ∧ cE (dC, dI) cI cR t ∧ va_D (va_A [(y, .inr (2, [.null, .null, .null, .int 0]))] sz) (wY cI y u.1 u.2.1 u.2.2 S_X2_init)) (va_A [(y, .inr (2, [.null, .null, .null, .int 0]))] sz)) 3 1536 (va_A [(y, .inr (2, [.null, .null, .null, .int 0]))] sz) := by
  refine Met.ofW (cc := cX2_init) (maxL := 1) (ret := none) (by decide) rfl ?_
  intro p e s m args below meth c s₁ B hml hv
  obtain ⟨rfl, hsz, hP, hE, hD0⟩ := hv
  have hK := hE.1
  have hx := B.exec
  have hb := B.bytes
  have hr := B.returns
  have hts := atoms_spec (ws := wsX2_init) B.pre
  have hown : s.vm.findClass RX2 = some m.cls := findClass_of_methodNamed B.named
  have hlocks := B.notSynchronized
  have hin : meth.name = "<init>" := (name_of_methodNamed B.named B.method).1
  subst hsz
  have hD := hD0.self (sz := s.heap.size)
  generalize hAe : va_A [(y, .inr (2, [.null, .null, .null, .int 0]))] s.heap.size = A at hD ⊢
  have hA : ∀ q : Nat, s.heap.size ≤ q → A q := fun q h => by rw [← hAe]; exact Or.inr h
  have hS : va_S A s.heap s.heap [] := va_S.rf
  have hP : va_P (dC, dI) vwCl [(y, .inr (2, [.null, .null, .null, .int 0]))] s.heap := hP
  have hl := lv_entry ([.ref y]) (n := 1) (Nat.le_of_ble_eq_true rfl)
  rw [lg_entry_eq]
  generalize (lg_sl ([.ref y]) ++ List.replicate (1 - (lg_sl ([.ref y])).length) Slot.unset).toArray = ls at hl ⊢
  have hl : lv_has ls 1 [(0, .ref y)] := hl
  have q_0 := hts (.methodLink RX2 3 objectInit) (by decide +kernel)
  have q_1 := hts (.instanceMethod objectInit) (by decide +kernel)
  have q_2 := hts (.code objectInit ⟨#[0xb1]⟩ 1 none) (by decide +kernel)
  have q_3 := hts (.arrayClass .int) (by decide +kernel)
  have q_4 := hts (.fieldLink RX2 9 "Cascadecourt$Ways" "steps" "[I") (by decide +kernel)
  have in_X2 : ∀ w ∈ wsX20, w ∈ wsX2_init := by decide +kernel
  have q_5 := hts (.fieldLink RX2 15 "Cascadecourt$Ways" "firstThrows" "[I") (by decide +kernel)
  have q_6 := hts (.fieldLink RX2 18 "Cascadecourt$Ways" "waiting" "[I") (by decide +kernel)
  have q_7 := hts (.fieldLink RX2 21 "Cascadecourt$Ways" "start" "I") (by decide +kernel)
  refine lv_aload_n hx hb dX2_init_0 rfl (lv_at hl 0 rfl) ?_
  refine W.objInit hx hb hown q_0 q_1 q_2 rfl (by rw [hml]; exact hl.1) rfl dX2_init_1 (Nat.le_of_ble_eq_true rfl) (Nat.le_of_ble_eq_true rfl) ?_
  refine W.eq (g2 := F0 m 4 ls []) rfl ?_
  refine lv_aload_n hx hb dX2_init_4 rfl (lv_at hl 0 rfl) ?_
  refine lv_sipush (v := 512) hx hb dX2_init_5 (by decide) ?_
  refine va_newa (atype := .int) (ty := .int) (a0 := (512, .inl (fun _ => 0))) hx hb q_3 rfl hK hP hD hS hA (fun _ => rfl) (by decide) (by decide) (by decide) (Nat.le_of_ble_eq_true rfl) (Nat.le_of_ble_eq_true rfl) dX2_init_8 (fun q8 cA H hK9 hP hD hS => ?_)
  obtain rfl : cI = cA := (p_sameI hK hK9).symm
  clear hK9
  have hP : va_P (dC, dI) vwCl [(y, .inr (2, [.null, .null, .null, .int 0])), (q8, .inl (cI, 512, .inl (fun _ => 0)))] H := hP
  have hD : va_D A [(y, .inr (2, [.null, .null, .null, .int 0])), (q8, .inl (cI, 512, .inl (fun _ => 0)))] := hD
  refine W.widen (k := 1) (n := 512) (by omega) (by omega) ?_
  refine va_putF (D := (dC, dI)) (ci := 2) (v := .ref q8) (ty := (.array .int)) (C := RX2) (T := TX2) (N := 4) hx hb hts in_X2 tyX2 tyX2_ok nmX2 hown hK hP hD hS 0 rfl rfl 0 (by decide) q_4 (fun _ h9 => h9) rfl hin rfl (by decide +kernel) rfl rfl (Nat.le_of_ble_eq_true rfl) dX2_init_10 (fun H locs hP hD hS => ?_)
  have hP : va_P (dC, dI) vwCl [(y, .inr (2, [.ref q8, .null, .null, .int 0])), (q8, .inl (cI, 512, .inl (fun _ => 0)))] H := hP
  have hD : va_D A [(y, .inr (2, [.ref q8, .null, .null, .int 0])), (q8, .inl (cI, 512, .inl (fun _ => 0)))] := hD
  refine lv_aload_n hx hb dX2_init_13 rfl (lv_at hl 0 rfl) ?_
  refine lv_sipush (v := 512) hx hb dX2_init_14 (by decide) ?_
  refine va_newa (atype := .int) (ty := .int) (a0 := (512, .inl (fun _ => 0))) hx hb q_3 rfl hK hP hD hS hA (fun _ => rfl) (by decide) (by decide) (by decide) (Nat.le_of_ble_eq_true rfl) (Nat.le_of_ble_eq_true rfl) dX2_init_17 (fun q17 cA H hK9 hP hD hS => ?_)
  obtain rfl : cI = cA := (p_sameI hK hK9).symm
  clear hK9
  have hP : va_P (dC, dI) vwCl [(y, .inr (2, [.ref q8, .null, .null, .int 0])), (q8, .inl (cI, 512, .inl (fun _ => 0))), (q17, .inl (cI, 512, .inl (fun _ => 0)))] H := hP
  have hD : va_D A [(y, .inr (2, [.ref q8, .null, .null, .int 0])), (q8, .inl (cI, 512, .inl (fun _ => 0))), (q17, .inl (cI, 512, .inl (fun _ => 0)))] := hD
  refine W.widen (k := 2) (n := 1024) (by omega) (by omega) ?_
  refine va_putF (D := (dC, dI)) (ci := 2) (v := .ref q17) (ty := (.array .int)) (C := RX2) (T := TX2) (N := 4) hx hb hts in_X2 tyX2 tyX2_ok nmX2 hown hK hP hD hS 0 rfl rfl 1 (by decide) q_5 (fun _ h9 => h9) rfl hin rfl (by decide +kernel) rfl rfl (Nat.le_of_ble_eq_true rfl) dX2_init_19 (fun H locs hP hD hS => ?_)
  have hP : va_P (dC, dI) vwCl [(y, .inr (2, [.ref q8, .ref q17, .null, .int 0])), (q8, .inl (cI, 512, .inl (fun _ => 0))), (q17, .inl (cI, 512, .inl (fun _ => 0)))] H := hP
  have hD : va_D A [(y, .inr (2, [.ref q8, .ref q17, .null, .int 0])), (q8, .inl (cI, 512, .inl (fun _ => 0))), (q17, .inl (cI, 512, .inl (fun _ => 0)))] := hD
  refine lv_aload_n hx hb dX2_init_22 rfl (lv_at hl 0 rfl) ?_
  refine lv_sipush (v := 512) hx hb dX2_init_23 (by decide) ?_
  refine va_newa (atype := .int) (ty := .int) (a0 := (512, .inl (fun _ => 0))) hx hb q_3 rfl hK hP hD hS hA (fun _ => rfl) (by decide) (by decide) (by decide) (Nat.le_of_ble_eq_true rfl) (Nat.le_of_ble_eq_true rfl) dX2_init_26 (fun q26 cA H hK9 hP hD hS => ?_)
  obtain rfl : cI = cA := (p_sameI hK hK9).symm
  clear hK9
  have hP : va_P (dC, dI) vwCl [(y, .inr (2, [.ref q8, .ref q17, .null, .int 0])), (q8, .inl (cI, 512, .inl (fun _ => 0))), (q17, .inl (cI, 512, .inl (fun _ => 0))), (q26, .inl (cI, 512, .inl (fun _ => 0)))] H := hP
  have hD : va_D A [(y, .inr (2, [.ref q8, .ref q17, .null, .int 0])), (q8, .inl (cI, 512, .inl (fun _ => 0))), (q17, .inl (cI, 512, .inl (fun _ => 0))), (q26, .inl (cI, 512, .inl (fun _ => 0)))] := hD
  refine W.widen (k := 3) (n := 1536) (by omega) (by omega) ?_
  refine va_putF (D := (dC, dI)) (ci := 2) (v := .ref q26) (ty := (.array .int)) (C := RX2) (T := TX2) (N := 4) hx hb hts in_X2 tyX2 tyX2_ok nmX2 hown hK hP hD hS 0 rfl rfl 2 (by decide) q_6 (fun _ h9 => h9) rfl hin rfl (by decide +kernel) rfl rfl (Nat.le_of_ble_eq_true rfl) dX2_init_28 (fun H locs hP hD hS => ?_)
  have hP : va_P (dC, dI) vwCl [(y, .inr (2, [.ref q8, .ref q17, .ref q26, .int 0])), (q8, .inl (cI, 512, .inl (fun _ => 0))), (q17, .inl (cI, 512, .inl (fun _ => 0))), (q26, .inl (cI, 512, .inl (fun _ => 0)))] H := hP
  have hD : va_D A [(y, .inr (2, [.ref q8, .ref q17, .ref q26, .int 0])), (q8, .inl (cI, 512, .inl (fun _ => 0))), (q17, .inl (cI, 512, .inl (fun _ => 0))), (q26, .inl (cI, 512, .inl (fun _ => 0)))] := hD
  have hP := hP.sub (ws' := [(y, .inr (2, [.ref q8, .ref q17, .ref q26, .int 0])), (q8, .inl (cI, 512, .inl (fun _ => 0))), (q17, .inl (cI, 512, .inl (fun _ => 0))), (q26, .inl (cI, 512, .inl (fun _ => 0)))]) [0, 1, 2, 3] rfl
  have hD := hD.sub (ws' := [(y, .inr (2, [.ref q8, .ref q17, .ref q26, .int 0])), (q8, .inl (cI, 512, .inl (fun _ => 0))), (q17, .inl (cI, 512, .inl (fun _ => 0))), (q26, .inl (cI, 512, .inl (fun _ => 0)))]) [0, 1, 2, 3] (by decide) rfl
  refine lv_aload_n hx hb dX2_init_31 rfl (lv_at hl 0 rfl) ?_
  refine lv_iconst (v := (-1)) hx hb dX2_init_32 (by decide) ?_
  refine va_put (D := (dC, dI)) (ci := 2) (v := .int (-1)) (ty := .int) (C := RX2) (T := TX2) (N := 4) hx hb hts in_X2 tyX2 tyX2_ok nmX2 hown hK hP hD hS 0 rfl rfl 3 (by decide) q_7 (fun _ h9 => h9) rfl (by decide +kernel) rfl rfl (Nat.le_of_ble_eq_true rfl) dX2_init_33 (fun H locs hP hD hS => ?_)
  have hP : va_P (dC, dI) vwCl [(y, .inr (2, [.ref q8, .ref q17, .ref q26, .int (-1)])), (q8, .inl (cI, 512, .inl (fun _ => 0))), (q17, .inl (cI, 512, .inl (fun _ => 0))), (q26, .inl (cI, 512, .inl (fun _ => 0)))] H := hP
  have hD : va_D A [(y, .inr (2, [.ref q8, .ref q17, .ref q26, .int (-1)])), (q8, .inl (cI, 512, .inl (fun _ => 0))), (q17, .inl (cI, 512, .inl (fun _ => 0))), (q26, .inl (cI, 512, .inl (fun _ => 0)))] := hD
  have e9 : S_X2_init = ((fun _ => 0), (fun _ => 0), (fun _ => 0), (-1)) := by simp only [S_X2_init]
  exact W.vret hx hb hr (fun t ht hW => ⟨⟨(q8, q17, q26), rfl, trivial, by rw [ht, e9]; exact hP, hE.warm hW, by rw [e9]; exact hD⟩, hS.F ht⟩) hS.2.2 dX2_init_36
def G_X1_init_56 (p0 : Int32) (sl : Nat) : Nat → Int32 → Int32 → (Nat → Int32) → RS
  | 0, v3_56, v4_56, g0_0_56 => (S_X1_settle (g0_0_56, (fun _ => 0), (fun _ => 0), (fun _ => 0), (fun _ => 0), nI sl, 0))
  | mm + 1, v3_56, v4_56, g0_0_56 => G_X1_init_56 p0 sl mm (v3_56 / 10) (v4_56 + (-1)) (S_X3_setCell 8 g0_0_56 v4_56 (v3_56 - v3_56 / 10 * 10))
def S_X1_init (p0 : Int32) (sl : Nat) : RS := G_X1_init_56 p0 sl sl p0 ((nI sl) - 1) (fun _ => 0)
set_option maxHeartbeats 4000000 in
set_option maxRecDepth 100000 in
theorem c_X1_init (l : Launch) (dC : Nat → ClassId) (dI : Nat → Nat → Nat) (cI cR : ClassId) (sz : Nat) (h : Nat) (p0 : Int32) (sl : Nat) (hsl : 1 ≤ sl ∧ sl ≤ 8) : Met l yX1_init wsX1_init ({ frames := 5, cells := 5, slots := 40, locals := 111 }) (va_Pc [.ref h, .int p0, .int (nI sl)] (fun U => U.heap.size = sz ∧ va_P (dC, dI) vwCl [(h, .inr (1, [.null, .null, .null, .null, .null, .int 0, .int 0]))] U.heap ∧ cE (dC, dI) cI cR U ∧ va_D (fun _ => True) [(h, .inr (1, [.null, .null, .null, .null, .null, .int 0, .int 0]))])) (va_Qv (fun _ : Nat × Nat × Nat × Nat × Nat => True) (fun (u : Nat × Nat × Nat × Nat × Nat) t => va_P (dC, dI) vwCl (wR cI h u.1 u.2.1 u.2.2.1 u.2.2.2.1 u.2.2.2.2 (S_X1_init p0 sl)) t.heap ∧ cE (dC, dI) cI cR t ∧ va_D (va_A [(h, .inr (1, [.null, .null, .null, .null, .null, .int 0, .int 0]))] sz) (wR cI h u.1 u.2.1 u.2.2.1 u.2.2.2.1 u.2.2.2.2 (S_X1_init p0 sl))) (va_A [(h, .inr (1, [.null, .null, .null, .null, .null, .int 0, .int 0]))] sz)) 5 40 (va_A [(h, .inr (1, [.null, .null, .null, .null, .null, .int 0, .int 0]))] sz) := by
  refine Met.ofW (cc := cX1_init) (maxL := 5) (ret := none) (by decide) rfl ?_
  intro p e s m args below meth c s₁ B hml hv
  obtain ⟨rfl, hsz, hP, hE, hD0⟩ := hv
  have hK := hE.1
  have hx := B.exec
  have hb := B.bytes
  have hr := B.returns
  have hts := atoms_spec (ws := wsX1_init) B.pre
  have hown : s.vm.findClass RX1 = some m.cls := findClass_of_methodNamed B.named
  have hlocks := B.notSynchronized
  have hin : meth.name = "<init>" := (name_of_methodNamed B.named B.method).1
  subst hsz
  have hD := hD0.self (sz := s.heap.size)
  generalize hAe : va_A [(h, .inr (1, [.null, .null, .null, .null, .null, .int 0, .int 0]))] s.heap.size = A at hD ⊢
  have hA : ∀ q : Nat, s.heap.size ≤ q → A q := fun q h => by rw [← hAe]; exact Or.inr h
  have hS : va_S A s.heap s.heap [] := va_S.rf
  have hP : va_P (dC, dI) vwCl [(h, .inr (1, [.null, .null, .null, .null, .null, .int 0, .int 0]))] s.heap := hP
  have hl := lv_entry ([.ref h, .int p0, .int (nI sl)]) (n := 5) (Nat.le_of_ble_eq_true rfl)
  rw [lg_entry_eq]
  generalize (lg_sl ([.ref h, .int p0, .int (nI sl)]) ++ List.replicate (5 - (lg_sl ([.ref h, .int p0, .int (nI sl)])).length) Slot.unset).toArray = ls at hl ⊢
  have hl : lv_has ls 5 [(0, .ref h), (1, .int p0), (2, .int (nI sl))] := hl
  have q_0 := hts (.methodLink RX1 3 objectInit) (by decide +kernel)
  have q_1 := hts (.instanceMethod objectInit) (by decide +kernel)
  have q_2 := hts (.code objectInit ⟨#[0xb1]⟩ 1 none) (by decide +kernel)
  have q_3 := hts (.arrayClass .int) (by decide +kernel)
  have q_4 := hts (.fieldLink RX1 9 "Cascadecourt$Row" "heights" "[I") (by decide +kernel)
  have in_X1 : ∀ w ∈ wsX10, w ∈ wsX1_init := by decide +kernel
  have q_5 := hts (.fieldLink RX1 15 "Cascadecourt$Row" "work" "[I") (by decide +kernel)
  have q_6 := hts (.fieldLink RX1 18 "Cascadecourt$Row" "landings" "[I") (by decide +kernel)
  have q_7 := hts (.fieldLink RX1 21 "Cascadecourt$Row" "turns" "[I") (by decide +kernel)
  have q_8 := hts (.fieldLink RX1 24 "Cascadecourt$Row" "states" "[I") (by decide +kernel)
  have q_9 := hts (.fieldLink RX1 27 "Cascadecourt$Row" "length" "I") (by decide +kernel)
  have q_10 := hts (.initialized RX3) (by decide +kernel)
  have q_11 := hts (.static yX3_setCell) (by decide +kernel)
  refine lv_aload_n hx hb dX1_init_0 rfl (lv_at hl 0 rfl) ?_
  refine W.objInit hx hb hown q_0 q_1 q_2 rfl (by rw [hml]; exact hl.1) rfl dX1_init_1 (Nat.le_of_ble_eq_true rfl) (Nat.le_of_ble_eq_true rfl) ?_
  refine W.eq (g2 := F0 m 4 ls []) rfl ?_
  refine lv_aload_n hx hb dX1_init_4 rfl (lv_at hl 0 rfl) ?_
  refine lv_bipush (v := 8) hx hb dX1_init_5 (by decide) ?_
  refine va_newa (atype := .int) (ty := .int) (a0 := (8, .inl (fun _ => 0))) hx hb q_3 rfl hK hP hD hS hA (fun _ => rfl) (by decide) (by decide) (by decide) (Nat.le_of_ble_eq_true rfl) (Nat.le_of_ble_eq_true rfl) dX1_init_7 (fun q7 cA H hK9 hP hD hS => ?_)
  obtain rfl : cI = cA := (p_sameI hK hK9).symm
  clear hK9
  have hP : va_P (dC, dI) vwCl [(h, .inr (1, [.null, .null, .null, .null, .null, .int 0, .int 0])), (q7, .inl (cI, 8, .inl (fun _ => 0)))] H := hP
  have hD : va_D A [(h, .inr (1, [.null, .null, .null, .null, .null, .int 0, .int 0])), (q7, .inl (cI, 8, .inl (fun _ => 0)))] := hD
  refine W.widen (k := 1) (n := 8) (by omega) (by omega) ?_
  refine va_putF (D := (dC, dI)) (ci := 1) (v := .ref q7) (ty := (.array .int)) (C := RX1) (T := TX1) (N := 7) hx hb hts in_X1 tyX1 tyX1_ok nmX1 hown hK hP hD hS 0 rfl rfl 0 (by decide) q_4 (fun _ h9 => h9) rfl hin rfl (by decide +kernel) rfl rfl (Nat.le_of_ble_eq_true rfl) dX1_init_9 (fun H locs hP hD hS => ?_)
  have hP : va_P (dC, dI) vwCl [(h, .inr (1, [.ref q7, .null, .null, .null, .null, .int 0, .int 0])), (q7, .inl (cI, 8, .inl (fun _ => 0)))] H := hP
  have hD : va_D A [(h, .inr (1, [.ref q7, .null, .null, .null, .null, .int 0, .int 0])), (q7, .inl (cI, 8, .inl (fun _ => 0)))] := hD
  refine lv_aload_n hx hb dX1_init_12 rfl (lv_at hl 0 rfl) ?_
  refine lv_bipush (v := 8) hx hb dX1_init_13 (by decide) ?_
  refine va_newa (atype := .int) (ty := .int) (a0 := (8, .inl (fun _ => 0))) hx hb q_3 rfl hK hP hD hS hA (fun _ => rfl) (by decide) (by decide) (by decide) (Nat.le_of_ble_eq_true rfl) (Nat.le_of_ble_eq_true rfl) dX1_init_15 (fun q15 cA H hK9 hP hD hS => ?_)
  obtain rfl : cI = cA := (p_sameI hK hK9).symm
  clear hK9
  have hP : va_P (dC, dI) vwCl [(h, .inr (1, [.ref q7, .null, .null, .null, .null, .int 0, .int 0])), (q7, .inl (cI, 8, .inl (fun _ => 0))), (q15, .inl (cI, 8, .inl (fun _ => 0)))] H := hP
  have hD : va_D A [(h, .inr (1, [.ref q7, .null, .null, .null, .null, .int 0, .int 0])), (q7, .inl (cI, 8, .inl (fun _ => 0))), (q15, .inl (cI, 8, .inl (fun _ => 0)))] := hD
  refine W.widen (k := 2) (n := 16) (by omega) (by omega) ?_
  refine va_putF (D := (dC, dI)) (ci := 1) (v := .ref q15) (ty := (.array .int)) (C := RX1) (T := TX1) (N := 7) hx hb hts in_X1 tyX1 tyX1_ok nmX1 hown hK hP hD hS 0 rfl rfl 1 (by decide) q_5 (fun _ h9 => h9) rfl hin rfl (by decide +kernel) rfl rfl (Nat.le_of_ble_eq_true rfl) dX1_init_17 (fun H locs hP hD hS => ?_)
  have hP : va_P (dC, dI) vwCl [(h, .inr (1, [.ref q7, .ref q15, .null, .null, .null, .int 0, .int 0])), (q7, .inl (cI, 8, .inl (fun _ => 0))), (q15, .inl (cI, 8, .inl (fun _ => 0)))] H := hP
  have hD : va_D A [(h, .inr (1, [.ref q7, .ref q15, .null, .null, .null, .int 0, .int 0])), (q7, .inl (cI, 8, .inl (fun _ => 0))), (q15, .inl (cI, 8, .inl (fun _ => 0)))] := hD
  refine lv_aload_n hx hb dX1_init_20 rfl (lv_at hl 0 rfl) ?_
  refine lv_bipush (v := 8) hx hb dX1_init_21 (by decide) ?_
  refine va_newa (atype := .int) (ty := .int) (a0 := (8, .inl (fun _ => 0))) hx hb q_3 rfl hK hP hD hS hA (fun _ => rfl) (by decide) (by decide) (by decide) (Nat.le_of_ble_eq_true rfl) (Nat.le_of_ble_eq_true rfl) dX1_init_23 (fun q23 cA H hK9 hP hD hS => ?_)
  obtain rfl : cI = cA := (p_sameI hK hK9).symm
  clear hK9
  have hP : va_P (dC, dI) vwCl [(h, .inr (1, [.ref q7, .ref q15, .null, .null, .null, .int 0, .int 0])), (q7, .inl (cI, 8, .inl (fun _ => 0))), (q15, .inl (cI, 8, .inl (fun _ => 0))), (q23, .inl (cI, 8, .inl (fun _ => 0)))] H := hP
  have hD : va_D A [(h, .inr (1, [.ref q7, .ref q15, .null, .null, .null, .int 0, .int 0])), (q7, .inl (cI, 8, .inl (fun _ => 0))), (q15, .inl (cI, 8, .inl (fun _ => 0))), (q23, .inl (cI, 8, .inl (fun _ => 0)))] := hD
  refine W.widen (k := 3) (n := 24) (by omega) (by omega) ?_
  refine va_putF (D := (dC, dI)) (ci := 1) (v := .ref q23) (ty := (.array .int)) (C := RX1) (T := TX1) (N := 7) hx hb hts in_X1 tyX1 tyX1_ok nmX1 hown hK hP hD hS 0 rfl rfl 2 (by decide) q_6 (fun _ h9 => h9) rfl hin rfl (by decide +kernel) rfl rfl (Nat.le_of_ble_eq_true rfl) dX1_init_25 (fun H locs hP hD hS => ?_)
  have hP : va_P (dC, dI) vwCl [(h, .inr (1, [.ref q7, .ref q15, .ref q23, .null, .null, .int 0, .int 0])), (q7, .inl (cI, 8, .inl (fun _ => 0))), (q15, .inl (cI, 8, .inl (fun _ => 0))), (q23, .inl (cI, 8, .inl (fun _ => 0)))] H := hP
  have hD : va_D A [(h, .inr (1, [.ref q7, .ref q15, .ref q23, .null, .null, .int 0, .int 0])), (q7, .inl (cI, 8, .inl (fun _ => 0))), (q15, .inl (cI, 8, .inl (fun _ => 0))), (q23, .inl (cI, 8, .inl (fun _ => 0)))] := hD
  refine lv_aload_n hx hb dX1_init_28 rfl (lv_at hl 0 rfl) ?_
  refine lv_bipush (v := 8) hx hb dX1_init_29 (by decide) ?_
  refine va_newa (atype := .int) (ty := .int) (a0 := (8, .inl (fun _ => 0))) hx hb q_3 rfl hK hP hD hS hA (fun _ => rfl) (by decide) (by decide) (by decide) (Nat.le_of_ble_eq_true rfl) (Nat.le_of_ble_eq_true rfl) dX1_init_31 (fun q31 cA H hK9 hP hD hS => ?_)
  obtain rfl : cI = cA := (p_sameI hK hK9).symm
  clear hK9
  have hP : va_P (dC, dI) vwCl [(h, .inr (1, [.ref q7, .ref q15, .ref q23, .null, .null, .int 0, .int 0])), (q7, .inl (cI, 8, .inl (fun _ => 0))), (q15, .inl (cI, 8, .inl (fun _ => 0))), (q23, .inl (cI, 8, .inl (fun _ => 0))), (q31, .inl (cI, 8, .inl (fun _ => 0)))] H := hP
  have hD : va_D A [(h, .inr (1, [.ref q7, .ref q15, .ref q23, .null, .null, .int 0, .int 0])), (q7, .inl (cI, 8, .inl (fun _ => 0))), (q15, .inl (cI, 8, .inl (fun _ => 0))), (q23, .inl (cI, 8, .inl (fun _ => 0))), (q31, .inl (cI, 8, .inl (fun _ => 0)))] := hD
  refine W.widen (k := 4) (n := 32) (by omega) (by omega) ?_
  refine va_putF (D := (dC, dI)) (ci := 1) (v := .ref q31) (ty := (.array .int)) (C := RX1) (T := TX1) (N := 7) hx hb hts in_X1 tyX1 tyX1_ok nmX1 hown hK hP hD hS 0 rfl rfl 3 (by decide) q_7 (fun _ h9 => h9) rfl hin rfl (by decide +kernel) rfl rfl (Nat.le_of_ble_eq_true rfl) dX1_init_33 (fun H locs hP hD hS => ?_)
  have hP : va_P (dC, dI) vwCl [(h, .inr (1, [.ref q7, .ref q15, .ref q23, .ref q31, .null, .int 0, .int 0])), (q7, .inl (cI, 8, .inl (fun _ => 0))), (q15, .inl (cI, 8, .inl (fun _ => 0))), (q23, .inl (cI, 8, .inl (fun _ => 0))), (q31, .inl (cI, 8, .inl (fun _ => 0)))] H := hP
  have hD : va_D A [(h, .inr (1, [.ref q7, .ref q15, .ref q23, .ref q31, .null, .int 0, .int 0])), (q7, .inl (cI, 8, .inl (fun _ => 0))), (q15, .inl (cI, 8, .inl (fun _ => 0))), (q23, .inl (cI, 8, .inl (fun _ => 0))), (q31, .inl (cI, 8, .inl (fun _ => 0)))] := hD
  refine lv_aload_n hx hb dX1_init_36 rfl (lv_at hl 0 rfl) ?_
  refine lv_bipush (v := 8) hx hb dX1_init_37 (by decide) ?_
  refine va_newa (atype := .int) (ty := .int) (a0 := (8, .inl (fun _ => 0))) hx hb q_3 rfl hK hP hD hS hA (fun _ => rfl) (by decide) (by decide) (by decide) (Nat.le_of_ble_eq_true rfl) (Nat.le_of_ble_eq_true rfl) dX1_init_39 (fun q39 cA H hK9 hP hD hS => ?_)
  obtain rfl : cI = cA := (p_sameI hK hK9).symm
  clear hK9
  have hP : va_P (dC, dI) vwCl [(h, .inr (1, [.ref q7, .ref q15, .ref q23, .ref q31, .null, .int 0, .int 0])), (q7, .inl (cI, 8, .inl (fun _ => 0))), (q15, .inl (cI, 8, .inl (fun _ => 0))), (q23, .inl (cI, 8, .inl (fun _ => 0))), (q31, .inl (cI, 8, .inl (fun _ => 0))), (q39, .inl (cI, 8, .inl (fun _ => 0)))] H := hP
  have hD : va_D A [(h, .inr (1, [.ref q7, .ref q15, .ref q23, .ref q31, .null, .int 0, .int 0])), (q7, .inl (cI, 8, .inl (fun _ => 0))), (q15, .inl (cI, 8, .inl (fun _ => 0))), (q23, .inl (cI, 8, .inl (fun _ => 0))), (q31, .inl (cI, 8, .inl (fun _ => 0))), (q39, .inl (cI, 8, .inl (fun _ => 0)))] := hD
  refine W.widen (k := 5) (n := 40) (by omega) (by omega) ?_
  refine va_putF (D := (dC, dI)) (ci := 1) (v := .ref q39) (ty := (.array .int)) (C := RX1) (T := TX1) (N := 7) hx hb hts in_X1 tyX1 tyX1_ok nmX1 hown hK hP hD hS 0 rfl rfl 4 (by decide) q_8 (fun _ h9 => h9) rfl hin rfl (by decide +kernel) rfl rfl (Nat.le_of_ble_eq_true rfl) dX1_init_41 (fun H locs hP hD hS => ?_)
  have hP : va_P (dC, dI) vwCl [(h, .inr (1, [.ref q7, .ref q15, .ref q23, .ref q31, .ref q39, .int 0, .int 0])), (q7, .inl (cI, 8, .inl (fun _ => 0))), (q15, .inl (cI, 8, .inl (fun _ => 0))), (q23, .inl (cI, 8, .inl (fun _ => 0))), (q31, .inl (cI, 8, .inl (fun _ => 0))), (q39, .inl (cI, 8, .inl (fun _ => 0)))] H := hP
  have hD : va_D A [(h, .inr (1, [.ref q7, .ref q15, .ref q23, .ref q31, .ref q39, .int 0, .int 0])), (q7, .inl (cI, 8, .inl (fun _ => 0))), (q15, .inl (cI, 8, .inl (fun _ => 0))), (q23, .inl (cI, 8, .inl (fun _ => 0))), (q31, .inl (cI, 8, .inl (fun _ => 0))), (q39, .inl (cI, 8, .inl (fun _ => 0)))] := hD
  have hP := hP.sub (ws' := [(h, .inr (1, [.ref q7, .ref q15, .ref q23, .ref q31, .ref q39, .int 0, .int 0])), (q7, .inl (cI, 8, .inl (fun _ => 0))), (q15, .inl (cI, 8, .inl (fun _ => 0))), (q23, .inl (cI, 8, .inl (fun _ => 0))), (q31, .inl (cI, 8, .inl (fun _ => 0))), (q39, .inl (cI, 8, .inl (fun _ => 0)))]) [0, 1, 2, 3, 4, 5] rfl
  have hD := hD.sub (ws' := [(h, .inr (1, [.ref q7, .ref q15, .ref q23, .ref q31, .ref q39, .int 0, .int 0])), (q7, .inl (cI, 8, .inl (fun _ => 0))), (q15, .inl (cI, 8, .inl (fun _ => 0))), (q23, .inl (cI, 8, .inl (fun _ => 0))), (q31, .inl (cI, 8, .inl (fun _ => 0))), (q39, .inl (cI, 8, .inl (fun _ => 0)))]) [0, 1, 2, 3, 4, 5] (by decide) rfl
  refine lv_aload_n hx hb dX1_init_44 rfl (lv_at hl 0 rfl) ?_
  refine lv_iload_n hx hb dX1_init_45 rfl (lv_at hl 2 rfl) ?_
  refine va_put (D := (dC, dI)) (ci := 1) (v := .int (nI sl)) (ty := .int) (C := RX1) (T := TX1) (N := 7) hx hb hts in_X1 tyX1 tyX1_ok nmX1 hown hK hP hD hS 0 rfl rfl 5 (by decide) q_9 (fun _ h9 => h9) rfl (by decide +kernel) rfl rfl (Nat.le_of_ble_eq_true rfl) dX1_init_46 (fun H locs hP hD hS => ?_)
  have hP : va_P (dC, dI) vwCl [(h, .inr (1, [.ref q7, .ref q15, .ref q23, .ref q31, .ref q39, .int (nI sl), .int 0])), (q7, .inl (cI, 8, .inl (fun _ => 0))), (q15, .inl (cI, 8, .inl (fun _ => 0))), (q23, .inl (cI, 8, .inl (fun _ => 0))), (q31, .inl (cI, 8, .inl (fun _ => 0))), (q39, .inl (cI, 8, .inl (fun _ => 0)))] H := hP
  have hD : va_D A [(h, .inr (1, [.ref q7, .ref q15, .ref q23, .ref q31, .ref q39, .int (nI sl), .int 0])), (q7, .inl (cI, 8, .inl (fun _ => 0))), (q15, .inl (cI, 8, .inl (fun _ => 0))), (q23, .inl (cI, 8, .inl (fun _ => 0))), (q31, .inl (cI, 8, .inl (fun _ => 0))), (q39, .inl (cI, 8, .inl (fun _ => 0)))] := hD
  refine lv_iload_n hx hb dX1_init_49 rfl (lv_at hl 1 rfl) ?_
  refine lv_istore_n (lv' := [(3, .int p0), (0, .ref h), (1, .int p0), (2, .int (nI sl))]) hx hb dX1_init_50 rfl hl (by decide) rfl (fun ls hl => ?_)
  refine lv_iload_n hx hb dX1_init_51 rfl (lv_at hl 3 rfl) ?_
  refine lv_iconst (v := 1) hx hb dX1_init_52 (by decide) ?_
  refine lv_isub hx hb dX1_init_53 ?_
  refine lv_istore (lv' := [(4, .int ((nI sl) - 1)), (3, .int p0), (0, .ref h), (1, .int p0), (2, .int (nI sl))]) hx hb dX1_init_54 hl (by decide) rfl (fun ls hl => ?_)
  have loop56 : ∀ (mm : Nat) (v3_56 : Int32) (v4_56 : Int32) (g0_0_56 : Nat → Int32) (H : Heap) (locs : List Loc) (ls : Array Slot), mm ≤ 8 ∧ v4_56 = nI mm + (-1) → G_X1_init_56 p0 sl mm v3_56 v4_56 g0_0_56 = S_X1_init p0 sl → lv_has ls 5 [(4, .int v4_56), (3, .int v3_56), (0, .ref h), (1, .int p0), (2, .int (nI sl))] → va_P (dC, dI) vwCl [(h, .inr (1, [.ref q7, .ref q15, .ref q23, .ref q31, .ref q39, .int (nI sl), .int 0])), (q7, .inl (cI, 8, .inl g0_0_56)), (q15, .inl (cI, 8, .inl (fun _ => 0))), (q23, .inl (cI, 8, .inl (fun _ => 0))), (q31, .inl (cI, 8, .inl (fun _ => 0))), (q39, .inl (cI, 8, .inl (fun _ => 0)))] H → va_D A [(h, .inr (1, [.ref q7, .ref q15, .ref q23, .ref q31, .ref q39, .int (nI sl), .int 0])), (q7, .inl (cI, 8, .inl g0_0_56)), (q15, .inl (cI, 8, .inl (fun _ => 0))), (q23, .inl (cI, 8, .inl (fun _ => 0))), (q31, .inl (cI, 8, .inl (fun _ => 0))), (q39, .inl (cI, 8, .inl (fun _ => 0)))] → va_S A s.heap H locs → W p l e (headSpec wsX1_init ({ frames := 5, cells := 5, slots := 40, locals := 111 })).room s m (([.ref h, .int p0, .int (nI sl)] : List Value).toArray) below meth c H locs 5 40 (MQ below (va_Qv (fun _ : Nat × Nat × Nat × Nat × Nat => True) (fun (u : Nat × Nat × Nat × Nat × Nat) t => va_P (dC, dI) vwCl (wR cI h u.1 u.2.1 u.2.2.1 u.2.2.2.1 u.2.2.2.2 (S_X1_init p0 sl)) t.heap ∧ cE (dC, dI) cI cR t ∧ va_D A (wR cI h u.1 u.2.1 u.2.2.1 u.2.2.2.1 u.2.2.2.2 (S_X1_init p0 sl))) A) (([.ref h, .int p0, .int (nI sl)] : List Value).toArray) s 5 40 A) (F0 m 56 ls []) := by
    intro mm
    induction mm with
    | zero =>
      intro  v3_56 v4_56 g0_0_56 H locs ls hk56 hG56 hl hP hD hS
      refine lv_iload hx hb dX1_init_56 (lv_at hl 0 rfl) ?_
      refine lv_if_lt (tgt := 85) hx hb dX1_init_58 (by decide) (fun c_58 => ?_) (fun c_58 => ?_)
      · refine lv_aload_n hx hb dX1_init_85 rfl (lv_at hl 2 rfl) ?_
        have hPc := hP.sub (ws' := (wR cI h q7 q15 q23 q31 q39 (g0_0_56, (fun _ => 0), (fun _ => 0), (fun _ => 0), (fun _ => 0), nI sl, 0))) [0, 1, 2, 3, 4, 5] rfl
        have hDc := hD.sub (ws' := (wR cI h q7 q15 q23 q31 q39 (g0_0_56, (fun _ => 0), (fun _ => 0), (fun _ => 0), (fun _ => 0), nI sl, 0))) [0, 1, 2, 3, 4, 5] (by decide) rfl
        have hFc := va_free (wc := (wR cI h q7 q15 q23 q31 q39 (g0_0_56, (fun _ => 0), (fun _ => 0), (fun _ => 0), (fun _ => 0), nI sl, 0))) hD hS hA [0, 1, 2, 3, 4, 5] rfl
        refine va_callv (va_runV (As := []) (rest := []) ⟨hx, hb, hml, hown, hts⟩ (c_X1_settle l dC dI cI cR _ h q7 q15 q23 q31 q39 (g0_0_56, (fun _ => 0), (fun _ => 0), (fun _ => 0), (fun _ => 0), nI sl, 0)) (cwV 0 hts gX1_init_X1_settle rfl rfl rfl (by decide +kernel) ⟨Nat.le_of_ble_eq_true rfl, Nat.le_of_ble_eq_true rfl⟩) ⟨fun a U g mk q => by obtain ⟨q0, q1, qP, qE, qD⟩ := q; exact ⟨q0, q1, qP, cE.same (s := U) rfl qE, qD⟩, va_recv hK hP (ci := 1) (q0 := 0) rfl rfl, fun U hU hW => ⟨rfl, by rw [hU], by rw [hU]; exact hPc, hE.warm hW, hDc.weaken (fun _ _ _ _ => trivial)⟩⟩ rfl rfl hl.1 rfl (lv_room (Nat.le_of_ble_eq_true rfl)) dX1_init_86 ⟨Nat.le_of_ble_eq_true rfl, Nat.le_of_ble_eq_true rfl⟩) hS (fun q _ h => hFc q h) hFc (fun u t H1 locs ht hvm h_86 hB hz1 hk1 hS => ?_)
        obtain ⟨hP1, -, hD1⟩ := hB
        rw [ht] at hP1
        obtain ⟨hP, hD⟩ := va_join (wr := []) (w1 := (wR cI h q7 q15 q23 q31 q39 (S_X1_settle (g0_0_56, (fun _ => 0), (fun _ => 0), (fun _ => 0), (fun _ => 0), nI sl, 0)))) hP hD [0, 1, 2, 3, 4, 5] [] rfl rfl (by decide) (by decide) hk1 hFc hP1 hD1
        have hP := hP.sub (ws' := [(h, .inr (1, [.ref q7, .ref q15, .ref q23, .ref q31, .ref q39, .int ((S_X1_settle (g0_0_56, (fun _ => 0), (fun _ => 0), (fun _ => 0), (fun _ => 0), nI sl, 0)).2.2.2.2.2.1), .int ((S_X1_settle (g0_0_56, (fun _ => 0), (fun _ => 0), (fun _ => 0), (fun _ => 0), nI sl, 0)).2.2.2.2.2.2)])), (q7, .inl (cI, 8, .inl ((S_X1_settle (g0_0_56, (fun _ => 0), (fun _ => 0), (fun _ => 0), (fun _ => 0), nI sl, 0)).1))), (q15, .inl (cI, 8, .inl ((S_X1_settle (g0_0_56, (fun _ => 0), (fun _ => 0), (fun _ => 0), (fun _ => 0), nI sl, 0)).2.1))), (q23, .inl (cI, 8, .inl ((S_X1_settle (g0_0_56, (fun _ => 0), (fun _ => 0), (fun _ => 0), (fun _ => 0), nI sl, 0)).2.2.1))), (q31, .inl (cI, 8, .inl ((S_X1_settle (g0_0_56, (fun _ => 0), (fun _ => 0), (fun _ => 0), (fun _ => 0), nI sl, 0)).2.2.2.1))), (q39, .inl (cI, 8, .inl ((S_X1_settle (g0_0_56, (fun _ => 0), (fun _ => 0), (fun _ => 0), (fun _ => 0), nI sl, 0)).2.2.2.2.1)))]) [0, 1, 2, 3, 4, 5] rfl
        have hD := hD.sub (ws' := [(h, .inr (1, [.ref q7, .ref q15, .ref q23, .ref q31, .ref q39, .int ((S_X1_settle (g0_0_56, (fun _ => 0), (fun _ => 0), (fun _ => 0), (fun _ => 0), nI sl, 0)).2.2.2.2.2.1), .int ((S_X1_settle (g0_0_56, (fun _ => 0), (fun _ => 0), (fun _ => 0), (fun _ => 0), nI sl, 0)).2.2.2.2.2.2)])), (q7, .inl (cI, 8, .inl ((S_X1_settle (g0_0_56, (fun _ => 0), (fun _ => 0), (fun _ => 0), (fun _ => 0), nI sl, 0)).1))), (q15, .inl (cI, 8, .inl ((S_X1_settle (g0_0_56, (fun _ => 0), (fun _ => 0), (fun _ => 0), (fun _ => 0), nI sl, 0)).2.1))), (q23, .inl (cI, 8, .inl ((S_X1_settle (g0_0_56, (fun _ => 0), (fun _ => 0), (fun _ => 0), (fun _ => 0), nI sl, 0)).2.2.1))), (q31, .inl (cI, 8, .inl ((S_X1_settle (g0_0_56, (fun _ => 0), (fun _ => 0), (fun _ => 0), (fun _ => 0), nI sl, 0)).2.2.2.1))), (q39, .inl (cI, 8, .inl ((S_X1_settle (g0_0_56, (fun _ => 0), (fun _ => 0), (fun _ => 0), (fun _ => 0), nI sl, 0)).2.2.2.2.1)))]) [0, 1, 2, 3, 4, 5] (by decide) rfl
        clear hPc hDc hP1 hD1 hk1 hFc hz1 ht hvm
        generalize H1 = H at hP hS ⊢
        have e9 : S_X1_init p0 sl = (S_X1_settle (g0_0_56, (fun _ => 0), (fun _ => 0), (fun _ => 0), (fun _ => 0), nI sl, 0)) := by rw [← hG56]; simp only [G_X1_init_56]
        exact W.vret hx hb hr (fun t ht hW => ⟨⟨(q7, q15, q23, q31, q39), rfl, trivial, by rw [ht, e9]; exact hP, hE.warm hW, by rw [e9]; exact hD⟩, hS.F ht⟩) hS.2.2 dX1_init_89
      · exact absurd (by rw [hk56.2]; decide) c_58
    | succ mm ih56 =>
      intro  v3_56 v4_56 g0_0_56 H locs ls hk56 hG56 hl hP hD hS
      refine lv_iload hx hb dX1_init_56 (lv_at hl 0 rfl) ?_
      refine lv_if_lt (tgt := 85) hx hb dX1_init_58 (by decide) (fun c_58 => ?_) (fun c_58 => ?_)
      · exact absurd c_58 (by rw [hk56.2, pk_m1]; exact nI_pos (by omega))
      · refine lv_aload_n hx hb dX1_init_61 rfl (lv_at hl 2 rfl) ?_
        refine va_get (D := (dC, dI)) (ci := 1) (v := .ref q7) (C := RX1) (T := TX1) (N := 7) hx hb hts in_X1 hown hK hP 0 rfl rfl 0 (by decide) q_4 (fun _ h9 => h9) rfl dX1_init_62 ?_
        refine lv_iload hx hb dX1_init_65 (lv_at hl 0 rfl) ?_
        refine lv_iload_n hx hb dX1_init_67 rfl (lv_at hl 1 rfl) ?_
        refine lv_bipush (v := 10) hx hb dX1_init_68 (by decide) ?_
        refine lv_irem hx hb dX1_init_70 (by decide) ?_
        have hPc := hP.sub (ws' := [(q7, .inl (cI, 8, .inl g0_0_56))]) [1] rfl
        have hDc := hD.sub (ws' := [(q7, .inl (cI, 8, .inl g0_0_56))]) [1] (by decide) rfl
        have hFc := va_free (wc := [(q7, .inl (cI, 8, .inl g0_0_56))]) hD hS hA [1] rfl
        refine va_callv (va_runSN (As := [.ref q7, .int v4_56, .int (v3_56 - v3_56 / 10 * 10)]) (rest := []) ⟨hx, hb, hml, hown, hts⟩ (c_X3_setCell l dC dI cI cR _ q7 8 g0_0_56 (by decide) v4_56 (v3_56 - v3_56 / 10 * 10)) ⟨va_cnB 3 hts gX1_init_X3_setCell_n31 rfl rfl rfl (hE.2 (.methodLinkNest RX1 31 yX3_setCell "Cascadecourt") (by decide +kernel)) q_10 (by decide +kernel) ⟨Nat.le_of_ble_eq_true rfl, Nat.le_of_ble_eq_true rfl⟩, q_11, trivial⟩ ⟨fun a U g mk q => by obtain ⟨q0, q1, qP, qE, qD⟩ := q; exact ⟨q0, q1, qP, cE.same (s := U) rfl qE, qD⟩, fun U hU hW => ⟨rfl, by rw [hU], by rw [hU]; exact hPc, hE.warm hW, hDc.weaken (fun _ _ _ _ => trivial)⟩⟩ rfl rfl hl.1 rfl (lv_room (Nat.le_of_ble_eq_true rfl)) dX1_init_71 ⟨Nat.le_of_ble_eq_true rfl, Nat.le_of_ble_eq_true rfl⟩) hS (fun q _ h => hFc q h) hFc (fun u t H1 locs ht hvm h_71 hB hz1 hk1 hS => ?_)
        obtain ⟨hP1, -, hD1⟩ := hB
        rw [ht] at hP1
        obtain ⟨hP, hD⟩ := va_join (wr := [(h, .inr (1, [.ref q7, .ref q15, .ref q23, .ref q31, .ref q39, .int (nI sl), .int 0])), (q15, .inl (cI, 8, .inl (fun _ => 0))), (q23, .inl (cI, 8, .inl (fun _ => 0))), (q31, .inl (cI, 8, .inl (fun _ => 0))), (q39, .inl (cI, 8, .inl (fun _ => 0)))]) (w1 := [(q7, .inl (cI, 8, .inl (S_X3_setCell 8 g0_0_56 v4_56 (v3_56 - v3_56 / 10 * 10))))]) hP hD [1] [0, 2, 3, 4, 5] rfl rfl (by decide) (by decide) hk1 hFc hP1 hD1
        have hP := hP.sub (ws' := [(h, .inr (1, [.ref q7, .ref q15, .ref q23, .ref q31, .ref q39, .int (nI sl), .int 0])), (q7, .inl (cI, 8, .inl (S_X3_setCell 8 g0_0_56 v4_56 (v3_56 - v3_56 / 10 * 10)))), (q15, .inl (cI, 8, .inl (fun _ => 0))), (q23, .inl (cI, 8, .inl (fun _ => 0))), (q31, .inl (cI, 8, .inl (fun _ => 0))), (q39, .inl (cI, 8, .inl (fun _ => 0)))]) [0, 5, 1, 2, 3, 4] rfl
        have hD := hD.sub (ws' := [(h, .inr (1, [.ref q7, .ref q15, .ref q23, .ref q31, .ref q39, .int (nI sl), .int 0])), (q7, .inl (cI, 8, .inl (S_X3_setCell 8 g0_0_56 v4_56 (v3_56 - v3_56 / 10 * 10)))), (q15, .inl (cI, 8, .inl (fun _ => 0))), (q23, .inl (cI, 8, .inl (fun _ => 0))), (q31, .inl (cI, 8, .inl (fun _ => 0))), (q39, .inl (cI, 8, .inl (fun _ => 0)))]) [0, 5, 1, 2, 3, 4] (by decide) rfl
        clear hPc hDc hP1 hD1 hk1 hFc hz1 ht hvm
        generalize H1 = H at hP hS ⊢
        refine lv_iload_n hx hb dX1_init_74 rfl (lv_at hl 1 rfl) ?_
        refine lv_bipush (v := 10) hx hb dX1_init_75 (by decide) ?_
        refine lv_idiv hx hb dX1_init_77 (by decide) ?_
        refine lv_istore_n (lv' := [(3, .int (v3_56 / 10)), (4, .int v4_56), (0, .ref h), (1, .int p0), (2, .int (nI sl))]) hx hb dX1_init_78 rfl hl (by decide) rfl (fun ls hl => ?_)
        refine lv_iinc (v := v4_56 + (-1)) (lv' := [(4, .int (v4_56 + (-1))), (3, .int (v3_56 / 10)), (0, .ref h), (1, .int p0), (2, .int (nI sl))]) hx hb dX1_init_79 hl (k := 1) rfl (rfl) (by decide) rfl (fun ls hl => ?_)
        refine lv_goto (tgt := 56) hx hb dX1_init_82 (by decide) ?_
        exact ih56  (v3_56 / 10) (v4_56 + (-1)) (S_X3_setCell 8 g0_0_56 v4_56 (v3_56 - v3_56 / 10 * 10)) _ _ ls ⟨by omega, by rw [hk56.2, pk_m1]⟩ (by rw [← hG56]; simp only [G_X1_init_56]) (lv_sub hl [0, 1, 2, 3, 4] rfl) hP hD hS
  exact loop56 sl  p0 ((nI sl) - 1) (fun _ => 0) _ _ ls ⟨hsl.2, by obtain ⟨t, rfl⟩ : ∃ t, sl = t + 1 := ⟨sl - 1, by omega⟩; rw [pk_m1]; exact nI_pred t⟩ (by simp only [S_X1_init]) (lv_sub hl [0, 1, 2, 3, 4] rfl) hP hD hS
