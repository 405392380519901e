/-! LAID BY MY PROGRAM wip/gen/p26.py: contracts, method by method -/
def S_X1_length (ρ : RS) : Int32 := ρ.2.2.2.2.2.1
set_option maxHeartbeats 4000000 in
set_option maxRecDepth 100000 in
theorem c_X1_length (l : Launch) (dC : Nat → ClassId) (dI : Nat → Nat → Nat) (cI cR : ClassId) (h h1 h2 h3 h4 h5 : Nat) (ρ : RS)   : Met l yX1_length wsX1_length ({ frames := 0, cells := 0, slots := 0, locals := 0 }) (va_Pc [.ref h] (fun U => va_P (dC, dI) vwCl (wR cI h h1 h2 h3 h4 h5 ρ) U.heap ∧ cE (dC, dI) cI cR U)) (vp_Si (fun r => r = S_X1_length ρ)) 0 0 (fun _ => False) := by
  refine Met.ofW (cc := cX1_length) (maxL := 1) (ret := (some .int)) (by decide) rfl ?_
  intro p e s m args below meth c s₁ B hml hv
  obtain ⟨rfl, hP, hE⟩ := hv
  have hK := hE.1
  have hx := B.exec
  have hb := B.bytes
  have hr := B.returns
  have hts := atoms_spec (ws := wsX1_length) B.pre
  have hown : s.vm.findClass RX1 = some m.cls := findClass_of_methodNamed B.named
  have hlocks := B.notSynchronized
  have hP : va_P (dC, dI) vwCl [(h, .inr (1, [.ref h1, .ref h2, .ref h3, .ref h4, .ref h5, .int ρ.2.2.2.2.2.1, .int ρ.2.2.2.2.2.2])), (h1, .inl (cI, 8, .inl ρ.1)), (h2, .inl (cI, 8, .inl ρ.2.1)), (h3, .inl (cI, 8, .inl ρ.2.2.1)), (h4, .inl (cI, 8, .inl ρ.2.2.2.1)), (h5, .inl (cI, 8, .inl ρ.2.2.2.2.1))] s.heap := hP
  have hl := lv_entry ([.ref h]) (n := 1) (Nat.le_of_ble_eq_true rfl)
  rw [lg_entry_eq]
  generalize (lg_sl ([.ref h]) ++ List.replicate (1 - (lg_sl ([.ref h])).length) Slot.unset).toArray = ls at hl ⊢
  have hl : lv_has ls 1 [(0, .ref h)] := hl
  have q_0 := hts (.fieldLink RX1 27 "Cascadecourt$Row" "length" "I") (by decide +kernel)
  have in_X1 : ∀ w ∈ wsX10, w ∈ wsX1_length := by decide +kernel
  refine lv_aload_n hx hb dX1_length_0 rfl (lv_at hl 0 rfl) ?_
  refine va_get (D := (dC, dI)) (ci := 1) (v := .int ρ.2.2.2.2.2.1) (C := RX1) (T := TX1) (N := 7) hx hb hts in_X1 hown hK hP 0 rfl rfl 5 (by decide) q_0 (fun _ h9 => h9) rfl dX1_length_1 ?_
  exact W.iret (v := ρ.2.2.2.2.2.1) hx hb hr (fun t ht hW => ⟨ρ.2.2.2.2.2.1, rfl, by simp only [S_X1_length], ht⟩) (fun q h => by cases h) dX1_length_4
def S_X1_hasSite (ρ : RS) (p0 : Int32) : Int32 := (if p0 < 0 then 0 else (if ρ.2.2.2.2.2.1 ≤ p0 then 0 else 1))
set_option maxHeartbeats 4000000 in
set_option maxRecDepth 100000 in
theorem c_X1_hasSite (l : Launch) (dC : Nat → ClassId) (dI : Nat → Nat → Nat) (cI cR : ClassId) (h h1 h2 h3 h4 h5 : Nat) (ρ : RS) (p0 : Int32)  : Met l yX1_hasSite wsX1_hasSite ({ frames := 0, cells := 0, slots := 0, locals := 0 }) (va_Pc [.ref h, .int p0] (fun U => va_P (dC, dI) vwCl (wR cI h h1 h2 h3 h4 h5 ρ) U.heap ∧ cE (dC, dI) cI cR U)) (vp_Si (fun r => r = S_X1_hasSite ρ p0 ∧ (r = 0 ∨ r = 1))) 0 0 (fun _ => False) := by
  refine Met.ofW (cc := cX1_hasSite) (maxL := 2) (ret := (some .boolean)) (by decide) rfl ?_
  intro p e s m args below meth c s₁ B hml hv
  obtain ⟨rfl, hP, hE⟩ := hv
  have hK := hE.1
  have hx := B.exec
  have hb := B.bytes
  have hr := B.returns
  have hts := atoms_spec (ws := wsX1_hasSite) B.pre
  have hown : s.vm.findClass RX1 = some m.cls := findClass_of_methodNamed B.named
  have hlocks := B.notSynchronized
  have hP : va_P (dC, dI) vwCl [(h, .inr (1, [.ref h1, .ref h2, .ref h3, .ref h4, .ref h5, .int ρ.2.2.2.2.2.1, .int ρ.2.2.2.2.2.2])), (h1, .inl (cI, 8, .inl ρ.1)), (h2, .inl (cI, 8, .inl ρ.2.1)), (h3, .inl (cI, 8, .inl ρ.2.2.1)), (h4, .inl (cI, 8, .inl ρ.2.2.2.1)), (h5, .inl (cI, 8, .inl ρ.2.2.2.2.1))] s.heap := hP
  have hl := lv_entry ([.ref h, .int p0]) (n := 2) (Nat.le_of_ble_eq_true rfl)
  rw [lg_entry_eq]
  generalize (lg_sl ([.ref h, .int p0]) ++ List.replicate (2 - (lg_sl ([.ref h, .int p0])).length) Slot.unset).toArray = ls at hl ⊢
  have hl : lv_has ls 2 [(0, .ref h), (1, .int p0)] := hl
  have q_0 := hts (.fieldLink RX1 27 "Cascadecourt$Row" "length" "I") (by decide +kernel)
  have in_X1 : ∀ w ∈ wsX10, w ∈ wsX1_hasSite := by decide +kernel
  refine lv_iload_n hx hb dX1_hasSite_0 rfl (lv_at hl 1 rfl) ?_
  refine lv_if_lt (tgt := 16) hx hb dX1_hasSite_1 (by decide) (fun c_1 => ?_) (fun c_1 => ?_)
  · refine lv_iconst (v := 0) hx hb dX1_hasSite_16 (by decide) ?_
    exact W.zret (v := 0) (ty := .boolean) hx hb hr (p_nar (Or.inl rfl)) (fun t ht hW => ⟨0, rfl, ⟨by simp only [S_X1_hasSite, if_pos c_1], (Or.inl rfl)⟩, ht⟩) (fun q h => by cases h) dX1_hasSite_17
  · refine lv_iload_n hx hb dX1_hasSite_4 rfl (lv_at hl 1 rfl) ?_
    refine lv_aload_n hx hb dX1_hasSite_5 rfl (lv_at hl 0 rfl) ?_
    refine va_get (D := (dC, dI)) (ci := 1) (v := .int ρ.2.2.2.2.2.1) (C := RX1) (T := TX1) (N := 7) hx hb hts in_X1 hown hK hP 0 rfl rfl 5 (by decide) q_0 (fun _ h9 => h9) rfl dX1_hasSite_6 ?_
    refine lv_icmp_ge (tgt := 16) hx hb dX1_hasSite_9 (by decide) (fun c_9 => ?_) (fun c_9 => ?_)
    · refine lv_iconst (v := 0) hx hb dX1_hasSite_16 (by decide) ?_
      exact W.zret (v := 0) (ty := .boolean) hx hb hr (p_nar (Or.inl rfl)) (fun t ht hW => ⟨0, rfl, ⟨by simp only [S_X1_hasSite, if_neg c_1, if_pos c_9], (Or.inl rfl)⟩, ht⟩) (fun q h => by cases h) dX1_hasSite_17
    · refine lv_iconst (v := 1) hx hb dX1_hasSite_12 (by decide) ?_
      refine lv_goto (tgt := 17) hx hb dX1_hasSite_13 (by decide) ?_
      exact W.zret (v := 1) (ty := .boolean) hx hb hr (p_nar (Or.inr rfl)) (fun t ht hW => ⟨1, rfl, ⟨by simp only [S_X1_hasSite, if_neg c_1, if_neg c_9], (Or.inr rfl)⟩, ht⟩) (fun q h => by cases h) dX1_hasSite_17
def S_X1_siteOf (ρ : RS) (p0 : Int32) : Int32 := (if ρ.2.2.2.2.2.1 ≤ 0 then 0 else S_J9_floorMod_7cf53 p0 ρ.2.2.2.2.2.1)
set_option maxHeartbeats 4000000 in
set_option maxRecDepth 100000 in
theorem c_X1_siteOf (l : Launch) (dC : Nat → ClassId) (dI : Nat → Nat → Nat) (cI cR : ClassId) (h h1 h2 h3 h4 h5 : Nat) (ρ : RS) (p0 : Int32)  : Met l yX1_siteOf wsX1_siteOf ({ frames := 1, cells := 0, slots := 0, locals := 22 }) (va_Pc [.ref h, .int p0] (fun U => va_P (dC, dI) vwCl (wR cI h h1 h2 h3 h4 h5 ρ) U.heap ∧ cE (dC, dI) cI cR U)) (vp_Si (fun r => r = S_X1_siteOf ρ p0)) 0 0 (fun _ => False) := by
  refine Met.ofW (cc := cX1_siteOf) (maxL := 2) (ret := (some .int)) (by decide) rfl ?_
  intro p e s m args below meth c s₁ B hml hv
  obtain ⟨rfl, hP, hE⟩ := hv
  have hK := hE.1
  have hx := B.exec
  have hb := B.bytes
  have hr := B.returns
  have hts := atoms_spec (ws := wsX1_siteOf) B.pre
  have hown : s.vm.findClass RX1 = some m.cls := findClass_of_methodNamed B.named
  have hlocks := B.notSynchronized
  have hP : va_P (dC, dI) vwCl [(h, .inr (1, [.ref h1, .ref h2, .ref h3, .ref h4, .ref h5, .int ρ.2.2.2.2.2.1, .int ρ.2.2.2.2.2.2])), (h1, .inl (cI, 8, .inl ρ.1)), (h2, .inl (cI, 8, .inl ρ.2.1)), (h3, .inl (cI, 8, .inl ρ.2.2.1)), (h4, .inl (cI, 8, .inl ρ.2.2.2.1)), (h5, .inl (cI, 8, .inl ρ.2.2.2.2.1))] s.heap := hP
  have hl := lv_entry ([.ref h, .int p0]) (n := 2) (Nat.le_of_ble_eq_true rfl)
  rw [lg_entry_eq]
  generalize (lg_sl ([.ref h, .int p0]) ++ List.replicate (2 - (lg_sl ([.ref h, .int p0])).length) Slot.unset).toArray = ls at hl ⊢
  have hl : lv_has ls 2 [(0, .ref h), (1, .int p0)] := hl
  have q_0 := hts (.fieldLink RX1 27 "Cascadecourt$Row" "length" "I") (by decide +kernel)
  have in_X1 : ∀ w ∈ wsX10, w ∈ wsX1_siteOf := by decide +kernel
  refine lv_aload_n hx hb dX1_siteOf_0 rfl (lv_at hl 0 rfl) ?_
  refine va_get (D := (dC, dI)) (ci := 1) (v := .int ρ.2.2.2.2.2.1) (C := RX1) (T := TX1) (N := 7) hx hb hts in_X1 hown hK hP 0 rfl rfl 5 (by decide) q_0 (fun _ h9 => h9) rfl dX1_siteOf_1 ?_
  refine lv_if_le (tgt := 18) hx hb dX1_siteOf_4 (by decide) (fun c_4 => ?_) (fun c_4 => ?_)
  · refine lv_iconst (v := 0) hx hb dX1_siteOf_18 (by decide) ?_
    exact W.iret (v := 0) hx hb hr (fun t ht hW => ⟨0, rfl, by simp only [S_X1_siteOf, if_pos c_4], ht⟩) (fun q h => by cases h) dX1_siteOf_19
  · refine lv_iload_n hx hb dX1_siteOf_7 rfl (lv_at hl 1 rfl) ?_
    refine lv_aload_n hx hb dX1_siteOf_8 rfl (lv_at hl 0 rfl) ?_
    refine va_get (D := (dC, dI)) (ci := 1) (v := .int ρ.2.2.2.2.2.1) (C := RX1) (T := TX1) (N := 7) hx hb hts in_X1 hown hK hP 0 rfl rfl 5 (by decide) q_0 (fun _ h9 => h9) rfl dX1_siteOf_9 ?_
    refine vp_callSi (va_Run.run (va_runS (As := [.int p0, .int ρ.2.2.2.2.2.1]) (rest := []) ⟨hx, hb, hml, hown, hts⟩ (c_J9_floorMod_7cf53 l p0 ρ.2.2.2.2.2.1 (p_pos c_4)) (va_cwS 2 hts gX1_siteOf_J9_floorMod_7cf53 rfl rfl rfl (by decide +kernel) ⟨Nat.le_of_ble_eq_true rfl, Nat.le_of_ble_eq_true rfl⟩) ⟨fun a U g mk q => q, fun U hU hW => ⟨rfl, trivial⟩⟩ rfl rfl hl.1 rfl (lv_room (Nat.le_of_ble_eq_true rfl)) dX1_siteOf_12 ⟨Nat.zero_le _, Nat.zero_le _⟩)) (fun r_12 h_12 => ?_)
    subst h_12
    refine lv_goto (tgt := 19) hx hb dX1_siteOf_15 (by decide) ?_
    exact W.iret (v := (S_J9_floorMod_7cf53 p0 ρ.2.2.2.2.2.1)) hx hb hr (fun t ht hW => ⟨(S_J9_floorMod_7cf53 p0 ρ.2.2.2.2.2.1), rfl, by simp only [S_X1_siteOf, if_neg c_4], ht⟩) (fun q h => by cases h) dX1_siteOf_19
def S_X1_throwAt (ρ : RS) (p0 : Int32) : Int32 := S_X3_cell 8 ρ.1 (S_X1_siteOf ρ p0)
set_option maxHeartbeats 4000000 in
set_option maxRecDepth 100000 in
theorem c_X1_throwAt (l : Launch) (dC : Nat → ClassId) (dI : Nat → Nat → Nat) (cI cR : ClassId) (h h1 h2 h3 h4 h5 : Nat) (ρ : RS) (p0 : Int32)  : Met l yX1_throwAt wsX1_throwAt ({ frames := 2, cells := 0, slots := 0, locals := 43 }) (va_Pc [.ref h, .int p0] (fun U => va_P (dC, dI) vwCl (wR cI h h1 h2 h3 h4 h5 ρ) U.heap ∧ cE (dC, dI) cI cR U)) (vp_Si (fun r => r = S_X1_throwAt ρ p0)) 0 0 (fun _ => False) := by
  refine Met.ofW (cc := cX1_throwAt) (maxL := 2) (ret := (some .int)) (by decide) rfl ?_
  intro p e s m args below meth c s₁ B hml hv
  obtain ⟨rfl, hP, hE⟩ := hv
  have hK := hE.1
  have hx := B.exec
  have hb := B.bytes
  have hr := B.returns
  have hts := atoms_spec (ws := wsX1_throwAt) B.pre
  have hown : s.vm.findClass RX1 = some m.cls := findClass_of_methodNamed B.named
  have hlocks := B.notSynchronized
  have hP : va_P (dC, dI) vwCl [(h, .inr (1, [.ref h1, .ref h2, .ref h3, .ref h4, .ref h5, .int ρ.2.2.2.2.2.1, .int ρ.2.2.2.2.2.2])), (h1, .inl (cI, 8, .inl ρ.1)), (h2, .inl (cI, 8, .inl ρ.2.1)), (h3, .inl (cI, 8, .inl ρ.2.2.1)), (h4, .inl (cI, 8, .inl ρ.2.2.2.1)), (h5, .inl (cI, 8, .inl ρ.2.2.2.2.1))] s.heap := hP
  have hl := lv_entry ([.ref h, .int p0]) (n := 2) (Nat.le_of_ble_eq_true rfl)
  rw [lg_entry_eq]
  generalize (lg_sl ([.ref h, .int p0]) ++ List.replicate (2 - (lg_sl ([.ref h, .int p0])).length) Slot.unset).toArray = ls at hl ⊢
  have hl : lv_has ls 2 [(0, .ref h), (1, .int p0)] := hl
  have q_0 := hts (.fieldLink RX1 9 "Cascadecourt$Row" "heights" "[I") (by decide +kernel)
  have in_X1 : ∀ w ∈ wsX10, w ∈ wsX1_throwAt := by decide +kernel
  have q_1 := hts (.initialized RX3) (by decide +kernel)
  have q_2 := hts (.static yX3_cell) (by decide +kernel)
  refine lv_aload_n hx hb dX1_throwAt_0 rfl (lv_at hl 0 rfl) ?_
  refine va_get (D := (dC, dI)) (ci := 1) (v := .ref h1) (C := RX1) (T := TX1) (N := 7) hx hb hts in_X1 hown hK hP 0 rfl rfl 0 (by decide) q_0 (fun _ h9 => h9) rfl dX1_throwAt_1 ?_
  refine lv_aload_n hx hb dX1_throwAt_4 rfl (lv_at hl 0 rfl) ?_
  refine lv_iload_n hx hb dX1_throwAt_5 rfl (lv_at hl 1 rfl) ?_
  refine vp_callSi (va_Run.run (va_runV (As := [.int p0]) (rest := [.ref h1]) ⟨hx, hb, hml, hown, hts⟩ (c_X1_siteOf l dC dI cI cR h h1 h2 h3 h4 h5 ρ p0) (cwV 1 hts gX1_throwAt_X1_siteOf rfl rfl rfl (by decide +kernel) ⟨Nat.le_of_ble_eq_true rfl, Nat.le_of_ble_eq_true rfl⟩) ⟨fun a U g mk q => by obtain ⟨q0, qP, qE⟩ := q; exact ⟨q0, qP, cE.same (s := U) rfl qE⟩, va_recv hK hP (ci := 1) (q0 := 0) rfl rfl, fun U hU hW => ⟨rfl, by rw [hU]; exact hP.sub (ws' := (wR cI h h1 h2 h3 h4 h5 ρ)) [0, 1, 2, 3, 4, 5] rfl, hE.warm hW⟩⟩ rfl rfl hl.1 rfl (lv_room (Nat.le_of_ble_eq_true rfl)) dX1_throwAt_6 ⟨Nat.zero_le _, Nat.zero_le _⟩)) (fun r_6 h_6 => ?_)
  subst h_6
  refine vp_callSi (va_Run.run (va_runSN (As := [.ref h1, .int (S_X1_siteOf ρ p0)]) (rest := []) ⟨hx, hb, hml, hown, hts⟩ (c_X3_cell l dC dI cI cR h1 8 ρ.1 (by decide) (S_X1_siteOf ρ p0)) ⟨va_cnB 2 hts gX1_throwAt_X3_cell_n52 rfl rfl rfl (hE.2 (.methodLinkNest RX1 52 yX3_cell "Cascadecourt") (by decide +kernel)) q_1 (by decide +kernel) ⟨Nat.le_of_ble_eq_true rfl, Nat.le_of_ble_eq_true rfl⟩, q_2, trivial⟩ ⟨fun a U g mk q => by obtain ⟨q0, qP, qE⟩ := q; exact ⟨q0, qP, cE.same (s := U) rfl qE⟩, fun U hU hW => ⟨rfl, by rw [hU]; exact hP.sub (ws' := [(h1, .inl (cI, 8, .inl ρ.1))]) [1] rfl, hE.warm hW⟩⟩ rfl rfl hl.1 rfl (lv_room (Nat.le_of_ble_eq_true rfl)) dX1_throwAt_9 ⟨Nat.zero_le _, Nat.zero_le _⟩)) (fun r_9 h_9 => ?_)
  subst h_9
  exact W.iret (v := (S_X3_cell 8 ρ.1 (S_X1_siteOf ρ p0))) hx hb hr (fun t ht hW => ⟨(S_X3_cell 8 ρ.1 (S_X1_siteOf ρ p0)), rfl, by simp only [S_X1_throwAt], ht⟩) (fun q h => by cases h) dX1_throwAt_12
def S_X1_stateAt (ρ : RS) (p0 : Int32) : Int32 := S_X3_cell 8 ρ.2.2.2.2.1 p0
set_option maxHeartbeats 4000000 in
set_option maxRecDepth 100000 in
theorem c_X1_stateAt (l : Launch) (dC : Nat → ClassId) (dI : Nat → Nat → Nat) (cI cR : ClassId) (h h1 h2 h3 h4 h5 : Nat) (ρ : RS) (p0 : Int32)  : Met l yX1_stateAt wsX1_stateAt ({ frames := 1, cells := 0, slots := 0, locals := 21 }) (va_Pc [.ref h, .int p0] (fun U => va_P (dC, dI) vwCl (wR cI h h1 h2 h3 h4 h5 ρ) U.heap ∧ cE (dC, dI) cI cR U)) (vp_Si (fun r => r = S_X1_stateAt ρ p0)) 0 0 (fun _ => False) := by
  refine Met.ofW (cc := cX1_stateAt) (maxL := 2) (ret := (some .int)) (by decide) rfl ?_
  intro p e s m args below meth c s₁ B hml hv
  obtain ⟨rfl, hP, hE⟩ := hv
  have hK := hE.1
  have hx := B.exec
  have hb := B.bytes
  have hr := B.returns
  have hts := atoms_spec (ws := wsX1_stateAt) B.pre
  have hown : s.vm.findClass RX1 = some m.cls := findClass_of_methodNamed B.named
  have hlocks := B.notSynchronized
  have hP : va_P (dC, dI) vwCl [(h, .inr (1, [.ref h1, .ref h2, .ref h3, .ref h4, .ref h5, .int ρ.2.2.2.2.2.1, .int ρ.2.2.2.2.2.2])), (h1, .inl (cI, 8, .inl ρ.1)), (h2, .inl (cI, 8, .inl ρ.2.1)), (h3, .inl (cI, 8, .inl ρ.2.2.1)), (h4, .inl (cI, 8, .inl ρ.2.2.2.1)), (h5, .inl (cI, 8, .inl ρ.2.2.2.2.1))] s.heap := hP
  have hl := lv_entry ([.ref h, .int p0]) (n := 2) (Nat.le_of_ble_eq_true rfl)
  rw [lg_entry_eq]
  generalize (lg_sl ([.ref h, .int p0]) ++ List.replicate (2 - (lg_sl ([.ref h, .int p0])).length) Slot.unset).toArray = ls at hl ⊢
  have hl : lv_has ls 2 [(0, .ref h), (1, .int p0)] := hl
  have q_0 := hts (.fieldLink RX1 24 "Cascadecourt$Row" "states" "[I") (by decide +kernel)
  have in_X1 : ∀ w ∈ wsX10, w ∈ wsX1_stateAt := by decide +kernel
  have q_1 := hts (.initialized RX3) (by decide +kernel)
  have q_2 := hts (.static yX3_cell) (by decide +kernel)
  refine lv_aload_n hx hb dX1_stateAt_0 rfl (lv_at hl 0 rfl) ?_
  refine va_get (D := (dC, dI)) (ci := 1) (v := .ref h5) (C := RX1) (T := TX1) (N := 7) hx hb hts in_X1 hown hK hP 0 rfl rfl 4 (by decide) q_0 (fun _ h9 => h9) rfl dX1_stateAt_1 ?_
  refine lv_iload_n hx hb dX1_stateAt_4 rfl (lv_at hl 1 rfl) ?_
  refine vp_callSi (va_Run.run (va_runSN (As := [.ref h5, .int p0]) (rest := []) ⟨hx, hb, hml, hown, hts⟩ (c_X3_cell l dC dI cI cR h5 8 ρ.2.2.2.2.1 (by decide) p0) ⟨va_cnB 2 hts gX1_stateAt_X3_cell_n52 rfl rfl rfl (hE.2 (.methodLinkNest RX1 52 yX3_cell "Cascadecourt") (by decide +kernel)) q_1 (by decide +kernel) ⟨Nat.le_of_ble_eq_true rfl, Nat.le_of_ble_eq_true rfl⟩, q_2, trivial⟩ ⟨fun a U g mk q => by obtain ⟨q0, qP, qE⟩ := q; exact ⟨q0, qP, cE.same (s := U) rfl qE⟩, fun U hU hW => ⟨rfl, by rw [hU]; exact hP.sub (ws' := [(h5, .inl (cI, 8, .inl ρ.2.2.2.2.1))]) [5] rfl, hE.warm hW⟩⟩ rfl rfl hl.1 rfl (lv_room (Nat.le_of_ble_eq_true rfl)) dX1_stateAt_5 ⟨Nat.zero_le _, Nat.zero_le _⟩)) (fun r_5 h_5 => ?_)
  subst h_5
  exact W.iret (v := (S_X3_cell 8 ρ.2.2.2.2.1 p0)) hx hb hr (fun t ht hW => ⟨(S_X3_cell 8 ρ.2.2.2.2.1 p0), rfl, by simp only [S_X1_stateAt], ht⟩) (fun q h => by cases h) dX1_stateAt_8
def G_X1_turnFrom_7 (ρ : RS) (p0 : Int32) : Nat → Nat → Int32 → Int32 → Int32
  | 0, k, v2_7, v3_7 => v2_7
  | mm + 1, k, v2_7, v3_7 => (if (S_X3_cell 8 ρ.2.2.1 v3_7) = p0 then v2_7 + (S_X3_cell 8 ρ.1 v3_7) else G_X1_turnFrom_7 ρ p0 mm (k + 1) (v2_7 + (S_X3_cell 8 ρ.1 v3_7)) (S_X3_cell 8 ρ.2.2.1 v3_7))
def S_X1_turnFrom (ρ : RS) (p0 : Int32) : Int32 := G_X1_turnFrom_7 ρ p0 ρ.2.2.2.2.2.1.toNatClampNeg 0 0 p0
set_option maxHeartbeats 4000000 in
set_option maxRecDepth 100000 in
theorem c_X1_turnFrom (l : Launch) (dC : Nat → ClassId) (dI : Nat → Nat → Nat) (cI cR : ClassId) (h h1 h2 h3 h4 h5 : Nat) (ρ : RS) (p0 : Int32)  : Met l yX1_turnFrom wsX1_turnFrom ({ frames := 1, cells := 0, slots := 0, locals := 21 }) (va_Pc [.ref h, .int p0] (fun U => va_P (dC, dI) vwCl (wR cI h h1 h2 h3 h4 h5 ρ) U.heap ∧ cE (dC, dI) cI cR U)) (vp_Si (fun r => r = S_X1_turnFrom ρ p0)) 0 0 (fun _ => False) := by
  refine Met.ofW (cc := cX1_turnFrom) (maxL := 5) (ret := (some .int)) (by decide) rfl ?_
  intro p e s m args below meth c s₁ B hml hv
  obtain ⟨rfl, hP, hE⟩ := hv
  have hK := hE.1
  have hx := B.exec
  have hb := B.bytes
  have hr := B.returns
  have hts := atoms_spec (ws := wsX1_turnFrom) B.pre
  have hown : s.vm.findClass RX1 = some m.cls := findClass_of_methodNamed B.named
  have hlocks := B.notSynchronized
  have hP : va_P (dC, dI) vwCl [(h, .inr (1, [.ref h1, .ref h2, .ref h3, .ref h4, .ref h5, .int ρ.2.2.2.2.2.1, .int ρ.2.2.2.2.2.2])), (h1, .inl (cI, 8, .inl ρ.1)), (h2, .inl (cI, 8, .inl ρ.2.1)), (h3, .inl (cI, 8, .inl ρ.2.2.1)), (h4, .inl (cI, 8, .inl ρ.2.2.2.1)), (h5, .inl (cI, 8, .inl ρ.2.2.2.2.1))] s.heap := hP
  have hl := lv_entry ([.ref h, .int p0]) (n := 5) (Nat.le_of_ble_eq_true rfl)
  rw [lg_entry_eq]
  generalize (lg_sl ([.ref h, .int p0]) ++ List.replicate (5 - (lg_sl ([.ref h, .int p0])).length) Slot.unset).toArray = ls at hl ⊢
  have hl : lv_has ls 5 [(0, .ref h), (1, .int p0)] := hl
  have q_0 := hts (.fieldLink RX1 27 "Cascadecourt$Row" "length" "I") (by decide +kernel)
  have in_X1 : ∀ w ∈ wsX10, w ∈ wsX1_turnFrom := by decide +kernel
  have q_1 := hts (.fieldLink RX1 9 "Cascadecourt$Row" "heights" "[I") (by decide +kernel)
  have q_2 := hts (.initialized RX3) (by decide +kernel)
  have q_3 := hts (.static yX3_cell) (by decide +kernel)
  have q_4 := hts (.fieldLink RX1 18 "Cascadecourt$Row" "landings" "[I") (by decide +kernel)
  refine lv_iconst (v := 0) hx hb dX1_turnFrom_0 (by decide) ?_
  refine lv_istore_n (lv' := [(2, .int 0), (0, .ref h), (1, .int p0)]) hx hb dX1_turnFrom_1 rfl hl (by decide) rfl (fun ls hl => ?_)
  refine lv_iload_n hx hb dX1_turnFrom_2 rfl (lv_at hl 2 rfl) ?_
  refine lv_istore_n (lv' := [(3, .int p0), (2, .int 0), (0, .ref h), (1, .int p0)]) hx hb dX1_turnFrom_3 rfl hl (by decide) rfl (fun ls hl => ?_)
  refine lv_iconst (v := 0) hx hb dX1_turnFrom_4 (by decide) ?_
  refine lv_istore (lv' := [(4, .int 0), (3, .int p0), (2, .int 0), (0, .ref h), (1, .int p0)]) hx hb dX1_turnFrom_5 hl (by decide) rfl (fun ls hl => ?_)
  have hn7 := p_clt ρ.2.2.2.2.2.1
  have loop7 : ∀ (mm k : Nat) (v2_7 : Int32) (v3_7 : Int32) (ls : Array Slot), k + mm = ρ.2.2.2.2.2.1.toNatClampNeg → G_X1_turnFrom_7 ρ p0 mm k v2_7 v3_7 = S_X1_turnFrom ρ p0 → lv_has ls 5 [(4, .int (nI k)), (3, .int v3_7), (2, .int v2_7), (0, .ref h), (1, .int p0)] → W p l e (headSpec wsX1_turnFrom ({ frames := 1, cells := 0, slots := 0, locals := 21 })).room s m (([.ref h, .int p0] : List Value).toArray) below meth c s.heap [] 0 0 (MQ below (vp_Si (fun r => r = S_X1_turnFrom ρ p0)) (([.ref h, .int p0] : List Value).toArray) s 0 0 (fun _ => False)) (F0 m 7 ls []) := by
    intro mm
    induction mm with
    | zero =>
      intro k v2_7 v3_7 ls hk7 hG7 hl
      refine lv_iload hx hb dX1_turnFrom_7 (lv_at hl 0 rfl) ?_
      refine lv_aload_n hx hb dX1_turnFrom_9 rfl (lv_at hl 3 rfl) ?_
      refine va_get (D := (dC, dI)) (ci := 1) (v := .int ρ.2.2.2.2.2.1) (C := RX1) (T := TX1) (N := 7) hx hb hts in_X1 hown hK hP 0 rfl rfl 5 (by decide) q_0 (fun _ h9 => h9) rfl dX1_turnFrom_10 ?_
      refine lv_icmp_ge (tgt := 49) hx hb dX1_turnFrom_13 (by decide) (fun c_13 => ?_) (fun c_13 => ?_)
      · refine lv_iload_n hx hb dX1_turnFrom_49 rfl (lv_at hl 2 rfl) ?_
        exact W.iret (v := v2_7) hx hb hr (fun t ht hW => ⟨v2_7, rfl, by rw [← hG7]; simp only [G_X1_turnFrom_7], ht⟩) (fun q h => by cases h) dX1_turnFrom_50
      · exact absurd ((p_le (by omega)).mpr (by omega)) c_13
    | succ mm ih7 =>
      intro k v2_7 v3_7 ls hk7 hG7 hl
      refine lv_iload hx hb dX1_turnFrom_7 (lv_at hl 0 rfl) ?_
      refine lv_aload_n hx hb dX1_turnFrom_9 rfl (lv_at hl 3 rfl) ?_
      refine va_get (D := (dC, dI)) (ci := 1) (v := .int ρ.2.2.2.2.2.1) (C := RX1) (T := TX1) (N := 7) hx hb hts in_X1 hown hK hP 0 rfl rfl 5 (by decide) q_0 (fun _ h9 => h9) rfl dX1_turnFrom_10 ?_
      refine lv_icmp_ge (tgt := 49) hx hb dX1_turnFrom_13 (by decide) (fun c_13 => ?_) (fun c_13 => ?_)
      · exact absurd ((p_le (by omega)).mp c_13) (by omega)
      · refine lv_iload_n hx hb dX1_turnFrom_16 rfl (lv_at hl 2 rfl) ?_
        refine lv_aload_n hx hb dX1_turnFrom_17 rfl (lv_at hl 3 rfl) ?_
        refine va_get (D := (dC, dI)) (ci := 1) (v := .ref h1) (C := RX1) (T := TX1) (N := 7) hx hb hts in_X1 hown hK hP 0 rfl rfl 0 (by decide) q_1 (fun _ h9 => h9) rfl dX1_turnFrom_18 ?_
        refine lv_iload_n hx hb dX1_turnFrom_21 rfl (lv_at hl 1 rfl) ?_
        refine vp_callSi (va_Run.run (va_runSN (As := [.ref h1, .int v3_7]) (rest := [.int v2_7]) ⟨hx, hb, hml, hown, hts⟩ (c_X3_cell l dC dI cI cR h1 8 ρ.1 (by decide) v3_7) ⟨va_cnB 2 hts gX1_turnFrom_X3_cell_n52 rfl rfl rfl (hE.2 (.methodLinkNest RX1 52 yX3_cell "Cascadecourt") (by decide +kernel)) q_2 (by decide +kernel) ⟨Nat.le_of_ble_eq_true rfl, Nat.le_of_ble_eq_true rfl⟩, q_3, trivial⟩ ⟨fun a U g mk q => by obtain ⟨q0, qP, qE⟩ := q; exact ⟨q0, qP, cE.same (s := U) rfl qE⟩, fun U hU hW => ⟨rfl, by rw [hU]; exact hP.sub (ws' := [(h1, .inl (cI, 8, .inl ρ.1))]) [1] rfl, hE.warm hW⟩⟩ rfl rfl hl.1 rfl (lv_room (Nat.le_of_ble_eq_true rfl)) dX1_turnFrom_22 ⟨Nat.zero_le _, Nat.zero_le _⟩)) (fun r_22 h_22 => ?_)
        subst h_22
        refine lv_iadd hx hb dX1_turnFrom_25 ?_
        refine lv_istore_n (lv' := [(2, .int (v2_7 + (S_X3_cell 8 ρ.1 v3_7))), (4, .int (nI k)), (3, .int v3_7), (0, .ref h), (1, .int p0)]) hx hb dX1_turnFrom_26 rfl hl (by decide) rfl (fun ls hl => ?_)
        refine lv_aload_n hx hb dX1_turnFrom_27 rfl (lv_at hl 3 rfl) ?_
        refine va_get (D := (dC, dI)) (ci := 1) (v := .ref h3) (C := RX1) (T := TX1) (N := 7) hx hb hts in_X1 hown hK hP 0 rfl rfl 2 (by decide) q_4 (fun _ h9 => h9) rfl dX1_turnFrom_28 ?_
        refine lv_iload_n hx hb dX1_turnFrom_31 rfl (lv_at hl 2 rfl) ?_
        refine vp_callSi (va_Run.run (va_runSN (As := [.ref h3, .int v3_7]) (rest := []) ⟨hx, hb, hml, hown, hts⟩ (c_X3_cell l dC dI cI cR h3 8 ρ.2.2.1 (by decide) v3_7) ⟨va_cnB 2 hts gX1_turnFrom_X3_cell_n52 rfl rfl rfl (hE.2 (.methodLinkNest RX1 52 yX3_cell "Cascadecourt") (by decide +kernel)) q_2 (by decide +kernel) ⟨Nat.le_of_ble_eq_true rfl, Nat.le_of_ble_eq_true rfl⟩, q_3, trivial⟩ ⟨fun a U g mk q => by obtain ⟨q0, qP, qE⟩ := q; exact ⟨q0, qP, cE.same (s := U) rfl qE⟩, fun U hU hW => ⟨rfl, by rw [hU]; exact hP.sub (ws' := [(h3, .inl (cI, 8, .inl ρ.2.2.1))]) [3] rfl, hE.warm hW⟩⟩ rfl rfl hl.1 rfl (lv_room (Nat.le_of_ble_eq_true rfl)) dX1_turnFrom_32 ⟨Nat.zero_le _, Nat.zero_le _⟩)) (fun r_32 h_32 => ?_)
        subst h_32
        refine lv_istore_n (lv' := [(3, .int (S_X3_cell 8 ρ.2.2.1 v3_7)), (2, .int (v2_7 + (S_X3_cell 8 ρ.1 v3_7))), (4, .int (nI k)), (0, .ref h), (1, .int p0)]) hx hb dX1_turnFrom_35 rfl hl (by decide) rfl (fun ls hl => ?_)
        refine lv_iload_n hx hb dX1_turnFrom_36 rfl (lv_at hl 0 rfl) ?_
        refine lv_iload_n hx hb dX1_turnFrom_37 rfl (lv_at hl 4 rfl) ?_
        refine lv_icmp_ne (tgt := 43) hx hb dX1_turnFrom_38 (by decide) (fun c_38 => ?_) (fun c_38 => ?_)
        · refine lv_iinc (v := nI (k + 1)) (lv' := [(4, .int (nI (k + 1))), (3, .int (S_X3_cell 8 ρ.2.2.1 v3_7)), (2, .int (v2_7 + (S_X3_cell 8 ρ.1 v3_7))), (0, .ref h), (1, .int p0)]) hx hb dX1_turnFrom_43 hl (k := 2) rfl ((nI_succ _).symm) (by decide) rfl (fun ls hl => ?_)
          refine lv_goto (tgt := 7) hx hb dX1_turnFrom_46 (by decide) ?_
          exact ih7 (k + 1) (v2_7 + (S_X3_cell 8 ρ.1 v3_7)) (S_X3_cell 8 ρ.2.2.1 v3_7) ls (by omega) (by rw [← hG7]; simp only [G_X1_turnFrom_7, if_neg c_38]) (lv_sub hl [0, 1, 2, 3, 4] rfl)
        · refine lv_iload_n hx hb dX1_turnFrom_41 rfl (lv_at hl 1 rfl) ?_
          exact W.iret (v := (v2_7 + (S_X3_cell 8 ρ.1 v3_7))) hx hb hr (fun t ht hW => ⟨(v2_7 + (S_X3_cell 8 ρ.1 v3_7)), rfl, by rw [← hG7]; simp only [G_X1_turnFrom_7, if_pos c_38], ht⟩) (fun q h => by cases h) dX1_turnFrom_42
  exact loop7 ρ.2.2.2.2.2.1.toNatClampNeg 0 0 p0 ls (by omega) (by simp only [S_X1_turnFrom]) (lv_sub hl [0, 1, 2, 3, 4] rfl)
def G_X1_stateBefore_4 (ρ : RS) (p0 : Int32) : Nat → Nat → Int32 → Int32
  | 0, k, v2_4 => v2_4
  | mm + 1, k, v2_4 => (if ((S_X1_throwAt ρ (p0 - (nI k))) - (nI k)) < 0 then G_X1_stateBefore_4 ρ p0 mm (k + 1) v2_4 else G_X1_stateBefore_4 ρ p0 mm (k + 1) (v2_4 ||| (1 <<< (((S_X1_throwAt ρ (p0 - (nI k))) - (nI k)) &&& 31))))
def S_X1_stateBefore (ρ : RS) (p0 : Int32) : Int32 := G_X1_stateBefore_4 ρ p0 (10 - 1) 1 0
set_option maxHeartbeats 4000000 in
set_option maxRecDepth 100000 in
theorem c_X1_stateBefore (l : Launch) (dC : Nat → ClassId) (dI : Nat → Nat → Nat) (cI cR : ClassId) (h h1 h2 h3 h4 h5 : Nat) (ρ : RS) (p0 : Int32)  : Met l yX1_stateBefore wsX1_stateBefore ({ frames := 3, cells := 0, slots := 0, locals := 64 }) (va_Pc [.ref h, .int p0] (fun U => va_P (dC, dI) vwCl (wR cI h h1 h2 h3 h4 h5 ρ) U.heap ∧ cE (dC, dI) cI cR U)) (vp_Si (fun r => r = S_X1_stateBefore ρ p0)) 0 0 (fun _ => False) := by
  refine Met.ofW (cc := cX1_stateBefore) (maxL := 5) (ret := (some .int)) (by decide) rfl ?_
  intro p e s m args below meth c s₁ B hml hv
  obtain ⟨rfl, hP, hE⟩ := hv
  have hK := hE.1
  have hx := B.exec
  have hb := B.bytes
  have hr := B.returns
  have hts := atoms_spec (ws := wsX1_stateBefore) B.pre
  have hown : s.vm.findClass RX1 = some m.cls := findClass_of_methodNamed B.named
  have hlocks := B.notSynchronized
  have hP : va_P (dC, dI) vwCl [(h, .inr (1, [.ref h1, .ref h2, .ref h3, .ref h4, .ref h5, .int ρ.2.2.2.2.2.1, .int ρ.2.2.2.2.2.2])), (h1, .inl (cI, 8, .inl ρ.1)), (h2, .inl (cI, 8, .inl ρ.2.1)), (h3, .inl (cI, 8, .inl ρ.2.2.1)), (h4, .inl (cI, 8, .inl ρ.2.2.2.1)), (h5, .inl (cI, 8, .inl ρ.2.2.2.2.1))] s.heap := hP
  have hl := lv_entry ([.ref h, .int p0]) (n := 5) (Nat.le_of_ble_eq_true rfl)
  rw [lg_entry_eq]
  generalize (lg_sl ([.ref h, .int p0]) ++ List.replicate (5 - (lg_sl ([.ref h, .int p0])).length) Slot.unset).toArray = ls at hl ⊢
  have hl : lv_has ls 5 [(0, .ref h), (1, .int p0)] := hl
  refine lv_iconst (v := 0) hx hb dX1_stateBefore_0 (by decide) ?_
  refine lv_istore_n (lv' := [(2, .int 0), (0, .ref h), (1, .int p0)]) hx hb dX1_stateBefore_1 rfl hl (by decide) rfl (fun ls hl => ?_)
  refine lv_iconst (v := 1) hx hb dX1_stateBefore_2 (by decide) ?_
  refine lv_istore_n (lv' := [(3, .int 1), (2, .int 0), (0, .ref h), (1, .int p0)]) hx hb dX1_stateBefore_3 rfl hl (by decide) rfl (fun ls hl => ?_)
  have loop4 : ∀ (mm k : Nat) (v2_4 : Int32) (ls : Array Slot), k + mm = 10 → G_X1_stateBefore_4 ρ p0 mm k v2_4 = S_X1_stateBefore ρ p0 → lv_has ls 5 [(3, .int (nI k)), (2, .int v2_4), (0, .ref h), (1, .int p0)] → W p l e (headSpec wsX1_stateBefore ({ frames := 3, cells := 0, slots := 0, locals := 64 })).room s m (([.ref h, .int p0] : List Value).toArray) below meth c s.heap [] 0 0 (MQ below (vp_Si (fun r => r = S_X1_stateBefore ρ p0)) (([.ref h, .int p0] : List Value).toArray) s 0 0 (fun _ => False)) (F0 m 4 ls []) := by
    intro mm
    induction mm with
    | zero =>
      intro k v2_4 ls hk4 hG4 hl
      refine lv_iload_n hx hb dX1_stateBefore_4 rfl (lv_at hl 0 rfl) ?_
      refine lv_bipush (v := 9) hx hb dX1_stateBefore_5 (by decide) ?_
      refine lv_icmp_gt (tgt := 39) hx hb dX1_stateBefore_7 (by decide) (fun c_7 => ?_) (fun c_7 => ?_)
      · refine lv_iload_n hx hb dX1_stateBefore_39 rfl (lv_at hl 1 rfl) ?_
        exact W.iret (v := v2_4) hx hb hr (fun t ht hW => ⟨v2_4, rfl, by rw [← hG4]; simp only [G_X1_stateBefore_4], ht⟩) (fun q h => by cases h) dX1_stateBefore_40
      · exact absurd (p_9 (by omega) (by omega)) c_7
    | succ mm ih4 =>
      intro k v2_4 ls hk4 hG4 hl
      refine lv_iload_n hx hb dX1_stateBefore_4 rfl (lv_at hl 0 rfl) ?_
      refine lv_bipush (v := 9) hx hb dX1_stateBefore_5 (by decide) ?_
      refine lv_icmp_gt (tgt := 39) hx hb dX1_stateBefore_7 (by decide) (fun c_7 => ?_) (fun c_7 => ?_)
      · exact absurd c_7 (p_9n (by omega))
      · refine lv_aload_n hx hb dX1_stateBefore_10 rfl (lv_at hl 2 rfl) ?_
        refine lv_iload_n hx hb dX1_stateBefore_11 rfl (lv_at hl 3 rfl) ?_
        refine lv_iload_n hx hb dX1_stateBefore_12 rfl (lv_at hl 0 rfl) ?_
        refine lv_isub hx hb dX1_stateBefore_13 ?_
        refine vp_callSi (va_Run.run (va_runV (As := [.int (p0 - (nI k))]) (rest := []) ⟨hx, hb, hml, hown, hts⟩ (c_X1_throwAt l dC dI cI cR h h1 h2 h3 h4 h5 ρ (p0 - (nI k))) (cwV 1 hts gX1_stateBefore_X1_throwAt rfl rfl rfl (by decide +kernel) ⟨Nat.le_of_ble_eq_true rfl, Nat.le_of_ble_eq_true rfl⟩) ⟨fun a U g mk q => by obtain ⟨q0, qP, qE⟩ := q; exact ⟨q0, qP, cE.same (s := U) rfl qE⟩, va_recv hK hP (ci := 1) (q0 := 0) rfl rfl, fun U hU hW => ⟨rfl, by rw [hU]; exact hP.sub (ws' := (wR cI h h1 h2 h3 h4 h5 ρ)) [0, 1, 2, 3, 4, 5] rfl, hE.warm hW⟩⟩ rfl rfl hl.1 rfl (lv_room (Nat.le_of_ble_eq_true rfl)) dX1_stateBefore_14 ⟨Nat.zero_le _, Nat.zero_le _⟩)) (fun r_14 h_14 => ?_)
        subst h_14
        refine lv_iload_n hx hb dX1_stateBefore_17 rfl (lv_at hl 0 rfl) ?_
        refine lv_isub hx hb dX1_stateBefore_18 ?_
        refine lv_istore (lv' := [(4, .int ((S_X1_throwAt ρ (p0 - (nI k))) - (nI k))), (3, .int (nI k)), (2, .int v2_4), (0, .ref h), (1, .int p0)]) hx hb dX1_stateBefore_19 hl (by decide) rfl (fun ls hl => ?_)
        refine lv_iload hx hb dX1_stateBefore_21 (lv_at hl 0 rfl) ?_
        refine lv_if_lt (tgt := 33) hx hb dX1_stateBefore_23 (by decide) (fun c_23 => ?_) (fun c_23 => ?_)
        · refine lv_iinc (v := nI (k + 1)) (lv' := [(3, .int (nI (k + 1))), (4, .int ((S_X1_throwAt ρ (p0 - (nI k))) - (nI k))), (2, .int v2_4), (0, .ref h), (1, .int p0)]) hx hb dX1_stateBefore_33 hl (k := 1) rfl ((nI_succ _).symm) (by decide) rfl (fun ls hl => ?_)
          refine lv_goto (tgt := 4) hx hb dX1_stateBefore_36 (by decide) ?_
          exact ih4 (k + 1) v2_4 ls (by omega) (by rw [← hG4]; simp only [G_X1_stateBefore_4, if_pos c_23]) (lv_sub hl [0, 2, 3, 4] rfl)
        · refine lv_iload_n hx hb dX1_stateBefore_26 rfl (lv_at hl 2 rfl) ?_
          refine lv_iconst (v := 1) hx hb dX1_stateBefore_27 (by decide) ?_
          refine lv_iload hx hb dX1_stateBefore_28 (lv_at hl 0 rfl) ?_
          refine lv_ishl hx hb dX1_stateBefore_30 ?_
          refine lv_ior hx hb dX1_stateBefore_31 ?_
          refine lv_istore_n (lv' := [(2, .int (v2_4 ||| (1 <<< (((S_X1_throwAt ρ (p0 - (nI k))) - (nI k)) &&& 31)))), (4, .int ((S_X1_throwAt ρ (p0 - (nI k))) - (nI k))), (3, .int (nI k)), (0, .ref h), (1, .int p0)]) hx hb dX1_stateBefore_32 rfl hl (by decide) rfl (fun ls hl => ?_)
          refine lv_iinc (v := nI (k + 1)) (lv' := [(3, .int (nI (k + 1))), (2, .int (v2_4 ||| (1 <<< (((S_X1_throwAt ρ (p0 - (nI k))) - (nI k)) &&& 31)))), (4, .int ((S_X1_throwAt ρ (p0 - (nI k))) - (nI k))), (0, .ref h), (1, .int p0)]) hx hb dX1_stateBefore_33 hl (k := 2) rfl ((nI_succ _).symm) (by decide) rfl (fun ls hl => ?_)
          refine lv_goto (tgt := 4) hx hb dX1_stateBefore_36 (by decide) ?_
          exact ih4 (k + 1) (v2_4 ||| (1 <<< (((S_X1_throwAt ρ (p0 - (nI k))) - (nI k)) &&& 31))) ls (by omega) (by rw [← hG4]; simp only [G_X1_stateBefore_4, if_neg c_23]) (lv_sub hl [0, 1, 3, 4] rfl)
  exact loop4 (10 - 1) 1 0 ls (by omega) (by simp only [S_X1_stateBefore]) (lv_sub hl [0, 1, 2, 3] rfl)
def G_X1_sumOfThrows_4 (ρ : RS) : Nat → Nat → Int32 → Int32
  | 0, k, v1_4 => v1_4
  | mm + 1, k, v1_4 => G_X1_sumOfThrows_4 ρ mm (k + 1) (v1_4 + (S_X3_cell 8 ρ.1 (nI k)))
def S_X1_sumOfThrows (ρ : RS) : Int32 := G_X1_sumOfThrows_4 ρ ρ.2.2.2.2.2.1.toNatClampNeg 0 0
set_option maxHeartbeats 4000000 in
set_option maxRecDepth 100000 in
theorem c_X1_sumOfThrows (l : Launch) (dC : Nat → ClassId) (dI : Nat → Nat → Nat) (cI cR : ClassId) (h h1 h2 h3 h4 h5 : Nat) (ρ : RS)   : Met l yX1_sumOfThrows wsX1_sumOfThrows ({ frames := 1, cells := 0, slots := 0, locals := 21 }) (va_Pc [.ref h] (fun U => va_P (dC, dI) vwCl (wR cI h h1 h2 h3 h4 h5 ρ) U.heap ∧ cE (dC, dI) cI cR U)) (vp_Si (fun r => r = S_X1_sumOfThrows ρ)) 0 0 (fun _ => False) := by
  refine Met.ofW (cc := cX1_sumOfThrows) (maxL := 3) (ret := (some .int)) (by decide) rfl ?_
  intro p e s m args below meth c s₁ B hml hv
  obtain ⟨rfl, hP, hE⟩ := hv
  have hK := hE.1
  have hx := B.exec
  have hb := B.bytes
  have hr := B.returns
  have hts := atoms_spec (ws := wsX1_sumOfThrows) B.pre
  have hown : s.vm.findClass RX1 = some m.cls := findClass_of_methodNamed B.named
  have hlocks := B.notSynchronized
  have hP : va_P (dC, dI) vwCl [(h, .inr (1, [.ref h1, .ref h2, .ref h3, .ref h4, .ref h5, .int ρ.2.2.2.2.2.1, .int ρ.2.2.2.2.2.2])), (h1, .inl (cI, 8, .inl ρ.1)), (h2, .inl (cI, 8, .inl ρ.2.1)), (h3, .inl (cI, 8, .inl ρ.2.2.1)), (h4, .inl (cI, 8, .inl ρ.2.2.2.1)), (h5, .inl (cI, 8, .inl ρ.2.2.2.2.1))] s.heap := hP
  have hl := lv_entry ([.ref h]) (n := 3) (Nat.le_of_ble_eq_true rfl)
  rw [lg_entry_eq]
  generalize (lg_sl ([.ref h]) ++ List.replicate (3 - (lg_sl ([.ref h])).length) Slot.unset).toArray = ls at hl ⊢
  have hl : lv_has ls 3 [(0, .ref h)] := hl
  have q_0 := hts (.fieldLink RX1 27 "Cascadecourt$Row" "length" "I") (by decide +kernel)
  have in_X1 : ∀ w ∈ wsX10, w ∈ wsX1_sumOfThrows := by decide +kernel
  have q_1 := hts (.fieldLink RX1 9 "Cascadecourt$Row" "heights" "[I") (by decide +kernel)
  have q_2 := hts (.initialized RX3) (by decide +kernel)
  have q_3 := hts (.static yX3_cell) (by decide +kernel)
  refine lv_iconst (v := 0) hx hb dX1_sumOfThrows_0 (by decide) ?_
  refine lv_istore_n (lv' := [(1, .int 0), (0, .ref h)]) hx hb dX1_sumOfThrows_1 rfl hl (by decide) rfl (fun ls hl => ?_)
  refine lv_iconst (v := 0) hx hb dX1_sumOfThrows_2 (by decide) ?_
  refine lv_istore_n (lv' := [(2, .int 0), (1, .int 0), (0, .ref h)]) hx hb dX1_sumOfThrows_3 rfl hl (by decide) rfl (fun ls hl => ?_)
  have hn4 := p_clt ρ.2.2.2.2.2.1
  have loop4 : ∀ (mm k : Nat) (v1_4 : Int32) (ls : Array Slot), k + mm = ρ.2.2.2.2.2.1.toNatClampNeg → G_X1_sumOfThrows_4 ρ mm k v1_4 = S_X1_sumOfThrows ρ → lv_has ls 3 [(2, .int (nI k)), (1, .int v1_4), (0, .ref h)] → W p l e (headSpec wsX1_sumOfThrows ({ frames := 1, cells := 0, slots := 0, locals := 21 })).room s m (([.ref h] : List Value).toArray) below meth c s.heap [] 0 0 (MQ below (vp_Si (fun r => r = S_X1_sumOfThrows ρ)) (([.ref h] : List Value).toArray) s 0 0 (fun _ => False)) (F0 m 4 ls []) := by
    intro mm
    induction mm with
    | zero =>
      intro k v1_4 ls hk4 hG4 hl
      refine lv_iload_n hx hb dX1_sumOfThrows_4 rfl (lv_at hl 0 rfl) ?_
      refine lv_aload_n hx hb dX1_sumOfThrows_5 rfl (lv_at hl 2 rfl) ?_
      refine va_get (D := (dC, dI)) (ci := 1) (v := .int ρ.2.2.2.2.2.1) (C := RX1) (T := TX1) (N := 7) hx hb hts in_X1 hown hK hP 0 rfl rfl 5 (by decide) q_0 (fun _ h9 => h9) rfl dX1_sumOfThrows_6 ?_
      refine lv_icmp_ge (tgt := 29) hx hb dX1_sumOfThrows_9 (by decide) (fun c_9 => ?_) (fun c_9 => ?_)
      · refine lv_iload_n hx hb dX1_sumOfThrows_29 rfl (lv_at hl 1 rfl) ?_
        exact W.iret (v := v1_4) hx hb hr (fun t ht hW => ⟨v1_4, rfl, by rw [← hG4]; simp only [G_X1_sumOfThrows_4], ht⟩) (fun q h => by cases h) dX1_sumOfThrows_30
      · exact absurd ((p_le (by omega)).mpr (by omega)) c_9
    | succ mm ih4 =>
      intro k v1_4 ls hk4 hG4 hl
      refine lv_iload_n hx hb dX1_sumOfThrows_4 rfl (lv_at hl 0 rfl) ?_
      refine lv_aload_n hx hb dX1_sumOfThrows_5 rfl (lv_at hl 2 rfl) ?_
      refine va_get (D := (dC, dI)) (ci := 1) (v := .int ρ.2.2.2.2.2.1) (C := RX1) (T := TX1) (N := 7) hx hb hts in_X1 hown hK hP 0 rfl rfl 5 (by decide) q_0 (fun _ h9 => h9) rfl dX1_sumOfThrows_6 ?_
      refine lv_icmp_ge (tgt := 29) hx hb dX1_sumOfThrows_9 (by decide) (fun c_9 => ?_) (fun c_9 => ?_)
      · exact absurd ((p_le (by omega)).mp c_9) (by omega)
      · refine lv_iload_n hx hb dX1_sumOfThrows_12 rfl (lv_at hl 1 rfl) ?_
        refine lv_aload_n hx hb dX1_sumOfThrows_13 rfl (lv_at hl 2 rfl) ?_
        refine va_get (D := (dC, dI)) (ci := 1) (v := .ref h1) (C := RX1) (T := TX1) (N := 7) hx hb hts in_X1 hown hK hP 0 rfl rfl 0 (by decide) q_1 (fun _ h9 => h9) rfl dX1_sumOfThrows_14 ?_
        refine lv_iload_n hx hb dX1_sumOfThrows_17 rfl (lv_at hl 0 rfl) ?_
        refine vp_callSi (va_Run.run (va_runSN (As := [.ref h1, .int (nI k)]) (rest := [.int v1_4]) ⟨hx, hb, hml, hown, hts⟩ (c_X3_cell l dC dI cI cR h1 8 ρ.1 (by decide) (nI k)) ⟨va_cnB 2 hts gX1_sumOfThrows_X3_cell_n52 rfl rfl rfl (hE.2 (.methodLinkNest RX1 52 yX3_cell "Cascadecourt") (by decide +kernel)) q_2 (by decide +kernel) ⟨Nat.le_of_ble_eq_true rfl, Nat.le_of_ble_eq_true rfl⟩, q_3, trivial⟩ ⟨fun a U g mk q => by obtain ⟨q0, qP, qE⟩ := q; exact ⟨q0, qP, cE.same (s := U) rfl qE⟩, fun U hU hW => ⟨rfl, by rw [hU]; exact hP.sub (ws' := [(h1, .inl (cI, 8, .inl ρ.1))]) [1] rfl, hE.warm hW⟩⟩ rfl rfl hl.1 rfl (lv_room (Nat.le_of_ble_eq_true rfl)) dX1_sumOfThrows_18 ⟨Nat.zero_le _, Nat.zero_le _⟩)) (fun r_18 h_18 => ?_)
        subst h_18
        refine lv_iadd hx hb dX1_sumOfThrows_21 ?_
        refine lv_istore_n (lv' := [(1, .int (v1_4 + (S_X3_cell 8 ρ.1 (nI k)))), (2, .int (nI k)), (0, .ref h)]) hx hb dX1_sumOfThrows_22 rfl hl (by decide) rfl (fun ls hl => ?_)
        refine lv_iinc (v := nI (k + 1)) (lv' := [(2, .int (nI (k + 1))), (1, .int (v1_4 + (S_X3_cell 8 ρ.1 (nI k)))), (0, .ref h)]) hx hb dX1_sumOfThrows_23 hl (k := 1) rfl ((nI_succ _).symm) (by decide) rfl (fun ls hl => ?_)
        refine lv_goto (tgt := 4) hx hb dX1_sumOfThrows_26 (by decide) ?_
        exact ih4 (k + 1) (v1_4 + (S_X3_cell 8 ρ.1 (nI k))) ls (by omega) (by rw [← hG4]; simp only [G_X1_sumOfThrows_4]) (lv_sub hl [0, 1, 2] rfl)
  exact loop4 ρ.2.2.2.2.2.1.toNatClampNeg 0 0 ls (by omega) (by simp only [S_X1_sumOfThrows]) (lv_sub hl [0, 1, 2] rfl)
def G_X1_crossingThrows_4 (ρ : RS) : Nat → Nat → Int32 → Int32
  | 0, k, v1_4 => v1_4
  | mm + 1, k, v1_4 => G_X1_crossingThrows_4 ρ mm (k + 1) (v1_4 + ((S_X3_cell 8 ρ.1 (nI k)) - (S_X3_cell 8 ρ.1 (nI k)) / 2 * 2))
def S_X1_crossingThrows (ρ : RS) : Int32 := G_X1_crossingThrows_4 ρ ρ.2.2.2.2.2.1.toNatClampNeg 0 0
set_option maxHeartbeats 4000000 in
set_option maxRecDepth 100000 in
theorem c_X1_crossingThrows (l : Launch) (dC : Nat → ClassId) (dI : Nat → Nat → Nat) (cI cR : ClassId) (h h1 h2 h3 h4 h5 : Nat) (ρ : RS)   : Met l yX1_crossingThrows wsX1_crossingThrows ({ frames := 1, cells := 0, slots := 0, locals := 21 }) (va_Pc [.ref h] (fun U => va_P (dC, dI) vwCl (wR cI h h1 h2 h3 h4 h5 ρ) U.heap ∧ cE (dC, dI) cI cR U)) (vp_Si (fun r => r = S_X1_crossingThrows ρ)) 0 0 (fun _ => False) := by
  refine Met.ofW (cc := cX1_crossingThrows) (maxL := 3) (ret := (some .int)) (by decide) rfl ?_
  intro p e s m args below meth c s₁ B hml hv
  obtain ⟨rfl, hP, hE⟩ := hv
  have hK := hE.1
  have hx := B.exec
  have hb := B.bytes
  have hr := B.returns
  have hts := atoms_spec (ws := wsX1_crossingThrows) B.pre
  have hown : s.vm.findClass RX1 = some m.cls := findClass_of_methodNamed B.named
  have hlocks := B.notSynchronized
  have hP : va_P (dC, dI) vwCl [(h, .inr (1, [.ref h1, .ref h2, .ref h3, .ref h4, .ref h5, .int ρ.2.2.2.2.2.1, .int ρ.2.2.2.2.2.2])), (h1, .inl (cI, 8, .inl ρ.1)), (h2, .inl (cI, 8, .inl ρ.2.1)), (h3, .inl (cI, 8, .inl ρ.2.2.1)), (h4, .inl (cI, 8, .inl ρ.2.2.2.1)), (h5, .inl (cI, 8, .inl ρ.2.2.2.2.1))] s.heap := hP
  have hl := lv_entry ([.ref h]) (n := 3) (Nat.le_of_ble_eq_true rfl)
  rw [lg_entry_eq]
  generalize (lg_sl ([.ref h]) ++ List.replicate (3 - (lg_sl ([.ref h])).length) Slot.unset).toArray = ls at hl ⊢
  have hl : lv_has ls 3 [(0, .ref h)] := hl
  have q_0 := hts (.fieldLink RX1 27 "Cascadecourt$Row" "length" "I") (by decide +kernel)
  have in_X1 : ∀ w ∈ wsX10, w ∈ wsX1_crossingThrows := by decide +kernel
  have q_1 := hts (.fieldLink RX1 9 "Cascadecourt$Row" "heights" "[I") (by decide +kernel)
  have q_2 := hts (.initialized RX3) (by decide +kernel)
  have q_3 := hts (.static yX3_cell) (by decide +kernel)
  refine lv_iconst (v := 0) hx hb dX1_crossingThrows_0 (by decide) ?_
  refine lv_istore_n (lv' := [(1, .int 0), (0, .ref h)]) hx hb dX1_crossingThrows_1 rfl hl (by decide) rfl (fun ls hl => ?_)
  refine lv_iconst (v := 0) hx hb dX1_crossingThrows_2 (by decide) ?_
  refine lv_istore_n (lv' := [(2, .int 0), (1, .int 0), (0, .ref h)]) hx hb dX1_crossingThrows_3 rfl hl (by decide) rfl (fun ls hl => ?_)
  have hn4 := p_clt ρ.2.2.2.2.2.1
  have loop4 : ∀ (mm k : Nat) (v1_4 : Int32) (ls : Array Slot), k + mm = ρ.2.2.2.2.2.1.toNatClampNeg → G_X1_crossingThrows_4 ρ mm k v1_4 = S_X1_crossingThrows ρ → lv_has ls 3 [(2, .int (nI k)), (1, .int v1_4), (0, .ref h)] → W p l e (headSpec wsX1_crossingThrows ({ frames := 1, cells := 0, slots := 0, locals := 21 })).room s m (([.ref h] : List Value).toArray) below meth c s.heap [] 0 0 (MQ below (vp_Si (fun r => r = S_X1_crossingThrows ρ)) (([.ref h] : List Value).toArray) s 0 0 (fun _ => False)) (F0 m 4 ls []) := by
    intro mm
    induction mm with
    | zero =>
      intro k v1_4 ls hk4 hG4 hl
      refine lv_iload_n hx hb dX1_crossingThrows_4 rfl (lv_at hl 0 rfl) ?_
      refine lv_aload_n hx hb dX1_crossingThrows_5 rfl (lv_at hl 2 rfl) ?_
      refine va_get (D := (dC, dI)) (ci := 1) (v := .int ρ.2.2.2.2.2.1) (C := RX1) (T := TX1) (N := 7) hx hb hts in_X1 hown hK hP 0 rfl rfl 5 (by decide) q_0 (fun _ h9 => h9) rfl dX1_crossingThrows_6 ?_
      refine lv_icmp_ge (tgt := 31) hx hb dX1_crossingThrows_9 (by decide) (fun c_9 => ?_) (fun c_9 => ?_)
      · refine lv_iload_n hx hb dX1_crossingThrows_31 rfl (lv_at hl 1 rfl) ?_
        exact W.iret (v := v1_4) hx hb hr (fun t ht hW => ⟨v1_4, rfl, by rw [← hG4]; simp only [G_X1_crossingThrows_4], ht⟩) (fun q h => by cases h) dX1_crossingThrows_32
      · exact absurd ((p_le (by omega)).mpr (by omega)) c_9
    | succ mm ih4 =>
      intro k v1_4 ls hk4 hG4 hl
      refine lv_iload_n hx hb dX1_crossingThrows_4 rfl (lv_at hl 0 rfl) ?_
      refine lv_aload_n hx hb dX1_crossingThrows_5 rfl (lv_at hl 2 rfl) ?_
      refine va_get (D := (dC, dI)) (ci := 1) (v := .int ρ.2.2.2.2.2.1) (C := RX1) (T := TX1) (N := 7) hx hb hts in_X1 hown hK hP 0 rfl rfl 5 (by decide) q_0 (fun _ h9 => h9) rfl dX1_crossingThrows_6 ?_
      refine lv_icmp_ge (tgt := 31) hx hb dX1_crossingThrows_9 (by decide) (fun c_9 => ?_) (fun c_9 => ?_)
      · exact absurd ((p_le (by omega)).mp c_9) (by omega)
      · refine lv_iload_n hx hb dX1_crossingThrows_12 rfl (lv_at hl 1 rfl) ?_
        refine lv_aload_n hx hb dX1_crossingThrows_13 rfl (lv_at hl 2 rfl) ?_
        refine va_get (D := (dC, dI)) (ci := 1) (v := .ref h1) (C := RX1) (T := TX1) (N := 7) hx hb hts in_X1 hown hK hP 0 rfl rfl 0 (by decide) q_1 (fun _ h9 => h9) rfl dX1_crossingThrows_14 ?_
        refine lv_iload_n hx hb dX1_crossingThrows_17 rfl (lv_at hl 0 rfl) ?_
        refine vp_callSi (va_Run.run (va_runSN (As := [.ref h1, .int (nI k)]) (rest := [.int v1_4]) ⟨hx, hb, hml, hown, hts⟩ (c_X3_cell l dC dI cI cR h1 8 ρ.1 (by decide) (nI k)) ⟨va_cnB 2 hts gX1_crossingThrows_X3_cell_n52 rfl rfl rfl (hE.2 (.methodLinkNest RX1 52 yX3_cell "Cascadecourt") (by decide +kernel)) q_2 (by decide +kernel) ⟨Nat.le_of_ble_eq_true rfl, Nat.le_of_ble_eq_true rfl⟩, q_3, trivial⟩ ⟨fun a U g mk q => by obtain ⟨q0, qP, qE⟩ := q; exact ⟨q0, qP, cE.same (s := U) rfl qE⟩, fun U hU hW => ⟨rfl, by rw [hU]; exact hP.sub (ws' := [(h1, .inl (cI, 8, .inl ρ.1))]) [1] rfl, hE.warm hW⟩⟩ rfl rfl hl.1 rfl (lv_room (Nat.le_of_ble_eq_true rfl)) dX1_crossingThrows_18 ⟨Nat.zero_le _, Nat.zero_le _⟩)) (fun r_18 h_18 => ?_)
        subst h_18
        refine lv_iconst (v := 2) hx hb dX1_crossingThrows_21 (by decide) ?_
        refine lv_irem hx hb dX1_crossingThrows_22 (by decide) ?_
        refine lv_iadd hx hb dX1_crossingThrows_23 ?_
        refine lv_istore_n (lv' := [(1, .int (v1_4 + ((S_X3_cell 8 ρ.1 (nI k)) - (S_X3_cell 8 ρ.1 (nI k)) / 2 * 2))), (2, .int (nI k)), (0, .ref h)]) hx hb dX1_crossingThrows_24 rfl hl (by decide) rfl (fun ls hl => ?_)
        refine lv_iinc (v := nI (k + 1)) (lv' := [(2, .int (nI (k + 1))), (1, .int (v1_4 + ((S_X3_cell 8 ρ.1 (nI k)) - (S_X3_cell 8 ρ.1 (nI k)) / 2 * 2))), (0, .ref h)]) hx hb dX1_crossingThrows_25 hl (k := 1) rfl ((nI_succ _).symm) (by decide) rfl (fun ls hl => ?_)
        refine lv_goto (tgt := 4) hx hb dX1_crossingThrows_28 (by decide) ?_
        exact ih4 (k + 1) (v1_4 + ((S_X3_cell 8 ρ.1 (nI k)) - (S_X3_cell 8 ρ.1 (nI k)) / 2 * 2)) ls (by omega) (by rw [← hG4]; simp only [G_X1_crossingThrows_4]) (lv_sub hl [0, 1, 2] rfl)
  exact loop4 ρ.2.2.2.2.2.1.toNatClampNeg 0 0 ls (by omega) (by simp only [S_X1_crossingThrows]) (lv_sub hl [0, 1, 2] rfl)
def S_X1_props (ρ : RS) : Int32 := (if ρ.2.2.2.2.2.2 = 0 then (-1) else (if ρ.2.2.2.2.2.1 ≤ 0 then (-1) else (S_X1_sumOfThrows ρ) / ρ.2.2.2.2.2.1))
set_option maxHeartbeats 4000000 in
set_option maxRecDepth 100000 in
theorem c_X1_props (l : Launch) (dC : Nat → ClassId) (dI : Nat → Nat → Nat) (cI cR : ClassId) (h h1 h2 h3 h4 h5 : Nat) (ρ : RS)   : Met l yX1_props wsX1_props ({ frames := 2, cells := 0, slots := 0, locals := 43 }) (va_Pc [.ref h] (fun U => va_P (dC, dI) vwCl (wR cI h h1 h2 h3 h4 h5 ρ) U.heap ∧ cE (dC, dI) cI cR U)) (vp_Si (fun r => r = S_X1_props ρ)) 0 0 (fun _ => False) := by
  refine Met.ofW (cc := cX1_props) (maxL := 1) (ret := (some .int)) (by decide) rfl ?_
  intro p e s m args below meth c s₁ B hml hv
  obtain ⟨rfl, hP, hE⟩ := hv
  have hK := hE.1
  have hx := B.exec
  have hb := B.bytes
  have hr := B.returns
  have hts := atoms_spec (ws := wsX1_props) B.pre
  have hown : s.vm.findClass RX1 = some m.cls := findClass_of_methodNamed B.named
  have hlocks := B.notSynchronized
  have hP : va_P (dC, dI) vwCl [(h, .inr (1, [.ref h1, .ref h2, .ref h3, .ref h4, .ref h5, .int ρ.2.2.2.2.2.1, .int ρ.2.2.2.2.2.2])), (h1, .inl (cI, 8, .inl ρ.1)), (h2, .inl (cI, 8, .inl ρ.2.1)), (h3, .inl (cI, 8, .inl ρ.2.2.1)), (h4, .inl (cI, 8, .inl ρ.2.2.2.1)), (h5, .inl (cI, 8, .inl ρ.2.2.2.2.1))] s.heap := hP
  have hl := lv_entry ([.ref h]) (n := 1) (Nat.le_of_ble_eq_true rfl)
  rw [lg_entry_eq]
  generalize (lg_sl ([.ref h]) ++ List.replicate (1 - (lg_sl ([.ref h])).length) Slot.unset).toArray = ls at hl ⊢
  have hl : lv_has ls 1 [(0, .ref h)] := hl
  have q_0 := hts (.fieldLink RX1 38 "Cascadecourt$Row" "sound" "Z") (by decide +kernel)
  have in_X1 : ∀ w ∈ wsX10, w ∈ wsX1_props := by decide +kernel
  have q_1 := hts (.fieldLink RX1 27 "Cascadecourt$Row" "length" "I") (by decide +kernel)
  refine lv_aload_n hx hb dX1_props_0 rfl (lv_at hl 0 rfl) ?_
  refine va_get (D := (dC, dI)) (ci := 1) (v := .int ρ.2.2.2.2.2.2) (C := RX1) (T := TX1) (N := 7) hx hb hts in_X1 hown hK hP 0 rfl rfl 6 (by decide) q_0 (fun _ h9 => h9) rfl dX1_props_1 ?_
  refine lv_if_eq (tgt := 26) hx hb dX1_props_4 (by decide) (fun c_4 => ?_) (fun c_4 => ?_)
  · refine lv_iconst (v := (-1)) hx hb dX1_props_26 (by decide) ?_
    exact W.iret (v := (-1)) hx hb hr (fun t ht hW => ⟨(-1), rfl, by simp only [S_X1_props, if_pos c_4], ht⟩) (fun q h => by cases h) dX1_props_27
  · refine lv_aload_n hx hb dX1_props_7 rfl (lv_at hl 0 rfl) ?_
    refine va_get (D := (dC, dI)) (ci := 1) (v := .int ρ.2.2.2.2.2.1) (C := RX1) (T := TX1) (N := 7) hx hb hts in_X1 hown hK hP 0 rfl rfl 5 (by decide) q_1 (fun _ h9 => h9) rfl dX1_props_8 ?_
    refine lv_if_le (tgt := 26) hx hb dX1_props_11 (by decide) (fun c_11 => ?_) (fun c_11 => ?_)
    · refine lv_iconst (v := (-1)) hx hb dX1_props_26 (by decide) ?_
      exact W.iret (v := (-1)) hx hb hr (fun t ht hW => ⟨(-1), rfl, by simp only [S_X1_props, if_neg c_4, if_pos c_11], ht⟩) (fun q h => by cases h) dX1_props_27
    · refine lv_aload_n hx hb dX1_props_14 rfl (lv_at hl 0 rfl) ?_
      refine vp_callSi (va_Run.run (va_runV (As := []) (rest := []) ⟨hx, hb, hml, hown, hts⟩ (c_X1_sumOfThrows l dC dI cI cR h h1 h2 h3 h4 h5 ρ) (cwV 0 hts gX1_props_X1_sumOfThrows rfl rfl rfl (by decide +kernel) ⟨Nat.le_of_ble_eq_true rfl, Nat.le_of_ble_eq_true rfl⟩) ⟨fun a U g mk q => by obtain ⟨q0, qP, qE⟩ := q; exact ⟨q0, qP, cE.same (s := U) rfl qE⟩, va_recv hK hP (ci := 1) (q0 := 0) rfl rfl, fun U hU hW => ⟨rfl, by rw [hU]; exact hP.sub (ws' := (wR cI h h1 h2 h3 h4 h5 ρ)) [0, 1, 2, 3, 4, 5] rfl, hE.warm hW⟩⟩ rfl rfl hl.1 rfl (lv_room (Nat.le_of_ble_eq_true rfl)) dX1_props_15 ⟨Nat.zero_le _, Nat.zero_le _⟩)) (fun r_15 h_15 => ?_)
      subst h_15
      refine lv_aload_n hx hb dX1_props_18 rfl (lv_at hl 0 rfl) ?_
      refine va_get (D := (dC, dI)) (ci := 1) (v := .int ρ.2.2.2.2.2.1) (C := RX1) (T := TX1) (N := 7) hx hb hts in_X1 hown hK hP 0 rfl rfl 5 (by decide) q_1 (fun _ h9 => h9) rfl dX1_props_19 ?_
      refine lv_idiv hx hb dX1_props_22 (p_pos c_11) ?_
      refine lv_goto (tgt := 27) hx hb dX1_props_23 (by decide) ?_
      exact W.iret (v := ((S_X1_sumOfThrows ρ) / ρ.2.2.2.2.2.1)) hx hb hr (fun t ht hW => ⟨((S_X1_sumOfThrows ρ) / ρ.2.2.2.2.2.1), rfl, by simp only [S_X1_props, if_neg c_4, if_neg c_11], ht⟩) (fun q h => by cases h) dX1_props_27
def G_X1_isShiftedTo_15 (ρ : RS) (τ : RS) (p1 : Int32) : Nat → Nat → Int32
  | 0, k => 1
  | mm + 1, k => (if (S_X1_throwAt ρ ((nI k) + p1)) = (S_X3_cell 8 τ.1 (nI k)) then G_X1_isShiftedTo_15 ρ τ p1 mm (k + 1) else 0)
def S_X1_isShiftedTo (ρ : RS) (τ : RS) (p1 : Int32) : Int32 := (if ρ.2.2.2.2.2.1 = τ.2.2.2.2.2.1 then G_X1_isShiftedTo_15 ρ τ p1 ρ.2.2.2.2.2.1.toNatClampNeg 0 else 0)
set_option maxHeartbeats 4000000 in
set_option maxRecDepth 100000 in
theorem c_X1_isShiftedTo (l : Launch) (dC : Nat → ClassId) (dI : Nat → Nat → Nat) (cI cR : ClassId) (h h1 h2 h3 h4 h5 : Nat) (ρ : RS) (i i1 i2 i3 i4 i5 : Nat) (τ : RS) (p1 : Int32)  : Met l yX1_isShiftedTo wsX1_isShiftedTo ({ frames := 3, cells := 0, slots := 0, locals := 64 }) (va_Pc [.ref h, .ref i, .int p1] (fun U => va_P (dC, dI) vwCl ((wR cI h h1 h2 h3 h4 h5 ρ) ++ (wR cI i i1 i2 i3 i4 i5 τ)) U.heap ∧ cE (dC, dI) cI cR U)) (vp_Si (fun r => r = S_X1_isShiftedTo ρ τ p1 ∧ (r = 0 ∨ r = 1))) 0 0 (fun _ => False) := by
  refine Met.ofW (cc := cX1_isShiftedTo) (maxL := 4) (ret := (some .boolean)) (by decide) rfl ?_
  intro p e s m args below meth c s₁ B hml hv
  obtain ⟨rfl, hP, hE⟩ := hv
  have hK := hE.1
  have hx := B.exec
  have hb := B.bytes
  have hr := B.returns
  have hts := atoms_spec (ws := wsX1_isShiftedTo) B.pre
  have hown : s.vm.findClass RX1 = some m.cls := findClass_of_methodNamed B.named
  have hlocks := B.notSynchronized
  have hP : va_P (dC, dI) vwCl [(h, .inr (1, [.ref h1, .ref h2, .ref h3, .ref h4, .ref h5, .int ρ.2.2.2.2.2.1, .int ρ.2.2.2.2.2.2])), (h1, .inl (cI, 8, .inl ρ.1)), (h2, .inl (cI, 8, .inl ρ.2.1)), (h3, .inl (cI, 8, .inl ρ.2.2.1)), (h4, .inl (cI, 8, .inl ρ.2.2.2.1)), (h5, .inl (cI, 8, .inl ρ.2.2.2.2.1)), (i, .inr (1, [.ref i1, .ref i2, .ref i3, .ref i4, .ref i5, .int τ.2.2.2.2.2.1, .int τ.2.2.2.2.2.2])), (i1, .inl (cI, 8, .inl τ.1)), (i2, .inl (cI, 8, .inl τ.2.1)), (i3, .inl (cI, 8, .inl τ.2.2.1)), (i4, .inl (cI, 8, .inl τ.2.2.2.1)), (i5, .inl (cI, 8, .inl τ.2.2.2.2.1))] s.heap := hP
  have hl := lv_entry ([.ref h, .ref i, .int p1]) (n := 4) (Nat.le_of_ble_eq_true rfl)
  rw [lg_entry_eq]
  generalize (lg_sl ([.ref h, .ref i, .int p1]) ++ List.replicate (4 - (lg_sl ([.ref h, .ref i, .int p1])).length) Slot.unset).toArray = ls at hl ⊢
  have hl : lv_has ls 4 [(0, .ref h), (1, .ref i), (2, .int p1)] := hl
  have q_0 := hts (.fieldLink RX1 27 "Cascadecourt$Row" "length" "I") (by decide +kernel)
  have in_X1 : ∀ w ∈ wsX10, w ∈ wsX1_isShiftedTo := by decide +kernel
  have q_1 := hts (.fieldLink RX1 9 "Cascadecourt$Row" "heights" "[I") (by decide +kernel)
  have q_2 := hts (.initialized RX3) (by decide +kernel)
  have q_3 := hts (.static yX3_cell) (by decide +kernel)
  refine lv_aload_n hx hb dX1_isShiftedTo_0 rfl (lv_at hl 0 rfl) ?_
  refine va_get (D := (dC, dI)) (ci := 1) (v := .int ρ.2.2.2.2.2.1) (C := RX1) (T := TX1) (N := 7) hx hb hts in_X1 hown hK hP 0 rfl rfl 5 (by decide) q_0 (fun _ h9 => h9) rfl dX1_isShiftedTo_1 ?_
  refine lv_aload_n hx hb dX1_isShiftedTo_4 rfl (lv_at hl 1 rfl) ?_
  refine va_get (D := (dC, dI)) (ci := 1) (v := .int τ.2.2.2.2.2.1) (C := RX1) (T := TX1) (N := 7) hx hb hts in_X1 hown hK hP 6 rfl rfl 5 (by decide) q_0 (fun _ h9 => h9) rfl dX1_isShiftedTo_5 ?_
  refine lv_icmp_eq (tgt := 13) hx hb dX1_isShiftedTo_8 (by decide) (fun c_8 => ?_) (fun c_8 => ?_)
  · refine lv_iconst (v := 0) hx hb dX1_isShiftedTo_13 (by decide) ?_
    refine lv_istore_n (lv' := [(3, .int 0), (0, .ref h), (1, .ref i), (2, .int p1)]) hx hb dX1_isShiftedTo_14 rfl hl (by decide) rfl (fun ls hl => ?_)
    have hn15 := p_clt ρ.2.2.2.2.2.1
    have loop15 : ∀ (mm k : Nat) (ls : Array Slot), k + mm = ρ.2.2.2.2.2.1.toNatClampNeg → G_X1_isShiftedTo_15 ρ τ p1 mm k = S_X1_isShiftedTo ρ τ p1 → lv_has ls 4 [(3, .int (nI k)), (0, .ref h), (1, .ref i), (2, .int p1)] → W p l e (headSpec wsX1_isShiftedTo ({ frames := 3, cells := 0, slots := 0, locals := 64 })).room s m (([.ref h, .ref i, .int p1] : List Value).toArray) below meth c s.heap [] 0 0 (MQ below (vp_Si (fun r => r = S_X1_isShiftedTo ρ τ p1 ∧ (r = 0 ∨ r = 1))) (([.ref h, .ref i, .int p1] : List Value).toArray) s 0 0 (fun _ => False)) (F0 m 15 ls []) := by
      intro mm
      induction mm with
      | zero =>
        intro k ls hk15 hG15 hl
        refine lv_iload_n hx hb dX1_isShiftedTo_15 rfl (lv_at hl 0 rfl) ?_
        refine lv_aload_n hx hb dX1_isShiftedTo_16 rfl (lv_at hl 1 rfl) ?_
        refine va_get (D := (dC, dI)) (ci := 1) (v := .int ρ.2.2.2.2.2.1) (C := RX1) (T := TX1) (N := 7) hx hb hts in_X1 hown hK hP 0 rfl rfl 5 (by decide) q_0 (fun _ h9 => h9) rfl dX1_isShiftedTo_17 ?_
        refine lv_icmp_ge (tgt := 49) hx hb dX1_isShiftedTo_20 (by decide) (fun c_20 => ?_) (fun c_20 => ?_)
        · refine lv_iconst (v := 1) hx hb dX1_isShiftedTo_49 (by decide) ?_
          exact W.zret (v := 1) (ty := .boolean) hx hb hr (p_nar (Or.inr rfl)) (fun t ht hW => ⟨1, rfl, ⟨by rw [← hG15]; simp only [G_X1_isShiftedTo_15], (Or.inr rfl)⟩, ht⟩) (fun q h => by cases h) dX1_isShiftedTo_50
        · exact absurd ((p_le (by omega)).mpr (by omega)) c_20
      | succ mm ih15 =>
        intro k ls hk15 hG15 hl
        refine lv_iload_n hx hb dX1_isShiftedTo_15 rfl (lv_at hl 0 rfl) ?_
        refine lv_aload_n hx hb dX1_isShiftedTo_16 rfl (lv_at hl 1 rfl) ?_
        refine va_get (D := (dC, dI)) (ci := 1) (v := .int ρ.2.2.2.2.2.1) (C := RX1) (T := TX1) (N := 7) hx hb hts in_X1 hown hK hP 0 rfl rfl 5 (by decide) q_0 (fun _ h9 => h9) rfl dX1_isShiftedTo_17 ?_
        refine lv_icmp_ge (tgt := 49) hx hb dX1_isShiftedTo_20 (by decide) (fun c_20 => ?_) (fun c_20 => ?_)
        · exact absurd ((p_le (by omega)).mp c_20) (by omega)
        · refine lv_aload_n hx hb dX1_isShiftedTo_23 rfl (lv_at hl 1 rfl) ?_
          refine lv_iload_n hx hb dX1_isShiftedTo_24 rfl (lv_at hl 0 rfl) ?_
          refine lv_iload_n hx hb dX1_isShiftedTo_25 rfl (lv_at hl 3 rfl) ?_
          refine lv_iadd hx hb dX1_isShiftedTo_26 ?_
          refine vp_callSi (va_Run.run (va_runV (As := [.int ((nI k) + p1)]) (rest := []) ⟨hx, hb, hml, hown, hts⟩ (c_X1_throwAt l dC dI cI cR h h1 h2 h3 h4 h5 ρ ((nI k) + p1)) (cwV 1 hts gX1_isShiftedTo_X1_throwAt rfl rfl rfl (by decide +kernel) ⟨Nat.le_of_ble_eq_true rfl, Nat.le_of_ble_eq_true rfl⟩) ⟨fun a U g mk q => by obtain ⟨q0, qP, qE⟩ := q; exact ⟨q0, qP, cE.same (s := U) rfl qE⟩, va_recv hK hP (ci := 1) (q0 := 0) rfl rfl, fun U hU hW => ⟨rfl, by rw [hU]; exact hP.sub (ws' := (wR cI h h1 h2 h3 h4 h5 ρ)) [0, 1, 2, 3, 4, 5] rfl, hE.warm hW⟩⟩ rfl rfl hl.1 rfl (lv_room (Nat.le_of_ble_eq_true rfl)) dX1_isShiftedTo_27 ⟨Nat.zero_le _, Nat.zero_le _⟩)) (fun r_27 h_27 => ?_)
          subst h_27
          refine lv_aload_n hx hb dX1_isShiftedTo_30 rfl (lv_at hl 2 rfl) ?_
          refine va_get (D := (dC, dI)) (ci := 1) (v := .ref i1) (C := RX1) (T := TX1) (N := 7) hx hb hts in_X1 hown hK hP 6 rfl rfl 0 (by decide) q_1 (fun _ h9 => h9) rfl dX1_isShiftedTo_31 ?_
          refine lv_iload_n hx hb dX1_isShiftedTo_34 rfl (lv_at hl 0 rfl) ?_
          refine vp_callSi (va_Run.run (va_runSN (As := [.ref i1, .int (nI k)]) (rest := [.int (S_X1_throwAt ρ ((nI k) + p1))]) ⟨hx, hb, hml, hown, hts⟩ (c_X3_cell l dC dI cI cR i1 8 τ.1 (by decide) (nI k)) ⟨va_cnB 2 hts gX1_isShiftedTo_X3_cell_n52 rfl rfl rfl (hE.2 (.methodLinkNest RX1 52 yX3_cell "Cascadecourt") (by decide +kernel)) q_2 (by decide +kernel) ⟨Nat.le_of_ble_eq_true rfl, Nat.le_of_ble_eq_true rfl⟩, q_3, trivial⟩ ⟨fun a U g mk q => by obtain ⟨q0, qP, qE⟩ := q; exact ⟨q0, qP, cE.same (s := U) rfl qE⟩, fun U hU hW => ⟨rfl, by rw [hU]; exact hP.sub (ws' := [(i1, .inl (cI, 8, .inl τ.1))]) [7] rfl, hE.warm hW⟩⟩ rfl rfl hl.1 rfl (lv_room (Nat.le_of_ble_eq_true rfl)) dX1_isShiftedTo_35 ⟨Nat.zero_le _, Nat.zero_le _⟩)) (fun r_35 h_35 => ?_)
          subst h_35
          refine lv_icmp_eq (tgt := 43) hx hb dX1_isShiftedTo_38 (by decide) (fun c_38 => ?_) (fun c_38 => ?_)
          · refine lv_iinc (v := nI (k + 1)) (lv' := [(3, .int (nI (k + 1))), (0, .ref h), (1, .ref i), (2, .int p1)]) hx hb dX1_isShiftedTo_43 hl (k := 0) rfl ((nI_succ _).symm) (by decide) rfl (fun ls hl => ?_)
            refine lv_goto (tgt := 15) hx hb dX1_isShiftedTo_46 (by decide) ?_
            exact ih15 (k + 1) ls (by omega) (by rw [← hG15]; simp only [G_X1_isShiftedTo_15, if_pos c_38]) (lv_sub hl [0, 1, 2, 3] rfl)
          · refine lv_iconst (v := 0) hx hb dX1_isShiftedTo_41 (by decide) ?_
            exact W.zret (v := 0) (ty := .boolean) hx hb hr (p_nar (Or.inl rfl)) (fun t ht hW => ⟨0, rfl, ⟨by rw [← hG15]; simp only [G_X1_isShiftedTo_15, if_neg c_38], (Or.inl rfl)⟩, ht⟩) (fun q h => by cases h) dX1_isShiftedTo_42
    exact loop15 ρ.2.2.2.2.2.1.toNatClampNeg 0 ls (by omega) (by simp only [S_X1_isShiftedTo, if_pos c_8]) (lv_sub hl [0, 1, 2, 3] rfl)
  · refine lv_iconst (v := 0) hx hb dX1_isShiftedTo_11 (by decide) ?_
    exact W.zret (v := 0) (ty := .boolean) hx hb hr (p_nar (Or.inl rfl)) (fun t ht hW => ⟨0, rfl, ⟨by simp only [S_X1_isShiftedTo, if_neg c_8], (Or.inl rfl)⟩, ht⟩) (fun q h => by cases h) dX1_isShiftedTo_12
def G_X1_period_2 (ρ : RS) : Nat → Nat → Int32
  | 0, k => ρ.2.2.2.2.2.1
  | mm + 1, k => (if (S_X1_isShiftedTo ρ ρ (nI k)) = 0 then G_X1_period_2 ρ mm (k + 1) else nI k)
def S_X1_period (ρ : RS) : Int32 := G_X1_period_2 ρ (ρ.2.2.2.2.2.1.toNatClampNeg - 1) 1
set_option maxHeartbeats 4000000 in
set_option maxRecDepth 100000 in
theorem c_X1_period (l : Launch) (dC : Nat → ClassId) (dI : Nat → Nat → Nat) (cI cR : ClassId) (h h1 h2 h3 h4 h5 : Nat) (ρ : RS)  (hL : 1 ≤ ρ.2.2.2.2.2.1.toNatClampNeg) : Met l yX1_period wsX1_period ({ frames := 4, cells := 0, slots := 0, locals := 87 }) (va_Pc [.ref h] (fun U => va_P (dC, dI) vwCl (wR cI h h1 h2 h3 h4 h5 ρ) U.heap ∧ cE (dC, dI) cI cR U)) (vp_Si (fun r => r = S_X1_period ρ)) 0 0 (fun _ => False) := by
  refine Met.ofW (cc := cX1_period) (maxL := 2) (ret := (some .int)) (by decide) rfl ?_
  intro p e s m args below meth c s₁ B hml hv
  obtain ⟨rfl, hP, hE⟩ := hv
  have hK := hE.1
  have hx := B.exec
  have hb := B.bytes
  have hr := B.returns
  have hts := atoms_spec (ws := wsX1_period) B.pre
  have hown : s.vm.findClass RX1 = some m.cls := findClass_of_methodNamed B.named
  have hlocks := B.notSynchronized
  have hP : va_P (dC, dI) vwCl [(h, .inr (1, [.ref h1, .ref h2, .ref h3, .ref h4, .ref h5, .int ρ.2.2.2.2.2.1, .int ρ.2.2.2.2.2.2])), (h1, .inl (cI, 8, .inl ρ.1)), (h2, .inl (cI, 8, .inl ρ.2.1)), (h3, .inl (cI, 8, .inl ρ.2.2.1)), (h4, .inl (cI, 8, .inl ρ.2.2.2.1)), (h5, .inl (cI, 8, .inl ρ.2.2.2.2.1))] s.heap := hP
  have hl := lv_entry ([.ref h]) (n := 2) (Nat.le_of_ble_eq_true rfl)
  rw [lg_entry_eq]
  generalize (lg_sl ([.ref h]) ++ List.replicate (2 - (lg_sl ([.ref h])).length) Slot.unset).toArray = ls at hl ⊢
  have hl : lv_has ls 2 [(0, .ref h)] := hl
  have q_0 := hts (.fieldLink RX1 27 "Cascadecourt$Row" "length" "I") (by decide +kernel)
  have in_X1 : ∀ w ∈ wsX10, w ∈ wsX1_period := by decide +kernel
  refine lv_iconst (v := 1) hx hb dX1_period_0 (by decide) ?_
  refine lv_istore_n (lv' := [(1, .int 1), (0, .ref h)]) hx hb dX1_period_1 rfl hl (by decide) rfl (fun ls hl => ?_)
  have hn2 := p_clt ρ.2.2.2.2.2.1
  have loop2 : ∀ (mm k : Nat) (ls : Array Slot), k + mm = ρ.2.2.2.2.2.1.toNatClampNeg → G_X1_period_2 ρ mm k = S_X1_period ρ → lv_has ls 2 [(1, .int (nI k)), (0, .ref h)] → W p l e (headSpec wsX1_period ({ frames := 4, cells := 0, slots := 0, locals := 87 })).room s m (([.ref h] : List Value).toArray) below meth c s.heap [] 0 0 (MQ below (vp_Si (fun r => r = S_X1_period ρ)) (([.ref h] : List Value).toArray) s 0 0 (fun _ => False)) (F0 m 2 ls []) := by
    intro mm
    induction mm with
    | zero =>
      intro k ls hk2 hG2 hl
      refine lv_iload_n hx hb dX1_period_2 rfl (lv_at hl 0 rfl) ?_
      refine lv_aload_n hx hb dX1_period_3 rfl (lv_at hl 1 rfl) ?_
      refine va_get (D := (dC, dI)) (ci := 1) (v := .int ρ.2.2.2.2.2.1) (C := RX1) (T := TX1) (N := 7) hx hb hts in_X1 hown hK hP 0 rfl rfl 5 (by decide) q_0 (fun _ h9 => h9) rfl dX1_period_4 ?_
      refine lv_icmp_ge (tgt := 27) hx hb dX1_period_7 (by decide) (fun c_7 => ?_) (fun c_7 => ?_)
      · refine lv_aload_n hx hb dX1_period_27 rfl (lv_at hl 1 rfl) ?_
        refine va_get (D := (dC, dI)) (ci := 1) (v := .int ρ.2.2.2.2.2.1) (C := RX1) (T := TX1) (N := 7) hx hb hts in_X1 hown hK hP 0 rfl rfl 5 (by decide) q_0 (fun _ h9 => h9) rfl dX1_period_28 ?_
        exact W.iret (v := ρ.2.2.2.2.2.1) hx hb hr (fun t ht hW => ⟨ρ.2.2.2.2.2.1, rfl, by rw [← hG2]; simp only [G_X1_period_2], ht⟩) (fun q h => by cases h) dX1_period_31
      · exact absurd ((p_le (by omega)).mpr (by omega)) c_7
    | succ mm ih2 =>
      intro k ls hk2 hG2 hl
      refine lv_iload_n hx hb dX1_period_2 rfl (lv_at hl 0 rfl) ?_
      refine lv_aload_n hx hb dX1_period_3 rfl (lv_at hl 1 rfl) ?_
      refine va_get (D := (dC, dI)) (ci := 1) (v := .int ρ.2.2.2.2.2.1) (C := RX1) (T := TX1) (N := 7) hx hb hts in_X1 hown hK hP 0 rfl rfl 5 (by decide) q_0 (fun _ h9 => h9) rfl dX1_period_4 ?_
      refine lv_icmp_ge (tgt := 27) hx hb dX1_period_7 (by decide) (fun c_7 => ?_) (fun c_7 => ?_)
      · exact absurd ((p_le (by omega)).mp c_7) (by omega)
      · refine lv_aload_n hx hb dX1_period_10 rfl (lv_at hl 1 rfl) ?_
        refine lv_aload_n hx hb dX1_period_11 rfl (lv_at hl 1 rfl) ?_
        refine lv_iload_n hx hb dX1_period_12 rfl (lv_at hl 0 rfl) ?_
        refine vp_callSi (va_Run.run (va_runV (As := [.ref h, .int (nI k)]) (rest := []) ⟨hx, hb, hml, hown, hts⟩ (c_X1_isShiftedTo l dC dI cI cR h h1 h2 h3 h4 h5 ρ h h1 h2 h3 h4 h5 ρ (nI k)) (cwV 2 hts gX1_period_X1_isShiftedTo rfl rfl rfl (by decide +kernel) ⟨Nat.le_of_ble_eq_true rfl, Nat.le_of_ble_eq_true rfl⟩) ⟨fun a U g mk q => by obtain ⟨q0, qP, qE⟩ := q; exact ⟨q0, qP, cE.same (s := U) rfl qE⟩, va_recv hK hP (ci := 1) (q0 := 0) rfl rfl, fun U hU hW => ⟨rfl, by rw [hU]; exact hP.sub (ws' := ((wR cI h h1 h2 h3 h4 h5 ρ) ++ (wR cI h h1 h2 h3 h4 h5 ρ))) [0, 1, 2, 3, 4, 5, 0, 1, 2, 3, 4, 5] rfl, hE.warm hW⟩⟩ rfl rfl hl.1 rfl (lv_room (Nat.le_of_ble_eq_true rfl)) dX1_period_13 ⟨Nat.zero_le _, Nat.zero_le _⟩)) (fun r_13 h_13 => ?_)
        obtain ⟨rfl, hz_13⟩ := h_13
        refine lv_if_eq (tgt := 21) hx hb dX1_period_16 (by decide) (fun c_16 => ?_) (fun c_16 => ?_)
        · refine lv_iinc (v := nI (k + 1)) (lv' := [(1, .int (nI (k + 1))), (0, .ref h)]) hx hb dX1_period_21 hl (k := 0) rfl ((nI_succ _).symm) (by decide) rfl (fun ls hl => ?_)
          refine lv_goto (tgt := 2) hx hb dX1_period_24 (by decide) ?_
          exact ih2 (k + 1) ls (by omega) (by rw [← hG2]; simp only [G_X1_period_2, if_pos c_16]) (lv_sub hl [0, 1] rfl)
        · refine lv_iload_n hx hb dX1_period_19 rfl (lv_at hl 0 rfl) ?_
          exact W.iret (v := (nI k)) hx hb hr (fun t ht hW => ⟨(nI k), rfl, by rw [← hG2]; simp only [G_X1_period_2, if_neg c_16], ht⟩) (fun q h => by cases h) dX1_period_20
  exact loop2 (ρ.2.2.2.2.2.1.toNatClampNeg - 1) 1 ls (by omega) (by simp only [S_X1_period]) (lv_sub hl [0, 1] rfl)
def G_X1_isFirstOfOrbit_4 (ρ : RS) (p0 : Int32) : Nat → Nat → Int32 → Int32
  | 0, k, v2_4 => 1
  | mm + 1, k, v2_4 => (if p0 ≤ (S_X3_cell 8 ρ.2.2.1 v2_4) then G_X1_isFirstOfOrbit_4 ρ p0 mm (k + 1) (S_X3_cell 8 ρ.2.2.1 v2_4) else 0)
def S_X1_isFirstOfOrbit (ρ : RS) (p0 : Int32) : Int32 := G_X1_isFirstOfOrbit_4 ρ p0 ρ.2.2.2.2.2.1.toNatClampNeg 0 p0
set_option maxHeartbeats 4000000 in
set_option maxRecDepth 100000 in
theorem c_X1_isFirstOfOrbit (l : Launch) (dC : Nat → ClassId) (dI : Nat → Nat → Nat) (cI cR : ClassId) (h h1 h2 h3 h4 h5 : Nat) (ρ : RS) (p0 : Int32)  : Met l yX1_isFirstOfOrbit wsX1_isFirstOfOrbit ({ frames := 1, cells := 0, slots := 0, locals := 21 }) (va_Pc [.ref h, .int p0] (fun U => va_P (dC, dI) vwCl (wR cI h h1 h2 h3 h4 h5 ρ) U.heap ∧ cE (dC, dI) cI cR U)) (vp_Si (fun r => r = S_X1_isFirstOfOrbit ρ p0 ∧ (r = 0 ∨ r = 1))) 0 0 (fun _ => False) := by
  refine Met.ofW (cc := cX1_isFirstOfOrbit) (maxL := 4) (ret := (some .boolean)) (by decide) rfl ?_
  intro p e s m args below meth c s₁ B hml hv
  obtain ⟨rfl, hP, hE⟩ := hv
  have hK := hE.1
  have hx := B.exec
  have hb := B.bytes
  have hr := B.returns
  have hts := atoms_spec (ws := wsX1_isFirstOfOrbit) B.pre
  have hown : s.vm.findClass RX1 = some m.cls := findClass_of_methodNamed B.named
  have hlocks := B.notSynchronized
  have hP : va_P (dC, dI) vwCl [(h, .inr (1, [.ref h1, .ref h2, .ref h3, .ref h4, .ref h5, .int ρ.2.2.2.2.2.1, .int ρ.2.2.2.2.2.2])), (h1, .inl (cI, 8, .inl ρ.1)), (h2, .inl (cI, 8, .inl ρ.2.1)), (h3, .inl (cI, 8, .inl ρ.2.2.1)), (h4, .inl (cI, 8, .inl ρ.2.2.2.1)), (h5, .inl (cI, 8, .inl ρ.2.2.2.2.1))] s.heap := hP
  have hl := lv_entry ([.ref h, .int p0]) (n := 4) (Nat.le_of_ble_eq_true rfl)
  rw [lg_entry_eq]
  generalize (lg_sl ([.ref h, .int p0]) ++ List.replicate (4 - (lg_sl ([.ref h, .int p0])).length) Slot.unset).toArray = ls at hl ⊢
  have hl : lv_has ls 4 [(0, .ref h), (1, .int p0)] := hl
  have q_0 := hts (.fieldLink RX1 27 "Cascadecourt$Row" "length" "I") (by decide +kernel)
  have in_X1 : ∀ w ∈ wsX10, w ∈ wsX1_isFirstOfOrbit := by decide +kernel
  have q_1 := hts (.fieldLink RX1 18 "Cascadecourt$Row" "landings" "[I") (by decide +kernel)
  have q_2 := hts (.initialized RX3) (by decide +kernel)
  have q_3 := hts (.static yX3_cell) (by decide +kernel)
  refine lv_iload_n hx hb dX1_isFirstOfOrbit_0 rfl (lv_at hl 1 rfl) ?_
  refine lv_istore_n (lv' := [(2, .int p0), (0, .ref h), (1, .int p0)]) hx hb dX1_isFirstOfOrbit_1 rfl hl (by decide) rfl (fun ls hl => ?_)
  refine lv_iconst (v := 0) hx hb dX1_isFirstOfOrbit_2 (by decide) ?_
  refine lv_istore_n (lv' := [(3, .int 0), (2, .int p0), (0, .ref h), (1, .int p0)]) hx hb dX1_isFirstOfOrbit_3 rfl hl (by decide) rfl (fun ls hl => ?_)
  have hn4 := p_clt ρ.2.2.2.2.2.1
  have loop4 : ∀ (mm k : Nat) (v2_4 : Int32) (ls : Array Slot), k + mm = ρ.2.2.2.2.2.1.toNatClampNeg → G_X1_isFirstOfOrbit_4 ρ p0 mm k v2_4 = S_X1_isFirstOfOrbit ρ p0 → lv_has ls 4 [(3, .int (nI k)), (2, .int v2_4), (0, .ref h), (1, .int p0)] → W p l e (headSpec wsX1_isFirstOfOrbit ({ frames := 1, cells := 0, slots := 0, locals := 21 })).room s m (([.ref h, .int p0] : List Value).toArray) below meth c s.heap [] 0 0 (MQ below (vp_Si (fun r => r = S_X1_isFirstOfOrbit ρ p0 ∧ (r = 0 ∨ r = 1))) (([.ref h, .int p0] : List Value).toArray) s 0 0 (fun _ => False)) (F0 m 4 ls []) := by
    intro mm
    induction mm with
    | zero =>
      intro k v2_4 ls hk4 hG4 hl
      refine lv_iload_n hx hb dX1_isFirstOfOrbit_4 rfl (lv_at hl 0 rfl) ?_
      refine lv_aload_n hx hb dX1_isFirstOfOrbit_5 rfl (lv_at hl 2 rfl) ?_
      refine va_get (D := (dC, dI)) (ci := 1) (v := .int ρ.2.2.2.2.2.1) (C := RX1) (T := TX1) (N := 7) hx hb hts in_X1 hown hK hP 0 rfl rfl 5 (by decide) q_0 (fun _ h9 => h9) rfl dX1_isFirstOfOrbit_6 ?_
      refine lv_icmp_ge (tgt := 34) hx hb dX1_isFirstOfOrbit_9 (by decide) (fun c_9 => ?_) (fun c_9 => ?_)
      · refine lv_iconst (v := 1) hx hb dX1_isFirstOfOrbit_34 (by decide) ?_
        exact W.zret (v := 1) (ty := .boolean) hx hb hr (p_nar (Or.inr rfl)) (fun t ht hW => ⟨1, rfl, ⟨by rw [← hG4]; simp only [G_X1_isFirstOfOrbit_4], (Or.inr rfl)⟩, ht⟩) (fun q h => by cases h) dX1_isFirstOfOrbit_35
      · exact absurd ((p_le (by omega)).mpr (by omega)) c_9
    | succ mm ih4 =>
      intro k v2_4 ls hk4 hG4 hl
      refine lv_iload_n hx hb dX1_isFirstOfOrbit_4 rfl (lv_at hl 0 rfl) ?_
      refine lv_aload_n hx hb dX1_isFirstOfOrbit_5 rfl (lv_at hl 2 rfl) ?_
      refine va_get (D := (dC, dI)) (ci := 1) (v := .int ρ.2.2.2.2.2.1) (C := RX1) (T := TX1) (N := 7) hx hb hts in_X1 hown hK hP 0 rfl rfl 5 (by decide) q_0 (fun _ h9 => h9) rfl dX1_isFirstOfOrbit_6 ?_
      refine lv_icmp_ge (tgt := 34) hx hb dX1_isFirstOfOrbit_9 (by decide) (fun c_9 => ?_) (fun c_9 => ?_)
      · exact absurd ((p_le (by omega)).mp c_9) (by omega)
      · refine lv_aload_n hx hb dX1_isFirstOfOrbit_12 rfl (lv_at hl 2 rfl) ?_
        refine va_get (D := (dC, dI)) (ci := 1) (v := .ref h3) (C := RX1) (T := TX1) (N := 7) hx hb hts in_X1 hown hK hP 0 rfl rfl 2 (by decide) q_1 (fun _ h9 => h9) rfl dX1_isFirstOfOrbit_13 ?_
        refine lv_iload_n hx hb dX1_isFirstOfOrbit_16 rfl (lv_at hl 1 rfl) ?_
        refine vp_callSi (va_Run.run (va_runSN (As := [.ref h3, .int v2_4]) (rest := []) ⟨hx, hb, hml, hown, hts⟩ (c_X3_cell l dC dI cI cR h3 8 ρ.2.2.1 (by decide) v2_4) ⟨va_cnB 2 hts gX1_isFirstOfOrbit_X3_cell_n52 rfl rfl rfl (hE.2 (.methodLinkNest RX1 52 yX3_cell "Cascadecourt") (by decide +kernel)) q_2 (by decide +kernel) ⟨Nat.le_of_ble_eq_true rfl, Nat.le_of_ble_eq_true rfl⟩, q_3, trivial⟩ ⟨fun a U g mk q => by obtain ⟨q0, qP, qE⟩ := q; exact ⟨q0, qP, cE.same (s := U) rfl qE⟩, fun U hU hW => ⟨rfl, by rw [hU]; exact hP.sub (ws' := [(h3, .inl (cI, 8, .inl ρ.2.2.1))]) [3] rfl, hE.warm hW⟩⟩ rfl rfl hl.1 rfl (lv_room (Nat.le_of_ble_eq_true rfl)) dX1_isFirstOfOrbit_17 ⟨Nat.zero_le _, Nat.zero_le _⟩)) (fun r_17 h_17 => ?_)
        subst h_17
        refine lv_istore_n (lv' := [(2, .int (S_X3_cell 8 ρ.2.2.1 v2_4)), (3, .int (nI k)), (0, .ref h), (1, .int p0)]) hx hb dX1_isFirstOfOrbit_20 rfl hl (by decide) rfl (fun ls hl => ?_)
        refine lv_iload_n hx hb dX1_isFirstOfOrbit_21 rfl (lv_at hl 0 rfl) ?_
        refine lv_iload_n hx hb dX1_isFirstOfOrbit_22 rfl (lv_at hl 3 rfl) ?_
        refine lv_icmp_ge (tgt := 28) hx hb dX1_isFirstOfOrbit_23 (by decide) (fun c_23 => ?_) (fun c_23 => ?_)
        · refine lv_iinc (v := nI (k + 1)) (lv' := [(3, .int (nI (k + 1))), (2, .int (S_X3_cell 8 ρ.2.2.1 v2_4)), (0, .ref h), (1, .int p0)]) hx hb dX1_isFirstOfOrbit_28 hl (k := 1) rfl ((nI_succ _).symm) (by decide) rfl (fun ls hl => ?_)
          refine lv_goto (tgt := 4) hx hb dX1_isFirstOfOrbit_31 (by decide) ?_
          exact ih4 (k + 1) (S_X3_cell 8 ρ.2.2.1 v2_4) ls (by omega) (by rw [← hG4]; simp only [G_X1_isFirstOfOrbit_4, if_pos c_23]) (lv_sub hl [0, 1, 2, 3] rfl)
        · refine lv_iconst (v := 0) hx hb dX1_isFirstOfOrbit_26 (by decide) ?_
          exact W.zret (v := 0) (ty := .boolean) hx hb hr (p_nar (Or.inl rfl)) (fun t ht hW => ⟨0, rfl, ⟨by rw [← hG4]; simp only [G_X1_isFirstOfOrbit_4, if_neg c_23], (Or.inl rfl)⟩, ht⟩) (fun q h => by cases h) dX1_isFirstOfOrbit_27
  exact loop4 ρ.2.2.2.2.2.1.toNatClampNeg 0 p0 ls (by omega) (by simp only [S_X1_isFirstOfOrbit]) (lv_sub hl [0, 1, 2, 3] rfl)
def G_X1_orbits_4 (ρ : RS) : Nat → Nat → Int32 → Int32
  | 0, k, v1_4 => v1_4
  | mm + 1, k, v1_4 => (if (S_X3_cell 8 ρ.1 (nI k)) ≤ 0 then G_X1_orbits_4 ρ mm (k + 1) v1_4 else (if (S_X1_isFirstOfOrbit ρ (nI k)) = 0 then G_X1_orbits_4 ρ mm (k + 1) v1_4 else G_X1_orbits_4 ρ mm (k + 1) (v1_4 + 1)))
def S_X1_orbits (ρ : RS) : Int32 := G_X1_orbits_4 ρ ρ.2.2.2.2.2.1.toNatClampNeg 0 0
set_option maxHeartbeats 4000000 in
set_option maxRecDepth 100000 in
theorem c_X1_orbits (l : Launch) (dC : Nat → ClassId) (dI : Nat → Nat → Nat) (cI cR : ClassId) (h h1 h2 h3 h4 h5 : Nat) (ρ : RS)   : Met l yX1_orbits wsX1_orbits ({ frames := 2, cells := 0, slots := 0, locals := 44 }) (va_Pc [.ref h] (fun U => va_P (dC, dI) vwCl (wR cI h h1 h2 h3 h4 h5 ρ) U.heap ∧ cE (dC, dI) cI cR U)) (vp_Si (fun r => r = S_X1_orbits ρ)) 0 0 (fun _ => False) := by
  refine Met.ofW (cc := cX1_orbits) (maxL := 3) (ret := (some .int)) (by decide) rfl ?_
  intro p e s m args below meth c s₁ B hml hv
  obtain ⟨rfl, hP, hE⟩ := hv
  have hK := hE.1
  have hx := B.exec
  have hb := B.bytes
  have hr := B.returns
  have hts := atoms_spec (ws := wsX1_orbits) B.pre
  have hown : s.vm.findClass RX1 = some m.cls := findClass_of_methodNamed B.named
  have hlocks := B.notSynchronized
  have hP : va_P (dC, dI) vwCl [(h, .inr (1, [.ref h1, .ref h2, .ref h3, .ref h4, .ref h5, .int ρ.2.2.2.2.2.1, .int ρ.2.2.2.2.2.2])), (h1, .inl (cI, 8, .inl ρ.1)), (h2, .inl (cI, 8, .inl ρ.2.1)), (h3, .inl (cI, 8, .inl ρ.2.2.1)), (h4, .inl (cI, 8, .inl ρ.2.2.2.1)), (h5, .inl (cI, 8, .inl ρ.2.2.2.2.1))] s.heap := hP
  have hl := lv_entry ([.ref h]) (n := 3) (Nat.le_of_ble_eq_true rfl)
  rw [lg_entry_eq]
  generalize (lg_sl ([.ref h]) ++ List.replicate (3 - (lg_sl ([.ref h])).length) Slot.unset).toArray = ls at hl ⊢
  have hl : lv_has ls 3 [(0, .ref h)] := hl
  have q_0 := hts (.fieldLink RX1 27 "Cascadecourt$Row" "length" "I") (by decide +kernel)
  have in_X1 : ∀ w ∈ wsX10, w ∈ wsX1_orbits := by decide +kernel
  have q_1 := hts (.fieldLink RX1 9 "Cascadecourt$Row" "heights" "[I") (by decide +kernel)
  have q_2 := hts (.initialized RX3) (by decide +kernel)
  have q_3 := hts (.static yX3_cell) (by decide +kernel)
  refine lv_iconst (v := 0) hx hb dX1_orbits_0 (by decide) ?_
  refine lv_istore_n (lv' := [(1, .int 0), (0, .ref h)]) hx hb dX1_orbits_1 rfl hl (by decide) rfl (fun ls hl => ?_)
  refine lv_iconst (v := 0) hx hb dX1_orbits_2 (by decide) ?_
  refine lv_istore_n (lv' := [(2, .int 0), (1, .int 0), (0, .ref h)]) hx hb dX1_orbits_3 rfl hl (by decide) rfl (fun ls hl => ?_)
  have hn4 := p_clt ρ.2.2.2.2.2.1
  have loop4 : ∀ (mm k : Nat) (v1_4 : Int32) (ls : Array Slot), k + mm = ρ.2.2.2.2.2.1.toNatClampNeg → G_X1_orbits_4 ρ mm k v1_4 = S_X1_orbits ρ → lv_has ls 3 [(2, .int (nI k)), (1, .int v1_4), (0, .ref h)] → W p l e (headSpec wsX1_orbits ({ frames := 2, cells := 0, slots := 0, locals := 44 })).room s m (([.ref h] : List Value).toArray) below meth c s.heap [] 0 0 (MQ below (vp_Si (fun r => r = S_X1_orbits ρ)) (([.ref h] : List Value).toArray) s 0 0 (fun _ => False)) (F0 m 4 ls []) := by
    intro mm
    induction mm with
    | zero =>
      intro k v1_4 ls hk4 hG4 hl
      refine lv_iload_n hx hb dX1_orbits_4 rfl (lv_at hl 0 rfl) ?_
      refine lv_aload_n hx hb dX1_orbits_5 rfl (lv_at hl 2 rfl) ?_
      refine va_get (D := (dC, dI)) (ci := 1) (v := .int ρ.2.2.2.2.2.1) (C := RX1) (T := TX1) (N := 7) hx hb hts in_X1 hown hK hP 0 rfl rfl 5 (by decide) q_0 (fun _ h9 => h9) rfl dX1_orbits_6 ?_
      refine lv_icmp_ge (tgt := 40) hx hb dX1_orbits_9 (by decide) (fun c_9 => ?_) (fun c_9 => ?_)
      · refine lv_iload_n hx hb dX1_orbits_40 rfl (lv_at hl 1 rfl) ?_
        exact W.iret (v := v1_4) hx hb hr (fun t ht hW => ⟨v1_4, rfl, by rw [← hG4]; simp only [G_X1_orbits_4], ht⟩) (fun q h => by cases h) dX1_orbits_41
      · exact absurd ((p_le (by omega)).mpr (by omega)) c_9
    | succ mm ih4 =>
      intro k v1_4 ls hk4 hG4 hl
      refine lv_iload_n hx hb dX1_orbits_4 rfl (lv_at hl 0 rfl) ?_
      refine lv_aload_n hx hb dX1_orbits_5 rfl (lv_at hl 2 rfl) ?_
      refine va_get (D := (dC, dI)) (ci := 1) (v := .int ρ.2.2.2.2.2.1) (C := RX1) (T := TX1) (N := 7) hx hb hts in_X1 hown hK hP 0 rfl rfl 5 (by decide) q_0 (fun _ h9 => h9) rfl dX1_orbits_6 ?_
      refine lv_icmp_ge (tgt := 40) hx hb dX1_orbits_9 (by decide) (fun c_9 => ?_) (fun c_9 => ?_)
      · exact absurd ((p_le (by omega)).mp c_9) (by omega)
      · refine lv_aload_n hx hb dX1_orbits_12 rfl (lv_at hl 2 rfl) ?_
        refine va_get (D := (dC, dI)) (ci := 1) (v := .ref h1) (C := RX1) (T := TX1) (N := 7) hx hb hts in_X1 hown hK hP 0 rfl rfl 0 (by decide) q_1 (fun _ h9 => h9) rfl dX1_orbits_13 ?_
        refine lv_iload_n hx hb dX1_orbits_16 rfl (lv_at hl 0 rfl) ?_
        refine vp_callSi (va_Run.run (va_runSN (As := [.ref h1, .int (nI k)]) (rest := []) ⟨hx, hb, hml, hown, hts⟩ (c_X3_cell l dC dI cI cR h1 8 ρ.1 (by decide) (nI k)) ⟨va_cnB 2 hts gX1_orbits_X3_cell_n52 rfl rfl rfl (hE.2 (.methodLinkNest RX1 52 yX3_cell "Cascadecourt") (by decide +kernel)) q_2 (by decide +kernel) ⟨Nat.le_of_ble_eq_true rfl, Nat.le_of_ble_eq_true rfl⟩, q_3, trivial⟩ ⟨fun a U g mk q => by obtain ⟨q0, qP, qE⟩ := q; exact ⟨q0, qP, cE.same (s := U) rfl qE⟩, fun U hU hW => ⟨rfl, by rw [hU]; exact hP.sub (ws' := [(h1, .inl (cI, 8, .inl ρ.1))]) [1] rfl, hE.warm hW⟩⟩ rfl rfl hl.1 rfl (lv_room (Nat.le_of_ble_eq_true rfl)) dX1_orbits_17 ⟨Nat.zero_le _, Nat.zero_le _⟩)) (fun r_17 h_17 => ?_)
        subst h_17
        refine lv_if_le (tgt := 34) hx hb dX1_orbits_20 (by decide) (fun c_20 => ?_) (fun c_20 => ?_)
        · refine lv_iinc (v := nI (k + 1)) (lv' := [(2, .int (nI (k + 1))), (1, .int v1_4), (0, .ref h)]) hx hb dX1_orbits_34 hl (k := 0) rfl ((nI_succ _).symm) (by decide) rfl (fun ls hl => ?_)
          refine lv_goto (tgt := 4) hx hb dX1_orbits_37 (by decide) ?_
          exact ih4 (k + 1) v1_4 ls (by omega) (by rw [← hG4]; simp only [G_X1_orbits_4, if_pos c_20]) (lv_sub hl [0, 1, 2] rfl)
        · refine lv_aload_n hx hb dX1_orbits_23 rfl (lv_at hl 2 rfl) ?_
          refine lv_iload_n hx hb dX1_orbits_24 rfl (lv_at hl 0 rfl) ?_
          refine vp_callSi (va_Run.run (va_runV (As := [.int (nI k)]) (rest := []) ⟨hx, hb, hml, hown, hts⟩ (c_X1_isFirstOfOrbit l dC dI cI cR h h1 h2 h3 h4 h5 ρ (nI k)) (cwV 1 hts gX1_orbits_X1_isFirstOfOrbit rfl rfl rfl (by decide +kernel) ⟨Nat.le_of_ble_eq_true rfl, Nat.le_of_ble_eq_true rfl⟩) ⟨fun a U g mk q => by obtain ⟨q0, qP, qE⟩ := q; exact ⟨q0, qP, cE.same (s := U) rfl qE⟩, va_recv hK hP (ci := 1) (q0 := 0) rfl rfl, fun U hU hW => ⟨rfl, by rw [hU]; exact hP.sub (ws' := (wR cI h h1 h2 h3 h4 h5 ρ)) [0, 1, 2, 3, 4, 5] rfl, hE.warm hW⟩⟩ rfl rfl hl.1 rfl (lv_room (Nat.le_of_ble_eq_true rfl)) dX1_orbits_25 ⟨Nat.zero_le _, Nat.zero_le _⟩)) (fun r_25 h_25 => ?_)
          obtain ⟨rfl, hz_25⟩ := h_25
          refine lv_if_eq (tgt := 34) hx hb dX1_orbits_28 (by decide) (fun c_28 => ?_) (fun c_28 => ?_)
          · refine lv_iinc (v := nI (k + 1)) (lv' := [(2, .int (nI (k + 1))), (1, .int v1_4), (0, .ref h)]) hx hb dX1_orbits_34 hl (k := 0) rfl ((nI_succ _).symm) (by decide) rfl (fun ls hl => ?_)
            refine lv_goto (tgt := 4) hx hb dX1_orbits_37 (by decide) ?_
            exact ih4 (k + 1) v1_4 ls (by omega) (by rw [← hG4]; simp only [G_X1_orbits_4, if_neg c_20, if_pos c_28]) (lv_sub hl [0, 1, 2] rfl)
          · refine lv_iinc (v := v1_4 + 1) (lv' := [(1, .int (v1_4 + 1)), (2, .int (nI k)), (0, .ref h)]) hx hb dX1_orbits_31 hl (k := 1) rfl (rfl) (by decide) rfl (fun ls hl => ?_)
            refine lv_iinc (v := nI (k + 1)) (lv' := [(2, .int (nI (k + 1))), (1, .int (v1_4 + 1)), (0, .ref h)]) hx hb dX1_orbits_34 hl (k := 1) rfl ((nI_succ _).symm) (by decide) rfl (fun ls hl => ?_)
            refine lv_goto (tgt := 4) hx hb dX1_orbits_37 (by decide) ?_
            exact ih4 (k + 1) (v1_4 + 1) ls (by omega) (by rw [← hG4]; simp only [G_X1_orbits_4, if_neg c_20, if_neg c_28]) (lv_sub hl [0, 1, 2] rfl)
  exact loop4 ρ.2.2.2.2.2.1.toNatClampNeg 0 0 ls (by omega) (by simp only [S_X1_orbits]) (lv_sub hl [0, 1, 2] rfl)
