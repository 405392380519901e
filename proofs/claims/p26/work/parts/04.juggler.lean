/-! LAID BY MY PROGRAM wip/gen/p26.py: contracts, method by method -/
def S_X0_props (σ : JS) : Int32 := σ.2.2.2.1
set_option maxHeartbeats 4000000 in
set_option maxRecDepth 100000 in
theorem c_X0_props (l : Launch) (dC : Nat → ClassId) (dI : Nat → Nat → Nat) (cI cR : ClassId) (j a1 a2 a3 : Nat) (σ : JS)   : Met l yX0_props wsX0_props ({ frames := 0, cells := 0, slots := 0, locals := 0 }) (va_Pc [.ref j] (fun U => va_P (dC, dI) vwCl (wJ cI j a1 a2 a3 σ) U.heap ∧ cE (dC, dI) cI cR U)) (vp_Si (fun r => r = S_X0_props σ)) 0 0 (fun _ => False) := by
  refine Met.ofW (cc := cX0_props) (maxL := 1) (ret := (some .int)) (by decide) rfl ?_
  intro p e s m args below meth c s₁ B hml hv
  obtain ⟨rfl, hP, hE⟩ := hv
  have hK := hE.1
  have hx := B.exec
  have hb := B.bytes
  have hr := B.returns
  have hts := atoms_spec (ws := wsX0_props) B.pre
  have hown : s.vm.findClass RX0 = some m.cls := findClass_of_methodNamed B.named
  have hlocks := B.notSynchronized
  have hP : va_P (dC, dI) vwCl [(j, .inr (0, [.ref a1, .ref a2, .ref a3, .int σ.2.2.2.1, .int σ.2.2.2.2.1, .int σ.2.2.2.2.2.1, .int σ.2.2.2.2.2.2.1, .double σ.2.2.2.2.2.2.2])), (a1, .inl (cI, 6, .inl σ.1)), (a2, .inl (cI, 6, .inl σ.2.1)), (a3, .inl (cI, 6, .inl σ.2.2.1))] s.heap := hP
  have hl := lv_entry ([.ref j]) (n := 1) (Nat.le_of_ble_eq_true rfl)
  rw [lg_entry_eq]
  generalize (lg_sl ([.ref j]) ++ List.replicate (1 - (lg_sl ([.ref j])).length) Slot.unset).toArray = ls at hl ⊢
  have hl : lv_has ls 1 [(0, .ref j)] := hl
  have q_0 := hts (.fieldLink RX0 21 "Cascadecourt$Juggler" "props" "I") (by decide +kernel)
  have in_X0 : ∀ w ∈ wsX00, w ∈ wsX0_props := by decide +kernel
  refine lv_aload_n hx hb dX0_props_0 rfl (lv_at hl 0 rfl) ?_
  refine va_get (D := (dC, dI)) (ci := 0) (v := .int σ.2.2.2.1) (C := RX0) (T := TX0) (N := 8) hx hb hts in_X0 hown hK hP 0 rfl rfl 3 (by decide) q_0 (fun _ h9 => h9) rfl dX0_props_1 ?_
  exact W.iret (v := σ.2.2.2.1) hx hb hr (fun t ht hW => ⟨σ.2.2.2.1, rfl, by simp only [S_X0_props], ht⟩) (fun q h => by cases h) dX0_props_4
def S_X0_beat (σ : JS) : Int32 := σ.2.2.2.2.1
set_option maxHeartbeats 4000000 in
set_option maxRecDepth 100000 in
theorem c_X0_beat (l : Launch) (dC : Nat → ClassId) (dI : Nat → Nat → Nat) (cI cR : ClassId) (j a1 a2 a3 : Nat) (σ : JS)   : Met l yX0_beat wsX0_beat ({ frames := 0, cells := 0, slots := 0, locals := 0 }) (va_Pc [.ref j] (fun U => va_P (dC, dI) vwCl (wJ cI j a1 a2 a3 σ) U.heap ∧ cE (dC, dI) cI cR U)) (vp_Si (fun r => r = S_X0_beat σ)) 0 0 (fun _ => False) := by
  refine Met.ofW (cc := cX0_beat) (maxL := 1) (ret := (some .int)) (by decide) rfl ?_
  intro p e s m args below meth c s₁ B hml hv
  obtain ⟨rfl, hP, hE⟩ := hv
  have hK := hE.1
  have hx := B.exec
  have hb := B.bytes
  have hr := B.returns
  have hts := atoms_spec (ws := wsX0_beat) B.pre
  have hown : s.vm.findClass RX0 = some m.cls := findClass_of_methodNamed B.named
  have hlocks := B.notSynchronized
  have hP : va_P (dC, dI) vwCl [(j, .inr (0, [.ref a1, .ref a2, .ref a3, .int σ.2.2.2.1, .int σ.2.2.2.2.1, .int σ.2.2.2.2.2.1, .int σ.2.2.2.2.2.2.1, .double σ.2.2.2.2.2.2.2])), (a1, .inl (cI, 6, .inl σ.1)), (a2, .inl (cI, 6, .inl σ.2.1)), (a3, .inl (cI, 6, .inl σ.2.2.1))] s.heap := hP
  have hl := lv_entry ([.ref j]) (n := 1) (Nat.le_of_ble_eq_true rfl)
  rw [lg_entry_eq]
  generalize (lg_sl ([.ref j]) ++ List.replicate (1 - (lg_sl ([.ref j])).length) Slot.unset).toArray = ls at hl ⊢
  have hl : lv_has ls 1 [(0, .ref j)] := hl
  have q_0 := hts (.fieldLink RX0 25 "Cascadecourt$Juggler" "beat" "I") (by decide +kernel)
  have in_X0 : ∀ w ∈ wsX00, w ∈ wsX0_beat := by decide +kernel
  refine lv_aload_n hx hb dX0_beat_0 rfl (lv_at hl 0 rfl) ?_
  refine va_get (D := (dC, dI)) (ci := 0) (v := .int σ.2.2.2.2.1) (C := RX0) (T := TX0) (N := 8) hx hb hts in_X0 hown hK hP 0 rfl rfl 4 (by decide) q_0 (fun _ h9 => h9) rfl dX0_beat_1 ?_
  exact W.iret (v := σ.2.2.2.2.1) hx hb hr (fun t ht hW => ⟨σ.2.2.2.2.1, rfl, by simp only [S_X0_beat], ht⟩) (fun q h => by cases h) dX0_beat_4
def S_X0_slipsEver (σ : JS) : Int32 := σ.2.2.2.2.2.1
set_option maxHeartbeats 4000000 in
set_option maxRecDepth 100000 in
theorem c_X0_slipsEver (l : Launch) (dC : Nat → ClassId) (dI : Nat → Nat → Nat) (cI cR : ClassId) (j a1 a2 a3 : Nat) (σ : JS)   : Met l yX0_slipsEver wsX0_slipsEver ({ frames := 0, cells := 0, slots := 0, locals := 0 }) (va_Pc [.ref j] (fun U => va_P (dC, dI) vwCl (wJ cI j a1 a2 a3 σ) U.heap ∧ cE (dC, dI) cI cR U)) (vp_Si (fun r => r = S_X0_slipsEver σ)) 0 0 (fun _ => False) := by
  refine Met.ofW (cc := cX0_slipsEver) (maxL := 1) (ret := (some .int)) (by decide) rfl ?_
  intro p e s m args below meth c s₁ B hml hv
  obtain ⟨rfl, hP, hE⟩ := hv
  have hK := hE.1
  have hx := B.exec
  have hb := B.bytes
  have hr := B.returns
  have hts := atoms_spec (ws := wsX0_slipsEver) B.pre
  have hown : s.vm.findClass RX0 = some m.cls := findClass_of_methodNamed B.named
  have hlocks := B.notSynchronized
  have hP : va_P (dC, dI) vwCl [(j, .inr (0, [.ref a1, .ref a2, .ref a3, .int σ.2.2.2.1, .int σ.2.2.2.2.1, .int σ.2.2.2.2.2.1, .int σ.2.2.2.2.2.2.1, .double σ.2.2.2.2.2.2.2])), (a1, .inl (cI, 6, .inl σ.1)), (a2, .inl (cI, 6, .inl σ.2.1)), (a3, .inl (cI, 6, .inl σ.2.2.1))] s.heap := hP
  have hl := lv_entry ([.ref j]) (n := 1) (Nat.le_of_ble_eq_true rfl)
  rw [lg_entry_eq]
  generalize (lg_sl ([.ref j]) ++ List.replicate (1 - (lg_sl ([.ref j])).length) Slot.unset).toArray = ls at hl ⊢
  have hl : lv_has ls 1 [(0, .ref j)] := hl
  have q_0 := hts (.fieldLink RX0 36 "Cascadecourt$Juggler" "slipsEver" "I") (by decide +kernel)
  have in_X0 : ∀ w ∈ wsX00, w ∈ wsX0_slipsEver := by decide +kernel
  refine lv_aload_n hx hb dX0_slipsEver_0 rfl (lv_at hl 0 rfl) ?_
  refine va_get (D := (dC, dI)) (ci := 0) (v := .int σ.2.2.2.2.2.1) (C := RX0) (T := TX0) (N := 8) hx hb hts in_X0 hown hK hP 0 rfl rfl 5 (by decide) q_0 (fun _ h9 => h9) rfl dX0_slipsEver_1 ?_
  exact W.iret (v := σ.2.2.2.2.2.1) hx hb hr (fun t ht hW => ⟨σ.2.2.2.2.2.1, rfl, by simp only [S_X0_slipsEver], ht⟩) (fun q h => by cases h) dX0_slipsEver_4
def S_X0_beatsEver (σ : JS) : Int32 := σ.2.2.2.2.2.2.1
set_option maxHeartbeats 4000000 in
set_option maxRecDepth 100000 in
theorem c_X0_beatsEver (l : Launch) (dC : Nat → ClassId) (dI : Nat → Nat → Nat) (cI cR : ClassId) (j a1 a2 a3 : Nat) (σ : JS)   : Met l yX0_beatsEver wsX0_beatsEver ({ frames := 0, cells := 0, slots := 0, locals := 0 }) (va_Pc [.ref j] (fun U => va_P (dC, dI) vwCl (wJ cI j a1 a2 a3 σ) U.heap ∧ cE (dC, dI) cI cR U)) (vp_Si (fun r => r = S_X0_beatsEver σ)) 0 0 (fun _ => False) := by
  refine Met.ofW (cc := cX0_beatsEver) (maxL := 1) (ret := (some .int)) (by decide) rfl ?_
  intro p e s m args below meth c s₁ B hml hv
  obtain ⟨rfl, hP, hE⟩ := hv
  have hK := hE.1
  have hx := B.exec
  have hb := B.bytes
  have hr := B.returns
  have hts := atoms_spec (ws := wsX0_beatsEver) B.pre
  have hown : s.vm.findClass RX0 = some m.cls := findClass_of_methodNamed B.named
  have hlocks := B.notSynchronized
  have hP : va_P (dC, dI) vwCl [(j, .inr (0, [.ref a1, .ref a2, .ref a3, .int σ.2.2.2.1, .int σ.2.2.2.2.1, .int σ.2.2.2.2.2.1, .int σ.2.2.2.2.2.2.1, .double σ.2.2.2.2.2.2.2])), (a1, .inl (cI, 6, .inl σ.1)), (a2, .inl (cI, 6, .inl σ.2.1)), (a3, .inl (cI, 6, .inl σ.2.2.1))] s.heap := hP
  have hl := lv_entry ([.ref j]) (n := 1) (Nat.le_of_ble_eq_true rfl)
  rw [lg_entry_eq]
  generalize (lg_sl ([.ref j]) ++ List.replicate (1 - (lg_sl ([.ref j])).length) Slot.unset).toArray = ls at hl ⊢
  have hl : lv_has ls 1 [(0, .ref j)] := hl
  have q_0 := hts (.fieldLink RX0 39 "Cascadecourt$Juggler" "beatsEver" "I") (by decide +kernel)
  have in_X0 : ∀ w ∈ wsX00, w ∈ wsX0_beatsEver := by decide +kernel
  refine lv_aload_n hx hb dX0_beatsEver_0 rfl (lv_at hl 0 rfl) ?_
  refine va_get (D := (dC, dI)) (ci := 0) (v := .int σ.2.2.2.2.2.2.1) (C := RX0) (T := TX0) (N := 8) hx hb hts in_X0 hown hK hP 0 rfl rfl 6 (by decide) q_0 (fun _ h9 => h9) rfl dX0_beatsEver_1 ?_
  exact W.iret (v := σ.2.2.2.2.2.2.1) hx hb hr (fun t ht hW => ⟨σ.2.2.2.2.2.2.1, rfl, by simp only [S_X0_beatsEver], ht⟩) (fun q h => by cases h) dX0_beatsEver_4
def S_X0_tiredness (σ : JS) : UInt64 := σ.2.2.2.2.2.2.2
set_option maxHeartbeats 4000000 in
set_option maxRecDepth 100000 in
theorem c_X0_tiredness (l : Launch) (dC : Nat → ClassId) (dI : Nat → Nat → Nat) (cI cR : ClassId) (j a1 a2 a3 : Nat) (σ : JS)   : Met l yX0_tiredness wsX0_tiredness ({ frames := 0, cells := 0, slots := 0, locals := 0 }) (va_Pc [.ref j] (fun U => va_P (dC, dI) vwCl (wJ cI j a1 a2 a3 σ) U.heap ∧ cE (dC, dI) cI cR U)) (vp_Sd (fun r => r = S_X0_tiredness σ)) 0 0 (fun _ => False) := by
  refine Met.ofW (cc := cX0_tiredness) (maxL := 1) (ret := (some .double)) (by decide) rfl ?_
  intro p e s m args below meth c s₁ B hml hv
  obtain ⟨rfl, hP, hE⟩ := hv
  have hK := hE.1
  have hx := B.exec
  have hb := B.bytes
  have hr := B.returns
  have hts := atoms_spec (ws := wsX0_tiredness) B.pre
  have hown : s.vm.findClass RX0 = some m.cls := findClass_of_methodNamed B.named
  have hlocks := B.notSynchronized
  have hP : va_P (dC, dI) vwCl [(j, .inr (0, [.ref a1, .ref a2, .ref a3, .int σ.2.2.2.1, .int σ.2.2.2.2.1, .int σ.2.2.2.2.2.1, .int σ.2.2.2.2.2.2.1, .double σ.2.2.2.2.2.2.2])), (a1, .inl (cI, 6, .inl σ.1)), (a2, .inl (cI, 6, .inl σ.2.1)), (a3, .inl (cI, 6, .inl σ.2.2.1))] s.heap := hP
  have hl := lv_entry ([.ref j]) (n := 1) (Nat.le_of_ble_eq_true rfl)
  rw [lg_entry_eq]
  generalize (lg_sl ([.ref j]) ++ List.replicate (1 - (lg_sl ([.ref j])).length) Slot.unset).toArray = ls at hl ⊢
  have hl : lv_has ls 1 [(0, .ref j)] := hl
  have q_0 := hts (.fieldLink RX0 28 "Cascadecourt$Juggler" "tiredness" "D") (by decide +kernel)
  have in_X0 : ∀ w ∈ wsX00, w ∈ wsX0_tiredness := by decide +kernel
  refine lv_aload_n hx hb dX0_tiredness_0 rfl (lv_at hl 0 rfl) ?_
  refine va_get (D := (dC, dI)) (ci := 0) (v := .double σ.2.2.2.2.2.2.2) (C := RX0) (T := TX0) (N := 8) hx hb hts in_X0 hown hK hP 0 rfl rfl 7 (by decide) q_0 (fun _ h9 => h9) rfl dX0_tiredness_1 ?_
  exact W.dret (v := σ.2.2.2.2.2.2.2) hx hb hr (fun t ht hW => ⟨σ.2.2.2.2.2.2.2, rfl, by simp only [S_X0_tiredness], ht⟩) (fun q h => by cases h) dX0_tiredness_4
def S_X0_isDropped (σ : JS) (p0 : Int32) : Int32 := (if (S_X3_cell 6 σ.1 p0) = (-1) then 1 else 0)
set_option maxHeartbeats 4000000 in
set_option maxRecDepth 100000 in
theorem c_X0_isDropped (l : Launch) (dC : Nat → ClassId) (dI : Nat → Nat → Nat) (cI cR : ClassId) (j a1 a2 a3 : Nat) (σ : JS) (p0 : Int32)  : Met l yX0_isDropped wsX0_isDropped ({ frames := 1, cells := 0, slots := 0, locals := 21 }) (va_Pc [.ref j, .int p0] (fun U => va_P (dC, dI) vwCl (wJ cI j a1 a2 a3 σ) U.heap ∧ cE (dC, dI) cI cR U)) (vp_Si (fun r => r = S_X0_isDropped σ p0 ∧ (r = 0 ∨ r = 1))) 0 0 (fun _ => False) := by
  refine Met.ofW (cc := cX0_isDropped) (maxL := 2) (ret := (some .boolean)) (by decide) rfl ?_
  intro p e s m args below meth c s₁ B hml hv
  obtain ⟨rfl, hP, hE⟩ := hv
  have hK := hE.1
  have hx := B.exec
  have hb := B.bytes
  have hr := B.returns
  have hts := atoms_spec (ws := wsX0_isDropped) B.pre
  have hown : s.vm.findClass RX0 = some m.cls := findClass_of_methodNamed B.named
  have hlocks := B.notSynchronized
  have hP : va_P (dC, dI) vwCl [(j, .inr (0, [.ref a1, .ref a2, .ref a3, .int σ.2.2.2.1, .int σ.2.2.2.2.1, .int σ.2.2.2.2.2.1, .int σ.2.2.2.2.2.2.1, .double σ.2.2.2.2.2.2.2])), (a1, .inl (cI, 6, .inl σ.1)), (a2, .inl (cI, 6, .inl σ.2.1)), (a3, .inl (cI, 6, .inl σ.2.2.1))] s.heap := hP
  have hl := lv_entry ([.ref j, .int p0]) (n := 2) (Nat.le_of_ble_eq_true rfl)
  rw [lg_entry_eq]
  generalize (lg_sl ([.ref j, .int p0]) ++ List.replicate (2 - (lg_sl ([.ref j, .int p0])).length) Slot.unset).toArray = ls at hl ⊢
  have hl : lv_has ls 2 [(0, .ref j), (1, .int p0)] := hl
  have q_0 := hts (.fieldLink RX0 9 "Cascadecourt$Juggler" "landsAt" "[I") (by decide +kernel)
  have in_X0 : ∀ w ∈ wsX00, w ∈ wsX0_isDropped := by decide +kernel
  have q_1 := hts (.initialized RX3) (by decide +kernel)
  have q_2 := hts (.static yX3_cell) (by decide +kernel)
  refine lv_aload_n hx hb dX0_isDropped_0 rfl (lv_at hl 0 rfl) ?_
  refine va_get (D := (dC, dI)) (ci := 0) (v := .ref a1) (C := RX0) (T := TX0) (N := 8) hx hb hts in_X0 hown hK hP 0 rfl rfl 0 (by decide) q_0 (fun _ h9 => h9) rfl dX0_isDropped_1 ?_
  refine lv_iload_n hx hb dX0_isDropped_4 rfl (lv_at hl 1 rfl) ?_
  refine vp_callSi (va_Run.run (va_runSN (As := [.ref a1, .int p0]) (rest := []) ⟨hx, hb, hml, hown, hts⟩ (c_X3_cell l dC dI cI cR a1 6 σ.1 (by decide) p0) ⟨va_cnB 2 hts gX0_isDropped_X3_cell_n42 rfl rfl rfl (hE.2 (.methodLinkNest RX0 42 yX3_cell "Cascadecourt") (by decide +kernel)) q_1 (by decide +kernel) ⟨Nat.le_of_ble_eq_true rfl, Nat.le_of_ble_eq_true rfl⟩, q_2, trivial⟩ ⟨fun a U g mk q => by obtain ⟨q0, qP, qE⟩ := q; exact ⟨q0, qP, cE.same (s := U) rfl qE⟩, fun U hU hW => ⟨rfl, by rw [hU]; exact hP.sub (ws' := [(a1, .inl (cI, 6, .inl σ.1))]) [1] rfl, hE.warm hW⟩⟩ rfl rfl hl.1 rfl (lv_room (Nat.le_of_ble_eq_true rfl)) dX0_isDropped_5 ⟨Nat.zero_le _, Nat.zero_le _⟩)) (fun r_5 h_5 => ?_)
  subst h_5
  refine lv_iconst (v := (-1)) hx hb dX0_isDropped_8 (by decide) ?_
  refine lv_icmp_ne (tgt := 16) hx hb dX0_isDropped_9 (by decide) (fun c_9 => ?_) (fun c_9 => ?_)
  · refine lv_iconst (v := 0) hx hb dX0_isDropped_16 (by decide) ?_
    exact W.zret (v := 0) (ty := .boolean) hx hb hr (p_nar (Or.inl rfl)) (fun t ht hW => ⟨0, rfl, ⟨by simp only [S_X0_isDropped, if_neg c_9], (Or.inl rfl)⟩, ht⟩) (fun q h => by cases h) dX0_isDropped_17
  · refine lv_iconst (v := 1) hx hb dX0_isDropped_12 (by decide) ?_
    refine lv_goto (tgt := 17) hx hb dX0_isDropped_13 (by decide) ?_
    exact W.zret (v := 1) (ty := .boolean) hx hb hr (p_nar (Or.inr rfl)) (fun t ht hW => ⟨1, rfl, ⟨by simp only [S_X0_isDropped, if_pos c_9], (Or.inr rfl)⟩, ht⟩) (fun q h => by cases h) dX0_isDropped_17
def S_X0_beatsTillLanding (σ : JS) (p0 : Int32) : Int32 := (if (S_X3_cell 6 σ.1 p0) = (-1) then (-1) else (S_X3_cell 6 σ.1 p0) - σ.2.2.2.2.1)
set_option maxHeartbeats 4000000 in
set_option maxRecDepth 100000 in
theorem c_X0_beatsTillLanding (l : Launch) (dC : Nat → ClassId) (dI : Nat → Nat → Nat) (cI cR : ClassId) (j a1 a2 a3 : Nat) (σ : JS) (p0 : Int32)  : Met l yX0_beatsTillLanding wsX0_beatsTillLanding ({ frames := 1, cells := 0, slots := 0, locals := 21 }) (va_Pc [.ref j, .int p0] (fun U => va_P (dC, dI) vwCl (wJ cI j a1 a2 a3 σ) U.heap ∧ cE (dC, dI) cI cR U)) (vp_Si (fun r => r = S_X0_beatsTillLanding σ p0)) 0 0 (fun _ => False) := by
  refine Met.ofW (cc := cX0_beatsTillLanding) (maxL := 3) (ret := (some .int)) (by decide) rfl ?_
  intro p e s m args below meth c s₁ B hml hv
  obtain ⟨rfl, hP, hE⟩ := hv
  have hK := hE.1
  have hx := B.exec
  have hb := B.bytes
  have hr := B.returns
  have hts := atoms_spec (ws := wsX0_beatsTillLanding) B.pre
  have hown : s.vm.findClass RX0 = some m.cls := findClass_of_methodNamed B.named
  have hlocks := B.notSynchronized
  have hP : va_P (dC, dI) vwCl [(j, .inr (0, [.ref a1, .ref a2, .ref a3, .int σ.2.2.2.1, .int σ.2.2.2.2.1, .int σ.2.2.2.2.2.1, .int σ.2.2.2.2.2.2.1, .double σ.2.2.2.2.2.2.2])), (a1, .inl (cI, 6, .inl σ.1)), (a2, .inl (cI, 6, .inl σ.2.1)), (a3, .inl (cI, 6, .inl σ.2.2.1))] s.heap := hP
  have hl := lv_entry ([.ref j, .int p0]) (n := 3) (Nat.le_of_ble_eq_true rfl)
  rw [lg_entry_eq]
  generalize (lg_sl ([.ref j, .int p0]) ++ List.replicate (3 - (lg_sl ([.ref j, .int p0])).length) Slot.unset).toArray = ls at hl ⊢
  have hl : lv_has ls 3 [(0, .ref j), (1, .int p0)] := hl
  have q_0 := hts (.fieldLink RX0 9 "Cascadecourt$Juggler" "landsAt" "[I") (by decide +kernel)
  have in_X0 : ∀ w ∈ wsX00, w ∈ wsX0_beatsTillLanding := by decide +kernel
  have q_1 := hts (.initialized RX3) (by decide +kernel)
  have q_2 := hts (.static yX3_cell) (by decide +kernel)
  have q_3 := hts (.fieldLink RX0 25 "Cascadecourt$Juggler" "beat" "I") (by decide +kernel)
  refine lv_aload_n hx hb dX0_beatsTillLanding_0 rfl (lv_at hl 0 rfl) ?_
  refine va_get (D := (dC, dI)) (ci := 0) (v := .ref a1) (C := RX0) (T := TX0) (N := 8) hx hb hts in_X0 hown hK hP 0 rfl rfl 0 (by decide) q_0 (fun _ h9 => h9) rfl dX0_beatsTillLanding_1 ?_
  refine lv_iload_n hx hb dX0_beatsTillLanding_4 rfl (lv_at hl 1 rfl) ?_
  refine vp_callSi (va_Run.run (va_runSN (As := [.ref a1, .int p0]) (rest := []) ⟨hx, hb, hml, hown, hts⟩ (c_X3_cell l dC dI cI cR a1 6 σ.1 (by decide) p0) ⟨va_cnB 2 hts gX0_beatsTillLanding_X3_cell_n42 rfl rfl rfl (hE.2 (.methodLinkNest RX0 42 yX3_cell "Cascadecourt") (by decide +kernel)) q_1 (by decide +kernel) ⟨Nat.le_of_ble_eq_true rfl, Nat.le_of_ble_eq_true rfl⟩, q_2, trivial⟩ ⟨fun a U g mk q => by obtain ⟨q0, qP, qE⟩ := q; exact ⟨q0, qP, cE.same (s := U) rfl qE⟩, fun U hU hW => ⟨rfl, by rw [hU]; exact hP.sub (ws' := [(a1, .inl (cI, 6, .inl σ.1))]) [1] rfl, hE.warm hW⟩⟩ rfl rfl hl.1 rfl (lv_room (Nat.le_of_ble_eq_true rfl)) dX0_beatsTillLanding_5 ⟨Nat.zero_le _, Nat.zero_le _⟩)) (fun r_5 h_5 => ?_)
  subst h_5
  refine lv_istore_n (lv' := [(2, .int (S_X3_cell 6 σ.1 p0)), (0, .ref j), (1, .int p0)]) hx hb dX0_beatsTillLanding_8 rfl hl (by decide) rfl (fun ls hl => ?_)
  refine lv_iload_n hx hb dX0_beatsTillLanding_9 rfl (lv_at hl 0 rfl) ?_
  refine lv_iconst (v := (-1)) hx hb dX0_beatsTillLanding_10 (by decide) ?_
  refine lv_icmp_ne (tgt := 18) hx hb dX0_beatsTillLanding_11 (by decide) (fun c_11 => ?_) (fun c_11 => ?_)
  · refine lv_iload_n hx hb dX0_beatsTillLanding_18 rfl (lv_at hl 0 rfl) ?_
    refine lv_aload_n hx hb dX0_beatsTillLanding_19 rfl (lv_at hl 1 rfl) ?_
    refine va_get (D := (dC, dI)) (ci := 0) (v := .int σ.2.2.2.2.1) (C := RX0) (T := TX0) (N := 8) hx hb hts in_X0 hown hK hP 0 rfl rfl 4 (by decide) q_3 (fun _ h9 => h9) rfl dX0_beatsTillLanding_20 ?_
    refine lv_isub hx hb dX0_beatsTillLanding_23 ?_
    exact W.iret (v := ((S_X3_cell 6 σ.1 p0) - σ.2.2.2.2.1)) hx hb hr (fun t ht hW => ⟨((S_X3_cell 6 σ.1 p0) - σ.2.2.2.2.1), rfl, by simp only [S_X0_beatsTillLanding, if_neg c_11], ht⟩) (fun q h => by cases h) dX0_beatsTillLanding_24
  · refine lv_iconst (v := (-1)) hx hb dX0_beatsTillLanding_14 (by decide) ?_
    refine lv_goto (tgt := 24) hx hb dX0_beatsTillLanding_15 (by decide) ?_
    exact W.iret (v := (-1)) hx hb hr (fun t ht hW => ⟨(-1), rfl, by simp only [S_X0_beatsTillLanding, if_pos c_11], ht⟩) (fun q h => by cases h) dX0_beatsTillLanding_24
def S_X0_handOf (σ : JS) (p0 : Int32) : Int32 := (if (S_X0_isDropped σ p0) = 0 then (S_X3_cell 6 σ.1 p0) &&& 1 else (-1))
set_option maxHeartbeats 4000000 in
set_option maxRecDepth 100000 in
theorem c_X0_handOf (l : Launch) (dC : Nat → ClassId) (dI : Nat → Nat → Nat) (cI cR : ClassId) (j a1 a2 a3 : Nat) (σ : JS) (p0 : Int32)  : Met l yX0_handOf wsX0_handOf ({ frames := 2, cells := 0, slots := 0, locals := 42 }) (va_Pc [.ref j, .int p0] (fun U => va_P (dC, dI) vwCl (wJ cI j a1 a2 a3 σ) U.heap ∧ cE (dC, dI) cI cR U)) (vp_Si (fun r => r = S_X0_handOf σ p0)) 0 0 (fun _ => False) := by
  refine Met.ofW (cc := cX0_handOf) (maxL := 2) (ret := (some .int)) (by decide) rfl ?_
  intro p e s m args below meth c s₁ B hml hv
  obtain ⟨rfl, hP, hE⟩ := hv
  have hK := hE.1
  have hx := B.exec
  have hb := B.bytes
  have hr := B.returns
  have hts := atoms_spec (ws := wsX0_handOf) B.pre
  have hown : s.vm.findClass RX0 = some m.cls := findClass_of_methodNamed B.named
  have hlocks := B.notSynchronized
  have hP : va_P (dC, dI) vwCl [(j, .inr (0, [.ref a1, .ref a2, .ref a3, .int σ.2.2.2.1, .int σ.2.2.2.2.1, .int σ.2.2.2.2.2.1, .int σ.2.2.2.2.2.2.1, .double σ.2.2.2.2.2.2.2])), (a1, .inl (cI, 6, .inl σ.1)), (a2, .inl (cI, 6, .inl σ.2.1)), (a3, .inl (cI, 6, .inl σ.2.2.1))] s.heap := hP
  have hl := lv_entry ([.ref j, .int p0]) (n := 2) (Nat.le_of_ble_eq_true rfl)
  rw [lg_entry_eq]
  generalize (lg_sl ([.ref j, .int p0]) ++ List.replicate (2 - (lg_sl ([.ref j, .int p0])).length) Slot.unset).toArray = ls at hl ⊢
  have hl : lv_has ls 2 [(0, .ref j), (1, .int p0)] := hl
  have q_0 := hts (.fieldLink RX0 9 "Cascadecourt$Juggler" "landsAt" "[I") (by decide +kernel)
  have in_X0 : ∀ w ∈ wsX00, w ∈ wsX0_handOf := by decide +kernel
  have q_1 := hts (.initialized RX3) (by decide +kernel)
  have q_2 := hts (.static yX3_cell) (by decide +kernel)
  refine lv_aload_n hx hb dX0_handOf_0 rfl (lv_at hl 0 rfl) ?_
  refine lv_iload_n hx hb dX0_handOf_1 rfl (lv_at hl 1 rfl) ?_
  refine vp_callSi (va_Run.run (va_runV (As := [.int p0]) (rest := []) ⟨hx, hb, hml, hown, hts⟩ (c_X0_isDropped l dC dI cI cR j a1 a2 a3 σ p0) (cwV 1 hts gX0_handOf_X0_isDropped rfl rfl rfl (by decide +kernel) ⟨Nat.le_of_ble_eq_true rfl, Nat.le_of_ble_eq_true rfl⟩) ⟨fun a U g mk q => by obtain ⟨q0, qP, qE⟩ := q; exact ⟨q0, qP, cE.same (s := U) rfl qE⟩, va_recv hK hP (ci := 0) (q0 := 0) rfl rfl, fun U hU hW => ⟨rfl, by rw [hU]; exact hP.sub (ws' := (wJ cI j a1 a2 a3 σ)) [0, 1, 2, 3] rfl, hE.warm hW⟩⟩ rfl rfl hl.1 rfl (lv_room (Nat.le_of_ble_eq_true rfl)) dX0_handOf_2 ⟨Nat.zero_le _, Nat.zero_le _⟩)) (fun r_2 h_2 => ?_)
  obtain ⟨rfl, hz_2⟩ := h_2
  refine lv_if_eq (tgt := 12) hx hb dX0_handOf_5 (by decide) (fun c_5 => ?_) (fun c_5 => ?_)
  · refine lv_aload_n hx hb dX0_handOf_12 rfl (lv_at hl 0 rfl) ?_
    refine va_get (D := (dC, dI)) (ci := 0) (v := .ref a1) (C := RX0) (T := TX0) (N := 8) hx hb hts in_X0 hown hK hP 0 rfl rfl 0 (by decide) q_0 (fun _ h9 => h9) rfl dX0_handOf_13 ?_
    refine lv_iload_n hx hb dX0_handOf_16 rfl (lv_at hl 1 rfl) ?_
    refine vp_callSi (va_Run.run (va_runSN (As := [.ref a1, .int p0]) (rest := []) ⟨hx, hb, hml, hown, hts⟩ (c_X3_cell l dC dI cI cR a1 6 σ.1 (by decide) p0) ⟨va_cnB 2 hts gX0_handOf_X3_cell_n42 rfl rfl rfl (hE.2 (.methodLinkNest RX0 42 yX3_cell "Cascadecourt") (by decide +kernel)) q_1 (by decide +kernel) ⟨Nat.le_of_ble_eq_true rfl, Nat.le_of_ble_eq_true rfl⟩, q_2, trivial⟩ ⟨fun a U g mk q => by obtain ⟨q0, qP, qE⟩ := q; exact ⟨q0, qP, cE.same (s := U) rfl qE⟩, fun U hU hW => ⟨rfl, by rw [hU]; exact hP.sub (ws' := [(a1, .inl (cI, 6, .inl σ.1))]) [1] rfl, hE.warm hW⟩⟩ rfl rfl hl.1 rfl (lv_room (Nat.le_of_ble_eq_true rfl)) dX0_handOf_17 ⟨Nat.zero_le _, Nat.zero_le _⟩)) (fun r_17 h_17 => ?_)
    subst h_17
    refine lv_iconst (v := 1) hx hb dX0_handOf_20 (by decide) ?_
    refine lv_iand hx hb dX0_handOf_21 ?_
    exact W.iret (v := ((S_X3_cell 6 σ.1 p0) &&& 1)) hx hb hr (fun t ht hW => ⟨((S_X3_cell 6 σ.1 p0) &&& 1), rfl, by simp only [S_X0_handOf, if_pos c_5], ht⟩) (fun q h => by cases h) dX0_handOf_22
  · refine lv_iconst (v := (-1)) hx hb dX0_handOf_8 (by decide) ?_
    refine lv_goto (tgt := 22) hx hb dX0_handOf_9 (by decide) ?_
    exact W.iret (v := (-1)) hx hb hr (fun t ht hW => ⟨(-1), rfl, by simp only [S_X0_handOf, if_neg c_5], ht⟩) (fun q h => by cases h) dX0_handOf_22
def G_X0_state_4 (σ : JS) : Nat → Nat → Int32 → Int32
  | 0, k, v1_4 => v1_4
  | mm + 1, k, v1_4 => (if (S_X0_beatsTillLanding σ (nI k)) = (-1) then G_X0_state_4 σ mm (k + 1) v1_4 else G_X0_state_4 σ mm (k + 1) (v1_4 ||| (1 <<< ((S_X0_beatsTillLanding σ (nI k)) &&& 31))))
def S_X0_state (σ : JS) : Int32 := G_X0_state_4 σ σ.2.2.2.1.toNatClampNeg 0 0
set_option maxHeartbeats 4000000 in
set_option maxRecDepth 100000 in
theorem c_X0_state (l : Launch) (dC : Nat → ClassId) (dI : Nat → Nat → Nat) (cI cR : ClassId) (j a1 a2 a3 : Nat) (σ : JS)   : Met l yX0_state wsX0_state ({ frames := 2, cells := 0, slots := 0, locals := 43 }) (va_Pc [.ref j] (fun U => va_P (dC, dI) vwCl (wJ cI j a1 a2 a3 σ) U.heap ∧ cE (dC, dI) cI cR U)) (vp_Si (fun r => r = S_X0_state σ)) 0 0 (fun _ => False) := by
  refine Met.ofW (cc := cX0_state) (maxL := 4) (ret := (some .int)) (by decide) rfl ?_
  intro p e s m args below meth c s₁ B hml hv
  obtain ⟨rfl, hP, hE⟩ := hv
  have hK := hE.1
  have hx := B.exec
  have hb := B.bytes
  have hr := B.returns
  have hts := atoms_spec (ws := wsX0_state) B.pre
  have hown : s.vm.findClass RX0 = some m.cls := findClass_of_methodNamed B.named
  have hlocks := B.notSynchronized
  have hP : va_P (dC, dI) vwCl [(j, .inr (0, [.ref a1, .ref a2, .ref a3, .int σ.2.2.2.1, .int σ.2.2.2.2.1, .int σ.2.2.2.2.2.1, .int σ.2.2.2.2.2.2.1, .double σ.2.2.2.2.2.2.2])), (a1, .inl (cI, 6, .inl σ.1)), (a2, .inl (cI, 6, .inl σ.2.1)), (a3, .inl (cI, 6, .inl σ.2.2.1))] s.heap := hP
  have hl := lv_entry ([.ref j]) (n := 4) (Nat.le_of_ble_eq_true rfl)
  rw [lg_entry_eq]
  generalize (lg_sl ([.ref j]) ++ List.replicate (4 - (lg_sl ([.ref j])).length) Slot.unset).toArray = ls at hl ⊢
  have hl : lv_has ls 4 [(0, .ref j)] := hl
  have q_0 := hts (.fieldLink RX0 21 "Cascadecourt$Juggler" "props" "I") (by decide +kernel)
  have in_X0 : ∀ w ∈ wsX00, w ∈ wsX0_state := by decide +kernel
  refine lv_iconst (v := 0) hx hb dX0_state_0 (by decide) ?_
  refine lv_istore_n (lv' := [(1, .int 0), (0, .ref j)]) hx hb dX0_state_1 rfl hl (by decide) rfl (fun ls hl => ?_)
  refine lv_iconst (v := 0) hx hb dX0_state_2 (by decide) ?_
  refine lv_istore_n (lv' := [(2, .int 0), (1, .int 0), (0, .ref j)]) hx hb dX0_state_3 rfl hl (by decide) rfl (fun ls hl => ?_)
  have hn4 := p_clt σ.2.2.2.1
  have loop4 : ∀ (mm k : Nat) (v1_4 : Int32) (ls : Array Slot), k + mm = σ.2.2.2.1.toNatClampNeg → G_X0_state_4 σ mm k v1_4 = S_X0_state σ → lv_has ls 4 [(2, .int (nI k)), (1, .int v1_4), (0, .ref j)] → W p l e (headSpec wsX0_state ({ frames := 2, cells := 0, slots := 0, locals := 43 })).room s m (([.ref j] : List Value).toArray) below meth c s.heap [] 0 0 (MQ below (vp_Si (fun r => r = S_X0_state σ)) (([.ref j] : List Value).toArray) s 0 0 (fun _ => False)) (F0 m 4 ls []) := by
    intro mm
    induction mm with
    | zero =>
      intro k v1_4 ls hk4 hG4 hl
      refine lv_iload_n hx hb dX0_state_4 rfl (lv_at hl 0 rfl) ?_
      refine lv_aload_n hx hb dX0_state_5 rfl (lv_at hl 2 rfl) ?_
      refine va_get (D := (dC, dI)) (ci := 0) (v := .int σ.2.2.2.1) (C := RX0) (T := TX0) (N := 8) hx hb hts in_X0 hown hK hP 0 rfl rfl 3 (by decide) q_0 (fun _ h9 => h9) rfl dX0_state_6 ?_
      refine lv_icmp_ge (tgt := 35) hx hb dX0_state_9 (by decide) (fun c_9 => ?_) (fun c_9 => ?_)
      · refine lv_iload_n hx hb dX0_state_35 rfl (lv_at hl 1 rfl) ?_
        exact W.iret (v := v1_4) hx hb hr (fun t ht hW => ⟨v1_4, rfl, by rw [← hG4]; simp only [G_X0_state_4], ht⟩) (fun q h => by cases h) dX0_state_36
      · exact absurd ((p_le (by omega)).mpr (by omega)) c_9
    | succ mm ih4 =>
      intro k v1_4 ls hk4 hG4 hl
      refine lv_iload_n hx hb dX0_state_4 rfl (lv_at hl 0 rfl) ?_
      refine lv_aload_n hx hb dX0_state_5 rfl (lv_at hl 2 rfl) ?_
      refine va_get (D := (dC, dI)) (ci := 0) (v := .int σ.2.2.2.1) (C := RX0) (T := TX0) (N := 8) hx hb hts in_X0 hown hK hP 0 rfl rfl 3 (by decide) q_0 (fun _ h9 => h9) rfl dX0_state_6 ?_
      refine lv_icmp_ge (tgt := 35) hx hb dX0_state_9 (by decide) (fun c_9 => ?_) (fun c_9 => ?_)
      · exact absurd ((p_le (by omega)).mp c_9) (by omega)
      · refine lv_aload_n hx hb dX0_state_12 rfl (lv_at hl 2 rfl) ?_
        refine lv_iload_n hx hb dX0_state_13 rfl (lv_at hl 0 rfl) ?_
        refine vp_callSi (va_Run.run (va_runV (As := [.int (nI k)]) (rest := []) ⟨hx, hb, hml, hown, hts⟩ (c_X0_beatsTillLanding l dC dI cI cR j a1 a2 a3 σ (nI k)) (cwV 1 hts gX0_state_X0_beatsTillLanding rfl rfl rfl (by decide +kernel) ⟨Nat.le_of_ble_eq_true rfl, Nat.le_of_ble_eq_true rfl⟩) ⟨fun a U g mk q => by obtain ⟨q0, qP, qE⟩ := q; exact ⟨q0, qP, cE.same (s := U) rfl qE⟩, va_recv hK hP (ci := 0) (q0 := 0) rfl rfl, fun U hU hW => ⟨rfl, by rw [hU]; exact hP.sub (ws' := (wJ cI j a1 a2 a3 σ)) [0, 1, 2, 3] rfl, hE.warm hW⟩⟩ rfl rfl hl.1 rfl (lv_room (Nat.le_of_ble_eq_true rfl)) dX0_state_14 ⟨Nat.zero_le _, Nat.zero_le _⟩)) (fun r_14 h_14 => ?_)
        subst h_14
        refine lv_istore_n (lv' := [(3, .int (S_X0_beatsTillLanding σ (nI k))), (2, .int (nI k)), (1, .int v1_4), (0, .ref j)]) hx hb dX0_state_17 rfl hl (by decide) rfl (fun ls hl => ?_)
        refine lv_iload_n hx hb dX0_state_18 rfl (lv_at hl 0 rfl) ?_
        refine lv_iconst (v := (-1)) hx hb dX0_state_19 (by decide) ?_
        refine lv_icmp_eq (tgt := 29) hx hb dX0_state_20 (by decide) (fun c_20 => ?_) (fun c_20 => ?_)
        · refine lv_iinc (v := nI (k + 1)) (lv' := [(2, .int (nI (k + 1))), (3, .int (S_X0_beatsTillLanding σ (nI k))), (1, .int v1_4), (0, .ref j)]) hx hb dX0_state_29 hl (k := 1) rfl ((nI_succ _).symm) (by decide) rfl (fun ls hl => ?_)
          refine lv_goto (tgt := 4) hx hb dX0_state_32 (by decide) ?_
          exact ih4 (k + 1) v1_4 ls (by omega) (by rw [← hG4]; simp only [G_X0_state_4, if_pos c_20]) (lv_sub hl [0, 2, 3] rfl)
        · refine lv_iload_n hx hb dX0_state_23 rfl (lv_at hl 2 rfl) ?_
          refine lv_iconst (v := 1) hx hb dX0_state_24 (by decide) ?_
          refine lv_iload_n hx hb dX0_state_25 rfl (lv_at hl 0 rfl) ?_
          refine lv_ishl hx hb dX0_state_26 ?_
          refine lv_ior hx hb dX0_state_27 ?_
          refine lv_istore_n (lv' := [(1, .int (v1_4 ||| (1 <<< ((S_X0_beatsTillLanding σ (nI k)) &&& 31)))), (3, .int (S_X0_beatsTillLanding σ (nI k))), (2, .int (nI k)), (0, .ref j)]) hx hb dX0_state_28 rfl hl (by decide) rfl (fun ls hl => ?_)
          refine lv_iinc (v := nI (k + 1)) (lv' := [(2, .int (nI (k + 1))), (1, .int (v1_4 ||| (1 <<< ((S_X0_beatsTillLanding σ (nI k)) &&& 31)))), (3, .int (S_X0_beatsTillLanding σ (nI k))), (0, .ref j)]) hx hb dX0_state_29 hl (k := 2) rfl ((nI_succ _).symm) (by decide) rfl (fun ls hl => ?_)
          refine lv_goto (tgt := 4) hx hb dX0_state_32 (by decide) ?_
          exact ih4 (k + 1) (v1_4 ||| (1 <<< ((S_X0_beatsTillLanding σ (nI k)) &&& 31))) ls (by omega) (by rw [← hG4]; simp only [G_X0_state_4, if_neg c_20]) (lv_sub hl [0, 1, 3] rfl)
  exact loop4 σ.2.2.2.1.toNatClampNeg 0 0 ls (by omega) (by simp only [S_X0_state]) (lv_sub hl [0, 1, 2] rfl)
def G_X0_propLandingIn_2 (σ : JS) (p0 : Int32) : Nat → Nat → Int32
  | 0, k => (-1)
  | mm + 1, k => (if (S_X0_beatsTillLanding σ (nI k)) = p0 then nI k else G_X0_propLandingIn_2 σ p0 mm (k + 1))
def S_X0_propLandingIn (σ : JS) (p0 : Int32) : Int32 := G_X0_propLandingIn_2 σ p0 σ.2.2.2.1.toNatClampNeg 0
set_option maxHeartbeats 4000000 in
set_option maxRecDepth 100000 in
theorem c_X0_propLandingIn (l : Launch) (dC : Nat → ClassId) (dI : Nat → Nat → Nat) (cI cR : ClassId) (j a1 a2 a3 : Nat) (σ : JS) (p0 : Int32)  : Met l yX0_propLandingIn wsX0_propLandingIn ({ frames := 2, cells := 0, slots := 0, locals := 43 }) (va_Pc [.ref j, .int p0] (fun U => va_P (dC, dI) vwCl (wJ cI j a1 a2 a3 σ) U.heap ∧ cE (dC, dI) cI cR U)) (vp_Si (fun r => r = S_X0_propLandingIn σ p0)) 0 0 (fun _ => False) := by
  refine Met.ofW (cc := cX0_propLandingIn) (maxL := 3) (ret := (some .int)) (by decide) rfl ?_
  intro p e s m args below meth c s₁ B hml hv
  obtain ⟨rfl, hP, hE⟩ := hv
  have hK := hE.1
  have hx := B.exec
  have hb := B.bytes
  have hr := B.returns
  have hts := atoms_spec (ws := wsX0_propLandingIn) B.pre
  have hown : s.vm.findClass RX0 = some m.cls := findClass_of_methodNamed B.named
  have hlocks := B.notSynchronized
  have hP : va_P (dC, dI) vwCl [(j, .inr (0, [.ref a1, .ref a2, .ref a3, .int σ.2.2.2.1, .int σ.2.2.2.2.1, .int σ.2.2.2.2.2.1, .int σ.2.2.2.2.2.2.1, .double σ.2.2.2.2.2.2.2])), (a1, .inl (cI, 6, .inl σ.1)), (a2, .inl (cI, 6, .inl σ.2.1)), (a3, .inl (cI, 6, .inl σ.2.2.1))] s.heap := hP
  have hl := lv_entry ([.ref j, .int p0]) (n := 3) (Nat.le_of_ble_eq_true rfl)
  rw [lg_entry_eq]
  generalize (lg_sl ([.ref j, .int p0]) ++ List.replicate (3 - (lg_sl ([.ref j, .int p0])).length) Slot.unset).toArray = ls at hl ⊢
  have hl : lv_has ls 3 [(0, .ref j), (1, .int p0)] := hl
  have q_0 := hts (.fieldLink RX0 21 "Cascadecourt$Juggler" "props" "I") (by decide +kernel)
  have in_X0 : ∀ w ∈ wsX00, w ∈ wsX0_propLandingIn := by decide +kernel
  refine lv_iconst (v := 0) hx hb dX0_propLandingIn_0 (by decide) ?_
  refine lv_istore_n (lv' := [(2, .int 0), (0, .ref j), (1, .int p0)]) hx hb dX0_propLandingIn_1 rfl hl (by decide) rfl (fun ls hl => ?_)
  have hn2 := p_clt σ.2.2.2.1
  have loop2 : ∀ (mm k : Nat) (ls : Array Slot), k + mm = σ.2.2.2.1.toNatClampNeg → G_X0_propLandingIn_2 σ p0 mm k = S_X0_propLandingIn σ p0 → lv_has ls 3 [(2, .int (nI k)), (0, .ref j), (1, .int p0)] → W p l e (headSpec wsX0_propLandingIn ({ frames := 2, cells := 0, slots := 0, locals := 43 })).room s m (([.ref j, .int p0] : List Value).toArray) below meth c s.heap [] 0 0 (MQ below (vp_Si (fun r => r = S_X0_propLandingIn σ p0)) (([.ref j, .int p0] : List Value).toArray) s 0 0 (fun _ => False)) (F0 m 2 ls []) := by
    intro mm
    induction mm with
    | zero =>
      intro k ls hk2 hG2 hl
      refine lv_iload_n hx hb dX0_propLandingIn_2 rfl (lv_at hl 0 rfl) ?_
      refine lv_aload_n hx hb dX0_propLandingIn_3 rfl (lv_at hl 1 rfl) ?_
      refine va_get (D := (dC, dI)) (ci := 0) (v := .int σ.2.2.2.1) (C := RX0) (T := TX0) (N := 8) hx hb hts in_X0 hown hK hP 0 rfl rfl 3 (by decide) q_0 (fun _ h9 => h9) rfl dX0_propLandingIn_4 ?_
      refine lv_icmp_ge (tgt := 27) hx hb dX0_propLandingIn_7 (by decide) (fun c_7 => ?_) (fun c_7 => ?_)
      · refine lv_iconst (v := (-1)) hx hb dX0_propLandingIn_27 (by decide) ?_
        exact W.iret (v := (-1)) hx hb hr (fun t ht hW => ⟨(-1), rfl, by rw [← hG2]; simp only [G_X0_propLandingIn_2], ht⟩) (fun q h => by cases h) dX0_propLandingIn_28
      · exact absurd ((p_le (by omega)).mpr (by omega)) c_7
    | succ mm ih2 =>
      intro k ls hk2 hG2 hl
      refine lv_iload_n hx hb dX0_propLandingIn_2 rfl (lv_at hl 0 rfl) ?_
      refine lv_aload_n hx hb dX0_propLandingIn_3 rfl (lv_at hl 1 rfl) ?_
      refine va_get (D := (dC, dI)) (ci := 0) (v := .int σ.2.2.2.1) (C := RX0) (T := TX0) (N := 8) hx hb hts in_X0 hown hK hP 0 rfl rfl 3 (by decide) q_0 (fun _ h9 => h9) rfl dX0_propLandingIn_4 ?_
      refine lv_icmp_ge (tgt := 27) hx hb dX0_propLandingIn_7 (by decide) (fun c_7 => ?_) (fun c_7 => ?_)
      · exact absurd ((p_le (by omega)).mp c_7) (by omega)
      · refine lv_aload_n hx hb dX0_propLandingIn_10 rfl (lv_at hl 1 rfl) ?_
        refine lv_iload_n hx hb dX0_propLandingIn_11 rfl (lv_at hl 0 rfl) ?_
        refine vp_callSi (va_Run.run (va_runV (As := [.int (nI k)]) (rest := []) ⟨hx, hb, hml, hown, hts⟩ (c_X0_beatsTillLanding l dC dI cI cR j a1 a2 a3 σ (nI k)) (cwV 1 hts gX0_propLandingIn_X0_beatsTillLanding rfl rfl rfl (by decide +kernel) ⟨Nat.le_of_ble_eq_true rfl, Nat.le_of_ble_eq_true rfl⟩) ⟨fun a U g mk q => by obtain ⟨q0, qP, qE⟩ := q; exact ⟨q0, qP, cE.same (s := U) rfl qE⟩, va_recv hK hP (ci := 0) (q0 := 0) rfl rfl, fun U hU hW => ⟨rfl, by rw [hU]; exact hP.sub (ws' := (wJ cI j a1 a2 a3 σ)) [0, 1, 2, 3] rfl, hE.warm hW⟩⟩ rfl rfl hl.1 rfl (lv_room (Nat.le_of_ble_eq_true rfl)) dX0_propLandingIn_12 ⟨Nat.zero_le _, Nat.zero_le _⟩)) (fun r_12 h_12 => ?_)
        subst h_12
        refine lv_iload_n hx hb dX0_propLandingIn_15 rfl (lv_at hl 2 rfl) ?_
        refine lv_icmp_ne (tgt := 21) hx hb dX0_propLandingIn_16 (by decide) (fun c_16 => ?_) (fun c_16 => ?_)
        · refine lv_iinc (v := nI (k + 1)) (lv' := [(2, .int (nI (k + 1))), (0, .ref j), (1, .int p0)]) hx hb dX0_propLandingIn_21 hl (k := 0) rfl ((nI_succ _).symm) (by decide) rfl (fun ls hl => ?_)
          refine lv_goto (tgt := 2) hx hb dX0_propLandingIn_24 (by decide) ?_
          exact ih2 (k + 1) ls (by omega) (by rw [← hG2]; simp only [G_X0_propLandingIn_2, if_neg c_16]) (lv_sub hl [0, 1, 2] rfl)
        · refine lv_iload_n hx hb dX0_propLandingIn_19 rfl (lv_at hl 0 rfl) ?_
          exact W.iret (v := (nI k)) hx hb hr (fun t ht hW => ⟨(nI k), rfl, by rw [← hG2]; simp only [G_X0_propLandingIn_2, if_pos c_16], ht⟩) (fun q h => by cases h) dX0_propLandingIn_20
  exact loop2 σ.2.2.2.1.toNatClampNeg 0 ls (by omega) (by simp only [S_X0_propLandingIn]) (lv_sub hl [0, 1, 2] rfl)
def G_X0_droppedProps_4 (σ : JS) : Nat → Nat → Int32 → Int32
  | 0, k, v1_4 => v1_4
  | mm + 1, k, v1_4 => (if (S_X0_isDropped σ (nI k)) = 0 then G_X0_droppedProps_4 σ mm (k + 1) v1_4 else G_X0_droppedProps_4 σ mm (k + 1) (v1_4 + 1))
def S_X0_droppedProps (σ : JS) : Int32 := G_X0_droppedProps_4 σ σ.2.2.2.1.toNatClampNeg 0 0
set_option maxHeartbeats 4000000 in
set_option maxRecDepth 100000 in
theorem c_X0_droppedProps (l : Launch) (dC : Nat → ClassId) (dI : Nat → Nat → Nat) (cI cR : ClassId) (j a1 a2 a3 : Nat) (σ : JS)   : Met l yX0_droppedProps wsX0_droppedProps ({ frames := 2, cells := 0, slots := 0, locals := 42 }) (va_Pc [.ref j] (fun U => va_P (dC, dI) vwCl (wJ cI j a1 a2 a3 σ) U.heap ∧ cE (dC, dI) cI cR U)) (vp_Si (fun r => r = S_X0_droppedProps σ)) 0 0 (fun _ => False) := by
  refine Met.ofW (cc := cX0_droppedProps) (maxL := 3) (ret := (some .int)) (by decide) rfl ?_
  intro p e s m args below meth c s₁ B hml hv
  obtain ⟨rfl, hP, hE⟩ := hv
  have hK := hE.1
  have hx := B.exec
  have hb := B.bytes
  have hr := B.returns
  have hts := atoms_spec (ws := wsX0_droppedProps) B.pre
  have hown : s.vm.findClass RX0 = some m.cls := findClass_of_methodNamed B.named
  have hlocks := B.notSynchronized
  have hP : va_P (dC, dI) vwCl [(j, .inr (0, [.ref a1, .ref a2, .ref a3, .int σ.2.2.2.1, .int σ.2.2.2.2.1, .int σ.2.2.2.2.2.1, .int σ.2.2.2.2.2.2.1, .double σ.2.2.2.2.2.2.2])), (a1, .inl (cI, 6, .inl σ.1)), (a2, .inl (cI, 6, .inl σ.2.1)), (a3, .inl (cI, 6, .inl σ.2.2.1))] s.heap := hP
  have hl := lv_entry ([.ref j]) (n := 3) (Nat.le_of_ble_eq_true rfl)
  rw [lg_entry_eq]
  generalize (lg_sl ([.ref j]) ++ List.replicate (3 - (lg_sl ([.ref j])).length) Slot.unset).toArray = ls at hl ⊢
  have hl : lv_has ls 3 [(0, .ref j)] := hl
  have q_0 := hts (.fieldLink RX0 21 "Cascadecourt$Juggler" "props" "I") (by decide +kernel)
  have in_X0 : ∀ w ∈ wsX00, w ∈ wsX0_droppedProps := by decide +kernel
  refine lv_iconst (v := 0) hx hb dX0_droppedProps_0 (by decide) ?_
  refine lv_istore_n (lv' := [(1, .int 0), (0, .ref j)]) hx hb dX0_droppedProps_1 rfl hl (by decide) rfl (fun ls hl => ?_)
  refine lv_iconst (v := 0) hx hb dX0_droppedProps_2 (by decide) ?_
  refine lv_istore_n (lv' := [(2, .int 0), (1, .int 0), (0, .ref j)]) hx hb dX0_droppedProps_3 rfl hl (by decide) rfl (fun ls hl => ?_)
  have hn4 := p_clt σ.2.2.2.1
  have loop4 : ∀ (mm k : Nat) (v1_4 : Int32) (ls : Array Slot), k + mm = σ.2.2.2.1.toNatClampNeg → G_X0_droppedProps_4 σ mm k v1_4 = S_X0_droppedProps σ → lv_has ls 3 [(2, .int (nI k)), (1, .int v1_4), (0, .ref j)] → W p l e (headSpec wsX0_droppedProps ({ frames := 2, cells := 0, slots := 0, locals := 42 })).room s m (([.ref j] : List Value).toArray) below meth c s.heap [] 0 0 (MQ below (vp_Si (fun r => r = S_X0_droppedProps σ)) (([.ref j] : List Value).toArray) s 0 0 (fun _ => False)) (F0 m 4 ls []) := by
    intro mm
    induction mm with
    | zero =>
      intro k v1_4 ls hk4 hG4 hl
      refine lv_iload_n hx hb dX0_droppedProps_4 rfl (lv_at hl 0 rfl) ?_
      refine lv_aload_n hx hb dX0_droppedProps_5 rfl (lv_at hl 2 rfl) ?_
      refine va_get (D := (dC, dI)) (ci := 0) (v := .int σ.2.2.2.1) (C := RX0) (T := TX0) (N := 8) hx hb hts in_X0 hown hK hP 0 rfl rfl 3 (by decide) q_0 (fun _ h9 => h9) rfl dX0_droppedProps_6 ?_
      refine lv_icmp_ge (tgt := 29) hx hb dX0_droppedProps_9 (by decide) (fun c_9 => ?_) (fun c_9 => ?_)
      · refine lv_iload_n hx hb dX0_droppedProps_29 rfl (lv_at hl 1 rfl) ?_
        exact W.iret (v := v1_4) hx hb hr (fun t ht hW => ⟨v1_4, rfl, by rw [← hG4]; simp only [G_X0_droppedProps_4], ht⟩) (fun q h => by cases h) dX0_droppedProps_30
      · exact absurd ((p_le (by omega)).mpr (by omega)) c_9
    | succ mm ih4 =>
      intro k v1_4 ls hk4 hG4 hl
      refine lv_iload_n hx hb dX0_droppedProps_4 rfl (lv_at hl 0 rfl) ?_
      refine lv_aload_n hx hb dX0_droppedProps_5 rfl (lv_at hl 2 rfl) ?_
      refine va_get (D := (dC, dI)) (ci := 0) (v := .int σ.2.2.2.1) (C := RX0) (T := TX0) (N := 8) hx hb hts in_X0 hown hK hP 0 rfl rfl 3 (by decide) q_0 (fun _ h9 => h9) rfl dX0_droppedProps_6 ?_
      refine lv_icmp_ge (tgt := 29) hx hb dX0_droppedProps_9 (by decide) (fun c_9 => ?_) (fun c_9 => ?_)
      · exact absurd ((p_le (by omega)).mp c_9) (by omega)
      · refine lv_aload_n hx hb dX0_droppedProps_12 rfl (lv_at hl 2 rfl) ?_
        refine lv_iload_n hx hb dX0_droppedProps_13 rfl (lv_at hl 0 rfl) ?_
        refine vp_callSi (va_Run.run (va_runV (As := [.int (nI k)]) (rest := []) ⟨hx, hb, hml, hown, hts⟩ (c_X0_isDropped l dC dI cI cR j a1 a2 a3 σ (nI k)) (cwV 1 hts gX0_droppedProps_X0_isDropped rfl rfl rfl (by decide +kernel) ⟨Nat.le_of_ble_eq_true rfl, Nat.le_of_ble_eq_true rfl⟩) ⟨fun a U g mk q => by obtain ⟨q0, qP, qE⟩ := q; exact ⟨q0, qP, cE.same (s := U) rfl qE⟩, va_recv hK hP (ci := 0) (q0 := 0) rfl rfl, fun U hU hW => ⟨rfl, by rw [hU]; exact hP.sub (ws' := (wJ cI j a1 a2 a3 σ)) [0, 1, 2, 3] rfl, hE.warm hW⟩⟩ rfl rfl hl.1 rfl (lv_room (Nat.le_of_ble_eq_true rfl)) dX0_droppedProps_14 ⟨Nat.zero_le _, Nat.zero_le _⟩)) (fun r_14 h_14 => ?_)
        obtain ⟨rfl, hz_14⟩ := h_14
        refine lv_if_eq (tgt := 23) hx hb dX0_droppedProps_17 (by decide) (fun c_17 => ?_) (fun c_17 => ?_)
        · refine lv_iinc (v := nI (k + 1)) (lv' := [(2, .int (nI (k + 1))), (1, .int v1_4), (0, .ref j)]) hx hb dX0_droppedProps_23 hl (k := 0) rfl ((nI_succ _).symm) (by decide) rfl (fun ls hl => ?_)
          refine lv_goto (tgt := 4) hx hb dX0_droppedProps_26 (by decide) ?_
          exact ih4 (k + 1) v1_4 ls (by omega) (by rw [← hG4]; simp only [G_X0_droppedProps_4, if_pos c_17]) (lv_sub hl [0, 1, 2] rfl)
        · refine lv_iinc (v := v1_4 + 1) (lv' := [(1, .int (v1_4 + 1)), (2, .int (nI k)), (0, .ref j)]) hx hb dX0_droppedProps_20 hl (k := 1) rfl (rfl) (by decide) rfl (fun ls hl => ?_)
          refine lv_iinc (v := nI (k + 1)) (lv' := [(2, .int (nI (k + 1))), (1, .int (v1_4 + 1)), (0, .ref j)]) hx hb dX0_droppedProps_23 hl (k := 1) rfl ((nI_succ _).symm) (by decide) rfl (fun ls hl => ?_)
          refine lv_goto (tgt := 4) hx hb dX0_droppedProps_26 (by decide) ?_
          exact ih4 (k + 1) (v1_4 + 1) ls (by omega) (by rw [← hG4]; simp only [G_X0_droppedProps_4, if_neg c_17]) (lv_sub hl [0, 1, 2] rfl)
  exact loop4 σ.2.2.2.1.toNatClampNeg 0 0 ls (by omega) (by simp only [S_X0_droppedProps]) (lv_sub hl [0, 1, 2] rfl)
def G_X0_flightsOfAll_4 (σ : JS) : Nat → Nat → Int32 → Int32
  | 0, k, v1_4 => v1_4
  | mm + 1, k, v1_4 => G_X0_flightsOfAll_4 σ mm (k + 1) (v1_4 + (S_X3_cell 6 σ.2.1 (nI k)))
def S_X0_flightsOfAll (σ : JS) : Int32 := G_X0_flightsOfAll_4 σ σ.2.2.2.1.toNatClampNeg 0 0
set_option maxHeartbeats 4000000 in
set_option maxRecDepth 100000 in
theorem c_X0_flightsOfAll (l : Launch) (dC : Nat → ClassId) (dI : Nat → Nat → Nat) (cI cR : ClassId) (j a1 a2 a3 : Nat) (σ : JS)   : Met l yX0_flightsOfAll wsX0_flightsOfAll ({ frames := 1, cells := 0, slots := 0, locals := 21 }) (va_Pc [.ref j] (fun U => va_P (dC, dI) vwCl (wJ cI j a1 a2 a3 σ) U.heap ∧ cE (dC, dI) cI cR U)) (vp_Si (fun r => r = S_X0_flightsOfAll σ)) 0 0 (fun _ => False) := by
  refine Met.ofW (cc := cX0_flightsOfAll) (maxL := 3) (ret := (some .int)) (by decide) rfl ?_
  intro p e s m args below meth c s₁ B hml hv
  obtain ⟨rfl, hP, hE⟩ := hv
  have hK := hE.1
  have hx := B.exec
  have hb := B.bytes
  have hr := B.returns
  have hts := atoms_spec (ws := wsX0_flightsOfAll) B.pre
  have hown : s.vm.findClass RX0 = some m.cls := findClass_of_methodNamed B.named
  have hlocks := B.notSynchronized
  have hP : va_P (dC, dI) vwCl [(j, .inr (0, [.ref a1, .ref a2, .ref a3, .int σ.2.2.2.1, .int σ.2.2.2.2.1, .int σ.2.2.2.2.2.1, .int σ.2.2.2.2.2.2.1, .double σ.2.2.2.2.2.2.2])), (a1, .inl (cI, 6, .inl σ.1)), (a2, .inl (cI, 6, .inl σ.2.1)), (a3, .inl (cI, 6, .inl σ.2.2.1))] s.heap := hP
  have hl := lv_entry ([.ref j]) (n := 3) (Nat.le_of_ble_eq_true rfl)
  rw [lg_entry_eq]
  generalize (lg_sl ([.ref j]) ++ List.replicate (3 - (lg_sl ([.ref j])).length) Slot.unset).toArray = ls at hl ⊢
  have hl : lv_has ls 3 [(0, .ref j)] := hl
  have q_0 := hts (.fieldLink RX0 21 "Cascadecourt$Juggler" "props" "I") (by decide +kernel)
  have in_X0 : ∀ w ∈ wsX00, w ∈ wsX0_flightsOfAll := by decide +kernel
  have q_1 := hts (.fieldLink RX0 15 "Cascadecourt$Juggler" "flights" "[I") (by decide +kernel)
  have q_2 := hts (.initialized RX3) (by decide +kernel)
  have q_3 := hts (.static yX3_cell) (by decide +kernel)
  refine lv_iconst (v := 0) hx hb dX0_flightsOfAll_0 (by decide) ?_
  refine lv_istore_n (lv' := [(1, .int 0), (0, .ref j)]) hx hb dX0_flightsOfAll_1 rfl hl (by decide) rfl (fun ls hl => ?_)
  refine lv_iconst (v := 0) hx hb dX0_flightsOfAll_2 (by decide) ?_
  refine lv_istore_n (lv' := [(2, .int 0), (1, .int 0), (0, .ref j)]) hx hb dX0_flightsOfAll_3 rfl hl (by decide) rfl (fun ls hl => ?_)
  have hn4 := p_clt σ.2.2.2.1
  have loop4 : ∀ (mm k : Nat) (v1_4 : Int32) (ls : Array Slot), k + mm = σ.2.2.2.1.toNatClampNeg → G_X0_flightsOfAll_4 σ mm k v1_4 = S_X0_flightsOfAll σ → lv_has ls 3 [(2, .int (nI k)), (1, .int v1_4), (0, .ref j)] → W p l e (headSpec wsX0_flightsOfAll ({ frames := 1, cells := 0, slots := 0, locals := 21 })).room s m (([.ref j] : List Value).toArray) below meth c s.heap [] 0 0 (MQ below (vp_Si (fun r => r = S_X0_flightsOfAll σ)) (([.ref j] : List Value).toArray) s 0 0 (fun _ => False)) (F0 m 4 ls []) := by
    intro mm
    induction mm with
    | zero =>
      intro k v1_4 ls hk4 hG4 hl
      refine lv_iload_n hx hb dX0_flightsOfAll_4 rfl (lv_at hl 0 rfl) ?_
      refine lv_aload_n hx hb dX0_flightsOfAll_5 rfl (lv_at hl 2 rfl) ?_
      refine va_get (D := (dC, dI)) (ci := 0) (v := .int σ.2.2.2.1) (C := RX0) (T := TX0) (N := 8) hx hb hts in_X0 hown hK hP 0 rfl rfl 3 (by decide) q_0 (fun _ h9 => h9) rfl dX0_flightsOfAll_6 ?_
      refine lv_icmp_ge (tgt := 29) hx hb dX0_flightsOfAll_9 (by decide) (fun c_9 => ?_) (fun c_9 => ?_)
      · refine lv_iload_n hx hb dX0_flightsOfAll_29 rfl (lv_at hl 1 rfl) ?_
        exact W.iret (v := v1_4) hx hb hr (fun t ht hW => ⟨v1_4, rfl, by rw [← hG4]; simp only [G_X0_flightsOfAll_4], ht⟩) (fun q h => by cases h) dX0_flightsOfAll_30
      · exact absurd ((p_le (by omega)).mpr (by omega)) c_9
    | succ mm ih4 =>
      intro k v1_4 ls hk4 hG4 hl
      refine lv_iload_n hx hb dX0_flightsOfAll_4 rfl (lv_at hl 0 rfl) ?_
      refine lv_aload_n hx hb dX0_flightsOfAll_5 rfl (lv_at hl 2 rfl) ?_
      refine va_get (D := (dC, dI)) (ci := 0) (v := .int σ.2.2.2.1) (C := RX0) (T := TX0) (N := 8) hx hb hts in_X0 hown hK hP 0 rfl rfl 3 (by decide) q_0 (fun _ h9 => h9) rfl dX0_flightsOfAll_6 ?_
      refine lv_icmp_ge (tgt := 29) hx hb dX0_flightsOfAll_9 (by decide) (fun c_9 => ?_) (fun c_9 => ?_)
      · exact absurd ((p_le (by omega)).mp c_9) (by omega)
      · refine lv_iload_n hx hb dX0_flightsOfAll_12 rfl (lv_at hl 1 rfl) ?_
        refine lv_aload_n hx hb dX0_flightsOfAll_13 rfl (lv_at hl 2 rfl) ?_
        refine va_get (D := (dC, dI)) (ci := 0) (v := .ref a2) (C := RX0) (T := TX0) (N := 8) hx hb hts in_X0 hown hK hP 0 rfl rfl 1 (by decide) q_1 (fun _ h9 => h9) rfl dX0_flightsOfAll_14 ?_
        refine lv_iload_n hx hb dX0_flightsOfAll_17 rfl (lv_at hl 0 rfl) ?_
        refine vp_callSi (va_Run.run (va_runSN (As := [.ref a2, .int (nI k)]) (rest := [.int v1_4]) ⟨hx, hb, hml, hown, hts⟩ (c_X3_cell l dC dI cI cR a2 6 σ.2.1 (by decide) (nI k)) ⟨va_cnB 2 hts gX0_flightsOfAll_X3_cell_n42 rfl rfl rfl (hE.2 (.methodLinkNest RX0 42 yX3_cell "Cascadecourt") (by decide +kernel)) q_2 (by decide +kernel) ⟨Nat.le_of_ble_eq_true rfl, Nat.le_of_ble_eq_true rfl⟩, q_3, trivial⟩ ⟨fun a U g mk q => by obtain ⟨q0, qP, qE⟩ := q; exact ⟨q0, qP, cE.same (s := U) rfl qE⟩, fun U hU hW => ⟨rfl, by rw [hU]; exact hP.sub (ws' := [(a2, .inl (cI, 6, .inl σ.2.1))]) [2] rfl, hE.warm hW⟩⟩ rfl rfl hl.1 rfl (lv_room (Nat.le_of_ble_eq_true rfl)) dX0_flightsOfAll_18 ⟨Nat.zero_le _, Nat.zero_le _⟩)) (fun r_18 h_18 => ?_)
        subst h_18
        refine lv_iadd hx hb dX0_flightsOfAll_21 ?_
        refine lv_istore_n (lv' := [(1, .int (v1_4 + (S_X3_cell 6 σ.2.1 (nI k)))), (2, .int (nI k)), (0, .ref j)]) hx hb dX0_flightsOfAll_22 rfl hl (by decide) rfl (fun ls hl => ?_)
        refine lv_iinc (v := nI (k + 1)) (lv' := [(2, .int (nI (k + 1))), (1, .int (v1_4 + (S_X3_cell 6 σ.2.1 (nI k)))), (0, .ref j)]) hx hb dX0_flightsOfAll_23 hl (k := 1) rfl ((nI_succ _).symm) (by decide) rfl (fun ls hl => ?_)
        refine lv_goto (tgt := 4) hx hb dX0_flightsOfAll_26 (by decide) ?_
        exact ih4 (k + 1) (v1_4 + (S_X3_cell 6 σ.2.1 (nI k))) ls (by omega) (by rw [← hG4]; simp only [G_X0_flightsOfAll_4]) (lv_sub hl [0, 1, 2] rfl)
  exact loop4 σ.2.2.2.1.toNatClampNeg 0 0 ls (by omega) (by simp only [S_X0_flightsOfAll]) (lv_sub hl [0, 1, 2] rfl)
def S_X0_answerOf (σ : JS) (p0 : Int32) (p1 : Int32) : Int32 := (if p1 = 0 then S_X0_beatsTillLanding σ p0 else (if p1 = 1 then S_X3_cell 6 σ.2.1 p0 else (if p1 = 2 then S_X3_cell 6 σ.2.2.1 p0 else S_X0_handOf σ p0)))
set_option maxHeartbeats 4000000 in
set_option maxRecDepth 100000 in
theorem c_X0_answerOf (l : Launch) (dC : Nat → ClassId) (dI : Nat → Nat → Nat) (cI cR : ClassId) (j a1 a2 a3 : Nat) (σ : JS) (p0 : Int32) (p1 : Int32)  : Met l yX0_answerOf wsX0_answerOf ({ frames := 3, cells := 0, slots := 0, locals := 63 }) (va_Pc [.ref j, .int p0, .int p1] (fun U => va_P (dC, dI) vwCl (wJ cI j a1 a2 a3 σ) U.heap ∧ cE (dC, dI) cI cR U)) (vp_Si (fun r => r = S_X0_answerOf σ p0 p1)) 0 0 (fun _ => False) := by
  refine Met.ofW (cc := cX0_answerOf) (maxL := 3) (ret := (some .int)) (by decide) rfl ?_
  intro p e s m args below meth c s₁ B hml hv
  obtain ⟨rfl, hP, hE⟩ := hv
  have hK := hE.1
  have hx := B.exec
  have hb := B.bytes
  have hr := B.returns
  have hts := atoms_spec (ws := wsX0_answerOf) B.pre
  have hown : s.vm.findClass RX0 = some m.cls := findClass_of_methodNamed B.named
  have hlocks := B.notSynchronized
  have hP : va_P (dC, dI) vwCl [(j, .inr (0, [.ref a1, .ref a2, .ref a3, .int σ.2.2.2.1, .int σ.2.2.2.2.1, .int σ.2.2.2.2.2.1, .int σ.2.2.2.2.2.2.1, .double σ.2.2.2.2.2.2.2])), (a1, .inl (cI, 6, .inl σ.1)), (a2, .inl (cI, 6, .inl σ.2.1)), (a3, .inl (cI, 6, .inl σ.2.2.1))] s.heap := hP
  have hl := lv_entry ([.ref j, .int p0, .int p1]) (n := 3) (Nat.le_of_ble_eq_true rfl)
  rw [lg_entry_eq]
  generalize (lg_sl ([.ref j, .int p0, .int p1]) ++ List.replicate (3 - (lg_sl ([.ref j, .int p0, .int p1])).length) Slot.unset).toArray = ls at hl ⊢
  have hl : lv_has ls 3 [(0, .ref j), (1, .int p0), (2, .int p1)] := hl
  have q_0 := hts (.fieldLink RX0 15 "Cascadecourt$Juggler" "flights" "[I") (by decide +kernel)
  have in_X0 : ∀ w ∈ wsX00, w ∈ wsX0_answerOf := by decide +kernel
  have q_1 := hts (.initialized RX3) (by decide +kernel)
  have q_2 := hts (.static yX3_cell) (by decide +kernel)
  have q_3 := hts (.fieldLink RX0 18 "Cascadecourt$Juggler" "drops" "[I") (by decide +kernel)
  refine lv_iload_n hx hb dX0_answerOf_0 rfl (lv_at hl 2 rfl) ?_
  by_cases k_1_0 : p1 = 0
  · refine lv_tableIn (off := 27) (tgt := 28) hx hb dX0_answerOf_1 (by rw [k_1_0]; decide) (by rw [k_1_0]; decide) (by rw [k_1_0]; rfl) (by decide) ?_
    refine lv_aload_n hx hb dX0_answerOf_28 rfl (lv_at hl 0 rfl) ?_
    refine lv_iload_n hx hb dX0_answerOf_29 rfl (lv_at hl 1 rfl) ?_
    refine vp_callSi (va_Run.run (va_runV (As := [.int p0]) (rest := []) ⟨hx, hb, hml, hown, hts⟩ (c_X0_beatsTillLanding l dC dI cI cR j a1 a2 a3 σ p0) (cwV 1 hts gX0_answerOf_X0_beatsTillLanding rfl rfl rfl (by decide +kernel) ⟨Nat.le_of_ble_eq_true rfl, Nat.le_of_ble_eq_true rfl⟩) ⟨fun a U g mk q => by obtain ⟨q0, qP, qE⟩ := q; exact ⟨q0, qP, cE.same (s := U) rfl qE⟩, va_recv hK hP (ci := 0) (q0 := 0) rfl rfl, fun U hU hW => ⟨rfl, by rw [hU]; exact hP.sub (ws' := (wJ cI j a1 a2 a3 σ)) [0, 1, 2, 3] rfl, hE.warm hW⟩⟩ rfl rfl hl.1 rfl (lv_room (Nat.le_of_ble_eq_true rfl)) dX0_answerOf_30 ⟨Nat.zero_le _, Nat.zero_le _⟩)) (fun r_30 h_30 => ?_)
    subst h_30
    exact W.iret (v := (S_X0_beatsTillLanding σ p0)) hx hb hr (fun t ht hW => ⟨(S_X0_beatsTillLanding σ p0), rfl, by simp only [S_X0_answerOf, if_pos k_1_0], ht⟩) (fun q h => by cases h) dX0_answerOf_33
  by_cases k_1_1 : p1 = 1
  · refine lv_tableIn (off := 33) (tgt := 34) hx hb dX0_answerOf_1 (by rw [k_1_1]; decide) (by rw [k_1_1]; decide) (by rw [k_1_1]; rfl) (by decide) ?_
    refine lv_aload_n hx hb dX0_answerOf_34 rfl (lv_at hl 0 rfl) ?_
    refine va_get (D := (dC, dI)) (ci := 0) (v := .ref a2) (C := RX0) (T := TX0) (N := 8) hx hb hts in_X0 hown hK hP 0 rfl rfl 1 (by decide) q_0 (fun _ h9 => h9) rfl dX0_answerOf_35 ?_
    refine lv_iload_n hx hb dX0_answerOf_38 rfl (lv_at hl 1 rfl) ?_
    refine vp_callSi (va_Run.run (va_runSN (As := [.ref a2, .int p0]) (rest := []) ⟨hx, hb, hml, hown, hts⟩ (c_X3_cell l dC dI cI cR a2 6 σ.2.1 (by decide) p0) ⟨va_cnB 2 hts gX0_answerOf_X3_cell_n42 rfl rfl rfl (hE.2 (.methodLinkNest RX0 42 yX3_cell "Cascadecourt") (by decide +kernel)) q_1 (by decide +kernel) ⟨Nat.le_of_ble_eq_true rfl, Nat.le_of_ble_eq_true rfl⟩, q_2, trivial⟩ ⟨fun a U g mk q => by obtain ⟨q0, qP, qE⟩ := q; exact ⟨q0, qP, cE.same (s := U) rfl qE⟩, fun U hU hW => ⟨rfl, by rw [hU]; exact hP.sub (ws' := [(a2, .inl (cI, 6, .inl σ.2.1))]) [2] rfl, hE.warm hW⟩⟩ rfl rfl hl.1 rfl (lv_room (Nat.le_of_ble_eq_true rfl)) dX0_answerOf_39 ⟨Nat.zero_le _, Nat.zero_le _⟩)) (fun r_39 h_39 => ?_)
    subst h_39
    exact W.iret (v := (S_X3_cell 6 σ.2.1 p0)) hx hb hr (fun t ht hW => ⟨(S_X3_cell 6 σ.2.1 p0), rfl, by simp only [S_X0_answerOf, if_neg k_1_0, if_pos k_1_1], ht⟩) (fun q h => by cases h) dX0_answerOf_42
  by_cases k_1_2 : p1 = 2
  · refine lv_tableIn (off := 42) (tgt := 43) hx hb dX0_answerOf_1 (by rw [k_1_2]; decide) (by rw [k_1_2]; decide) (by rw [k_1_2]; rfl) (by decide) ?_
    refine lv_aload_n hx hb dX0_answerOf_43 rfl (lv_at hl 0 rfl) ?_
    refine va_get (D := (dC, dI)) (ci := 0) (v := .ref a3) (C := RX0) (T := TX0) (N := 8) hx hb hts in_X0 hown hK hP 0 rfl rfl 2 (by decide) q_3 (fun _ h9 => h9) rfl dX0_answerOf_44 ?_
    refine lv_iload_n hx hb dX0_answerOf_47 rfl (lv_at hl 1 rfl) ?_
    refine vp_callSi (va_Run.run (va_runSN (As := [.ref a3, .int p0]) (rest := []) ⟨hx, hb, hml, hown, hts⟩ (c_X3_cell l dC dI cI cR a3 6 σ.2.2.1 (by decide) p0) ⟨va_cnB 2 hts gX0_answerOf_X3_cell_n42 rfl rfl rfl (hE.2 (.methodLinkNest RX0 42 yX3_cell "Cascadecourt") (by decide +kernel)) q_1 (by decide +kernel) ⟨Nat.le_of_ble_eq_true rfl, Nat.le_of_ble_eq_true rfl⟩, q_2, trivial⟩ ⟨fun a U g mk q => by obtain ⟨q0, qP, qE⟩ := q; exact ⟨q0, qP, cE.same (s := U) rfl qE⟩, fun U hU hW => ⟨rfl, by rw [hU]; exact hP.sub (ws' := [(a3, .inl (cI, 6, .inl σ.2.2.1))]) [3] rfl, hE.warm hW⟩⟩ rfl rfl hl.1 rfl (lv_room (Nat.le_of_ble_eq_true rfl)) dX0_answerOf_48 ⟨Nat.zero_le _, Nat.zero_le _⟩)) (fun r_48 h_48 => ?_)
    subst h_48
    exact W.iret (v := (S_X3_cell 6 σ.2.2.1 p0)) hx hb hr (fun t ht hW => ⟨(S_X3_cell 6 σ.2.2.1 p0), rfl, by simp only [S_X0_answerOf, if_neg k_1_0, if_neg k_1_1, if_pos k_1_2], ht⟩) (fun q h => by cases h) dX0_answerOf_51
  refine lv_tableOut (tgt := 52) hx hb dX0_answerOf_1 (p_out3 k_1_0 k_1_1 k_1_2) (by decide) ?_
  refine lv_aload_n hx hb dX0_answerOf_52 rfl (lv_at hl 0 rfl) ?_
  refine lv_iload_n hx hb dX0_answerOf_53 rfl (lv_at hl 1 rfl) ?_
  refine vp_callSi (va_Run.run (va_runV (As := [.int p0]) (rest := []) ⟨hx, hb, hml, hown, hts⟩ (c_X0_handOf l dC dI cI cR j a1 a2 a3 σ p0) (cwV 1 hts gX0_answerOf_X0_handOf rfl rfl rfl (by decide +kernel) ⟨Nat.le_of_ble_eq_true rfl, Nat.le_of_ble_eq_true rfl⟩) ⟨fun a U g mk q => by obtain ⟨q0, qP, qE⟩ := q; exact ⟨q0, qP, cE.same (s := U) rfl qE⟩, va_recv hK hP (ci := 0) (q0 := 0) rfl rfl, fun U hU hW => ⟨rfl, by rw [hU]; exact hP.sub (ws' := (wJ cI j a1 a2 a3 σ)) [0, 1, 2, 3] rfl, hE.warm hW⟩⟩ rfl rfl hl.1 rfl (lv_room (Nat.le_of_ble_eq_true rfl)) dX0_answerOf_54 ⟨Nat.zero_le _, Nat.zero_le _⟩)) (fun r_54 h_54 => ?_)
  subst h_54
  exact W.iret (v := (S_X0_handOf σ p0)) hx hb hr (fun t ht hW => ⟨(S_X0_handOf σ p0), rfl, by simp only [S_X0_answerOf, if_neg k_1_0, if_neg k_1_1, if_neg k_1_2], ht⟩) (fun q h => by cases h) dX0_answerOf_57
