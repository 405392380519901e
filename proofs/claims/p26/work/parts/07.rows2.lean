/-! LAID BY MY PROGRAM wip/gen/p26.py: contracts, method by method -/
def G_X1_highestThrow_4 (ρ : RS) : Nat → Nat → Int32 → Int32
  | 0, k, v1_4 => v1_4
  | mm + 1, k, v1_4 => G_X1_highestThrow_4 ρ mm (k + 1) (if v1_4 < (S_X3_cell 8 ρ.1 (nI k)) then (S_X3_cell 8 ρ.1 (nI k)) else v1_4)
def S_X1_highestThrow (ρ : RS) : Int32 := G_X1_highestThrow_4 ρ ρ.2.2.2.2.2.1.toNatClampNeg 0 0
set_option maxHeartbeats 4000000 in
set_option maxRecDepth 100000 in
theorem c_X1_highestThrow (l : Launch) (dC : Nat → ClassId) (dI : Nat → Nat → Nat) (cI cR : ClassId) (h h1 h2 h3 h4 h5 : Nat) (ρ : RS)   : Met l yX1_highestThrow wsX1_highestThrow ({ frames := 1, cells := 0, slots := 0, locals := 21 }) (va_Pc [.ref h] (fun U => va_P (dC, dI) vwCl (wR cI h h1 h2 h3 h4 h5 ρ) U.heap ∧ cE (dC, dI) cI cR U)) (vp_Si (fun r => r = S_X1_highestThrow ρ)) 0 0 (fun _ => False) := by
  refine Met.ofW (cc := cX1_highestThrow) (maxL := 3) (ret := (some .int)) (by decide) rfl ?_
  intro p e s m args below meth c s₁ B hml hv
  obtain ⟨rfl, hP, hE⟩ := hv
  have hK := hE.1
  have hx := B.exec
  have hb := B.bytes
  have hr := B.returns
  have hts := atoms_spec (ws := wsX1_highestThrow) B.pre
  have hown : s.vm.findClass RX1 = some m.cls := findClass_of_methodNamed B.named
  have hlocks := B.notSynchronized
  have hP : va_P (dC, dI) vwCl [(h, .inr (1, [.ref h1, .ref h2, .ref h3, .ref h4, .ref h5, .int ρ.2.2.2.2.2.1, .int ρ.2.2.2.2.2.2])), (h1, .inl (cI, 8, .inl ρ.1)), (h2, .inl (cI, 8, .inl ρ.2.1)), (h3, .inl (cI, 8, .inl ρ.2.2.1)), (h4, .inl (cI, 8, .inl ρ.2.2.2.1)), (h5, .inl (cI, 8, .inl ρ.2.2.2.2.1))] s.heap := hP
  have hl := lv_entry ([.ref h]) (n := 3) (Nat.le_of_ble_eq_true rfl)
  rw [lg_entry_eq]
  generalize (lg_sl ([.ref h]) ++ List.replicate (3 - (lg_sl ([.ref h])).length) Slot.unset).toArray = ls at hl ⊢
  have hl : lv_has ls 3 [(0, .ref h)] := hl
  have q_0 := hts (.fieldLink RX1 27 "Cascadecourt$Row" "length" "I") (by decide +kernel)
  have in_X1 : ∀ w ∈ wsX10, w ∈ wsX1_highestThrow := by decide +kernel
  have q_1 := hts (.fieldLink RX1 9 "Cascadecourt$Row" "heights" "[I") (by decide +kernel)
  have q_2 := hts (.initialized RX3) (by decide +kernel)
  have q_3 := hts (.static yX3_cell) (by decide +kernel)
  have q_4 := hts (.methodLink RX1 105 Lib.Math.max.name) (by decide +kernel)
  have q_5 := hts (.static Lib.Math.max.name) (by decide +kernel)
  have q_6 := hts (.initialized "java/lang/Math") (by decide +kernel)
  have q_7 := hts (.code Lib.Math.max.name Lib.Math.max.code 2 (some .int)) (by decide +kernel)
  refine lv_iconst (v := 0) hx hb dX1_highestThrow_0 (by decide) ?_
  refine lv_istore_n (lv' := [(1, .int 0), (0, .ref h)]) hx hb dX1_highestThrow_1 rfl hl (by decide) rfl (fun ls hl => ?_)
  refine lv_iconst (v := 0) hx hb dX1_highestThrow_2 (by decide) ?_
  refine lv_istore_n (lv' := [(2, .int 0), (1, .int 0), (0, .ref h)]) hx hb dX1_highestThrow_3 rfl hl (by decide) rfl (fun ls hl => ?_)
  have hn4 := p_clt ρ.2.2.2.2.2.1
  have loop4 : ∀ (mm k : Nat) (v1_4 : Int32) (ls : Array Slot), k + mm = ρ.2.2.2.2.2.1.toNatClampNeg → G_X1_highestThrow_4 ρ mm k v1_4 = S_X1_highestThrow ρ → lv_has ls 3 [(2, .int (nI k)), (1, .int v1_4), (0, .ref h)] → W p l e (headSpec wsX1_highestThrow ({ frames := 1, cells := 0, slots := 0, locals := 21 })).room s m (([.ref h] : List Value).toArray) below meth c s.heap [] 0 0 (MQ below (vp_Si (fun r => r = S_X1_highestThrow ρ)) (([.ref h] : List Value).toArray) s 0 0 (fun _ => False)) (F0 m 4 ls []) := by
    intro mm
    induction mm with
    | zero =>
      intro k v1_4 ls hk4 hG4 hl
      refine lv_iload_n hx hb dX1_highestThrow_4 rfl (lv_at hl 0 rfl) ?_
      refine lv_aload_n hx hb dX1_highestThrow_5 rfl (lv_at hl 2 rfl) ?_
      refine va_get (D := (dC, dI)) (ci := 1) (v := .int ρ.2.2.2.2.2.1) (C := RX1) (T := TX1) (N := 7) hx hb hts in_X1 hown hK hP 0 rfl rfl 5 (by decide) q_0 (fun _ h9 => h9) rfl dX1_highestThrow_6 ?_
      refine lv_icmp_ge (tgt := 31) hx hb dX1_highestThrow_9 (by decide) (fun c_9 => ?_) (fun c_9 => ?_)
      · refine lv_iload_n hx hb dX1_highestThrow_31 rfl (lv_at hl 1 rfl) ?_
        exact W.iret (v := v1_4) hx hb hr (fun t ht hW => ⟨v1_4, rfl, by rw [← hG4]; simp only [G_X1_highestThrow_4], ht⟩) (fun q h => by cases h) dX1_highestThrow_32
      · exact absurd ((p_le (by omega)).mpr (by omega)) c_9
    | succ mm ih4 =>
      intro k v1_4 ls hk4 hG4 hl
      refine lv_iload_n hx hb dX1_highestThrow_4 rfl (lv_at hl 0 rfl) ?_
      refine lv_aload_n hx hb dX1_highestThrow_5 rfl (lv_at hl 2 rfl) ?_
      refine va_get (D := (dC, dI)) (ci := 1) (v := .int ρ.2.2.2.2.2.1) (C := RX1) (T := TX1) (N := 7) hx hb hts in_X1 hown hK hP 0 rfl rfl 5 (by decide) q_0 (fun _ h9 => h9) rfl dX1_highestThrow_6 ?_
      refine lv_icmp_ge (tgt := 31) hx hb dX1_highestThrow_9 (by decide) (fun c_9 => ?_) (fun c_9 => ?_)
      · exact absurd ((p_le (by omega)).mp c_9) (by omega)
      · refine lv_iload_n hx hb dX1_highestThrow_12 rfl (lv_at hl 1 rfl) ?_
        refine lv_aload_n hx hb dX1_highestThrow_13 rfl (lv_at hl 2 rfl) ?_
        refine va_get (D := (dC, dI)) (ci := 1) (v := .ref h1) (C := RX1) (T := TX1) (N := 7) hx hb hts in_X1 hown hK hP 0 rfl rfl 0 (by decide) q_1 (fun _ h9 => h9) rfl dX1_highestThrow_14 ?_
        refine lv_iload_n hx hb dX1_highestThrow_17 rfl (lv_at hl 0 rfl) ?_
        refine vp_callSi (va_Run.run (va_runSN (As := [.ref h1, .int (nI k)]) (rest := [.int v1_4]) ⟨hx, hb, hml, hown, hts⟩ (c_X3_cell l dC dI cI cR h1 8 ρ.1 (by decide) (nI k)) ⟨va_cnB 2 hts gX1_highestThrow_X3_cell_n52 rfl rfl rfl (hE.2 (.methodLinkNest RX1 52 yX3_cell "Cascadecourt") (by decide +kernel)) q_2 (by decide +kernel) ⟨Nat.le_of_ble_eq_true rfl, Nat.le_of_ble_eq_true rfl⟩, q_3, trivial⟩ ⟨fun a U g mk q => by obtain ⟨q0, qP, qE⟩ := q; exact ⟨q0, qP, cE.same (s := U) rfl qE⟩, fun U hU hW => ⟨rfl, by rw [hU]; exact hP.sub (ws' := [(h1, .inl (cI, 8, .inl ρ.1))]) [1] rfl, hE.warm hW⟩⟩ rfl rfl hl.1 rfl (lv_room (Nat.le_of_ble_eq_true rfl)) dX1_highestThrow_18 ⟨Nat.zero_le _, Nat.zero_le _⟩)) (fun r_18 h_18 => ?_)
        subst h_18
        refine va_mmax hx hb (hml.trans hl.1.symm) hown q_4 q_5 q_6 q_7 (Nat.le_of_ble_eq_true rfl) (Nat.le_of_ble_eq_true rfl) (Nat.zero_le _) (Nat.zero_le _) dX1_highestThrow_21 ?_
        refine lv_istore_n (lv' := [(1, .int (if v1_4 < (S_X3_cell 8 ρ.1 (nI k)) then (S_X3_cell 8 ρ.1 (nI k)) else v1_4)), (2, .int (nI k)), (0, .ref h)]) hx hb dX1_highestThrow_24 rfl hl (by decide) rfl (fun ls hl => ?_)
        refine lv_iinc (v := nI (k + 1)) (lv' := [(2, .int (nI (k + 1))), (1, .int (if v1_4 < (S_X3_cell 8 ρ.1 (nI k)) then (S_X3_cell 8 ρ.1 (nI k)) else v1_4)), (0, .ref h)]) hx hb dX1_highestThrow_25 hl (k := 1) rfl ((nI_succ _).symm) (by decide) rfl (fun ls hl => ?_)
        refine lv_goto (tgt := 4) hx hb dX1_highestThrow_28 (by decide) ?_
        exact ih4 (k + 1) (if v1_4 < (S_X3_cell 8 ρ.1 (nI k)) then (S_X3_cell 8 ρ.1 (nI k)) else v1_4) ls (by omega) (by rw [← hG4]; simp only [G_X1_highestThrow_4]) (lv_sub hl [0, 1, 2] rfl)
  exact loop4 ρ.2.2.2.2.2.1.toNatClampNeg 0 0 ls (by omega) (by simp only [S_X1_highestThrow]) (lv_sub hl [0, 1, 2] rfl)
def G_X1_greatestTurn_4 (ρ : RS) : Nat → Nat → Int32 → Int32
  | 0, k, v1_4 => v1_4
  | mm + 1, k, v1_4 => G_X1_greatestTurn_4 ρ mm (k + 1) (if v1_4 < (S_X3_cell 8 ρ.2.2.2.1 (nI k)) then (S_X3_cell 8 ρ.2.2.2.1 (nI k)) else v1_4)
def S_X1_greatestTurn (ρ : RS) : Int32 := G_X1_greatestTurn_4 ρ ρ.2.2.2.2.2.1.toNatClampNeg 0 0
set_option maxHeartbeats 4000000 in
set_option maxRecDepth 100000 in
theorem c_X1_greatestTurn (l : Launch) (dC : Nat → ClassId) (dI : Nat → Nat → Nat) (cI cR : ClassId) (h h1 h2 h3 h4 h5 : Nat) (ρ : RS)   : Met l yX1_greatestTurn wsX1_greatestTurn ({ frames := 1, cells := 0, slots := 0, locals := 21 }) (va_Pc [.ref h] (fun U => va_P (dC, dI) vwCl (wR cI h h1 h2 h3 h4 h5 ρ) U.heap ∧ cE (dC, dI) cI cR U)) (vp_Si (fun r => r = S_X1_greatestTurn ρ)) 0 0 (fun _ => False) := by
  refine Met.ofW (cc := cX1_greatestTurn) (maxL := 3) (ret := (some .int)) (by decide) rfl ?_
  intro p e s m args below meth c s₁ B hml hv
  obtain ⟨rfl, hP, hE⟩ := hv
  have hK := hE.1
  have hx := B.exec
  have hb := B.bytes
  have hr := B.returns
  have hts := atoms_spec (ws := wsX1_greatestTurn) B.pre
  have hown : s.vm.findClass RX1 = some m.cls := findClass_of_methodNamed B.named
  have hlocks := B.notSynchronized
  have hP : va_P (dC, dI) vwCl [(h, .inr (1, [.ref h1, .ref h2, .ref h3, .ref h4, .ref h5, .int ρ.2.2.2.2.2.1, .int ρ.2.2.2.2.2.2])), (h1, .inl (cI, 8, .inl ρ.1)), (h2, .inl (cI, 8, .inl ρ.2.1)), (h3, .inl (cI, 8, .inl ρ.2.2.1)), (h4, .inl (cI, 8, .inl ρ.2.2.2.1)), (h5, .inl (cI, 8, .inl ρ.2.2.2.2.1))] s.heap := hP
  have hl := lv_entry ([.ref h]) (n := 3) (Nat.le_of_ble_eq_true rfl)
  rw [lg_entry_eq]
  generalize (lg_sl ([.ref h]) ++ List.replicate (3 - (lg_sl ([.ref h])).length) Slot.unset).toArray = ls at hl ⊢
  have hl : lv_has ls 3 [(0, .ref h)] := hl
  have q_0 := hts (.fieldLink RX1 27 "Cascadecourt$Row" "length" "I") (by decide +kernel)
  have in_X1 : ∀ w ∈ wsX10, w ∈ wsX1_greatestTurn := by decide +kernel
  have q_1 := hts (.fieldLink RX1 21 "Cascadecourt$Row" "turns" "[I") (by decide +kernel)
  have q_2 := hts (.initialized RX3) (by decide +kernel)
  have q_3 := hts (.static yX3_cell) (by decide +kernel)
  have q_4 := hts (.methodLink RX1 105 Lib.Math.max.name) (by decide +kernel)
  have q_5 := hts (.static Lib.Math.max.name) (by decide +kernel)
  have q_6 := hts (.initialized "java/lang/Math") (by decide +kernel)
  have q_7 := hts (.code Lib.Math.max.name Lib.Math.max.code 2 (some .int)) (by decide +kernel)
  refine lv_iconst (v := 0) hx hb dX1_greatestTurn_0 (by decide) ?_
  refine lv_istore_n (lv' := [(1, .int 0), (0, .ref h)]) hx hb dX1_greatestTurn_1 rfl hl (by decide) rfl (fun ls hl => ?_)
  refine lv_iconst (v := 0) hx hb dX1_greatestTurn_2 (by decide) ?_
  refine lv_istore_n (lv' := [(2, .int 0), (1, .int 0), (0, .ref h)]) hx hb dX1_greatestTurn_3 rfl hl (by decide) rfl (fun ls hl => ?_)
  have hn4 := p_clt ρ.2.2.2.2.2.1
  have loop4 : ∀ (mm k : Nat) (v1_4 : Int32) (ls : Array Slot), k + mm = ρ.2.2.2.2.2.1.toNatClampNeg → G_X1_greatestTurn_4 ρ mm k v1_4 = S_X1_greatestTurn ρ → lv_has ls 3 [(2, .int (nI k)), (1, .int v1_4), (0, .ref h)] → W p l e (headSpec wsX1_greatestTurn ({ frames := 1, cells := 0, slots := 0, locals := 21 })).room s m (([.ref h] : List Value).toArray) below meth c s.heap [] 0 0 (MQ below (vp_Si (fun r => r = S_X1_greatestTurn ρ)) (([.ref h] : List Value).toArray) s 0 0 (fun _ => False)) (F0 m 4 ls []) := by
    intro mm
    induction mm with
    | zero =>
      intro k v1_4 ls hk4 hG4 hl
      refine lv_iload_n hx hb dX1_greatestTurn_4 rfl (lv_at hl 0 rfl) ?_
      refine lv_aload_n hx hb dX1_greatestTurn_5 rfl (lv_at hl 2 rfl) ?_
      refine va_get (D := (dC, dI)) (ci := 1) (v := .int ρ.2.2.2.2.2.1) (C := RX1) (T := TX1) (N := 7) hx hb hts in_X1 hown hK hP 0 rfl rfl 5 (by decide) q_0 (fun _ h9 => h9) rfl dX1_greatestTurn_6 ?_
      refine lv_icmp_ge (tgt := 31) hx hb dX1_greatestTurn_9 (by decide) (fun c_9 => ?_) (fun c_9 => ?_)
      · refine lv_iload_n hx hb dX1_greatestTurn_31 rfl (lv_at hl 1 rfl) ?_
        exact W.iret (v := v1_4) hx hb hr (fun t ht hW => ⟨v1_4, rfl, by rw [← hG4]; simp only [G_X1_greatestTurn_4], ht⟩) (fun q h => by cases h) dX1_greatestTurn_32
      · exact absurd ((p_le (by omega)).mpr (by omega)) c_9
    | succ mm ih4 =>
      intro k v1_4 ls hk4 hG4 hl
      refine lv_iload_n hx hb dX1_greatestTurn_4 rfl (lv_at hl 0 rfl) ?_
      refine lv_aload_n hx hb dX1_greatestTurn_5 rfl (lv_at hl 2 rfl) ?_
      refine va_get (D := (dC, dI)) (ci := 1) (v := .int ρ.2.2.2.2.2.1) (C := RX1) (T := TX1) (N := 7) hx hb hts in_X1 hown hK hP 0 rfl rfl 5 (by decide) q_0 (fun _ h9 => h9) rfl dX1_greatestTurn_6 ?_
      refine lv_icmp_ge (tgt := 31) hx hb dX1_greatestTurn_9 (by decide) (fun c_9 => ?_) (fun c_9 => ?_)
      · exact absurd ((p_le (by omega)).mp c_9) (by omega)
      · refine lv_iload_n hx hb dX1_greatestTurn_12 rfl (lv_at hl 1 rfl) ?_
        refine lv_aload_n hx hb dX1_greatestTurn_13 rfl (lv_at hl 2 rfl) ?_
        refine va_get (D := (dC, dI)) (ci := 1) (v := .ref h4) (C := RX1) (T := TX1) (N := 7) hx hb hts in_X1 hown hK hP 0 rfl rfl 3 (by decide) q_1 (fun _ h9 => h9) rfl dX1_greatestTurn_14 ?_
        refine lv_iload_n hx hb dX1_greatestTurn_17 rfl (lv_at hl 0 rfl) ?_
        refine vp_callSi (va_Run.run (va_runSN (As := [.ref h4, .int (nI k)]) (rest := [.int v1_4]) ⟨hx, hb, hml, hown, hts⟩ (c_X3_cell l dC dI cI cR h4 8 ρ.2.2.2.1 (by decide) (nI k)) ⟨va_cnB 2 hts gX1_greatestTurn_X3_cell_n52 rfl rfl rfl (hE.2 (.methodLinkNest RX1 52 yX3_cell "Cascadecourt") (by decide +kernel)) q_2 (by decide +kernel) ⟨Nat.le_of_ble_eq_true rfl, Nat.le_of_ble_eq_true rfl⟩, q_3, trivial⟩ ⟨fun a U g mk q => by obtain ⟨q0, qP, qE⟩ := q; exact ⟨q0, qP, cE.same (s := U) rfl qE⟩, fun U hU hW => ⟨rfl, by rw [hU]; exact hP.sub (ws' := [(h4, .inl (cI, 8, .inl ρ.2.2.2.1))]) [4] rfl, hE.warm hW⟩⟩ rfl rfl hl.1 rfl (lv_room (Nat.le_of_ble_eq_true rfl)) dX1_greatestTurn_18 ⟨Nat.zero_le _, Nat.zero_le _⟩)) (fun r_18 h_18 => ?_)
        subst h_18
        refine va_mmax hx hb (hml.trans hl.1.symm) hown q_4 q_5 q_6 q_7 (Nat.le_of_ble_eq_true rfl) (Nat.le_of_ble_eq_true rfl) (Nat.zero_le _) (Nat.zero_le _) dX1_greatestTurn_21 ?_
        refine lv_istore_n (lv' := [(1, .int (if v1_4 < (S_X3_cell 8 ρ.2.2.2.1 (nI k)) then (S_X3_cell 8 ρ.2.2.2.1 (nI k)) else v1_4)), (2, .int (nI k)), (0, .ref h)]) hx hb dX1_greatestTurn_24 rfl hl (by decide) rfl (fun ls hl => ?_)
        refine lv_iinc (v := nI (k + 1)) (lv' := [(2, .int (nI (k + 1))), (1, .int (if v1_4 < (S_X3_cell 8 ρ.2.2.2.1 (nI k)) then (S_X3_cell 8 ρ.2.2.2.1 (nI k)) else v1_4)), (0, .ref h)]) hx hb dX1_greatestTurn_25 hl (k := 1) rfl ((nI_succ _).symm) (by decide) rfl (fun ls hl => ?_)
        refine lv_goto (tgt := 4) hx hb dX1_greatestTurn_28 (by decide) ?_
        exact ih4 (k + 1) (if v1_4 < (S_X3_cell 8 ρ.2.2.2.1 (nI k)) then (S_X3_cell 8 ρ.2.2.2.1 (nI k)) else v1_4) ls (by omega) (by rw [← hG4]; simp only [G_X1_greatestTurn_4]) (lv_sub hl [0, 1, 2] rfl)
  exact loop4 ρ.2.2.2.2.2.1.toNatClampNeg 0 0 ls (by omega) (by simp only [S_X1_greatestTurn]) (lv_sub hl [0, 1, 2] rfl)
def G_X1_oneIfPrime_12 (ρ : RS) (k : Nat) (kont : Int32) : Nat → Nat → Int32
  | 0, k2 => kont
  | mm2 + 1, k2 => (if (S_X1_stateAt ρ (nI k)) = (S_X1_stateAt ρ (nI k2)) then 0 else G_X1_oneIfPrime_12 ρ k kont mm2 (k2 + 1))
def G_X1_oneIfPrime_2 (ρ : RS) : Nat → Nat → Int32
  | 0, k => 1
  | mm + 1, k => G_X1_oneIfPrime_12 ρ k (G_X1_oneIfPrime_2 ρ mm (k + 1)) ((nI k).toNatClampNeg) 0
def S_X1_oneIfPrime (ρ : RS) : Int32 := G_X1_oneIfPrime_2 ρ ρ.2.2.2.2.2.1.toNatClampNeg 0
set_option maxHeartbeats 4000000 in
set_option maxRecDepth 100000 in
theorem c_X1_oneIfPrime (l : Launch) (dC : Nat → ClassId) (dI : Nat → Nat → Nat) (cI cR : ClassId) (h h1 h2 h3 h4 h5 : Nat) (ρ : RS)   : Met l yX1_oneIfPrime wsX1_oneIfPrime ({ frames := 2, cells := 0, slots := 0, locals := 42 }) (va_Pc [.ref h] (fun U => va_P (dC, dI) vwCl (wR cI h h1 h2 h3 h4 h5 ρ) U.heap ∧ cE (dC, dI) cI cR U)) (vp_Si (fun r => r = S_X1_oneIfPrime ρ)) 0 0 (fun _ => False) := by
  refine Met.ofW (cc := cX1_oneIfPrime) (maxL := 3) (ret := (some .int)) (by decide) rfl ?_
  intro p e s m args below meth c s₁ B hml hv
  obtain ⟨rfl, hP, hE⟩ := hv
  have hK := hE.1
  have hx := B.exec
  have hb := B.bytes
  have hr := B.returns
  have hts := atoms_spec (ws := wsX1_oneIfPrime) B.pre
  have hown : s.vm.findClass RX1 = some m.cls := findClass_of_methodNamed B.named
  have hlocks := B.notSynchronized
  have hP : va_P (dC, dI) vwCl [(h, .inr (1, [.ref h1, .ref h2, .ref h3, .ref h4, .ref h5, .int ρ.2.2.2.2.2.1, .int ρ.2.2.2.2.2.2])), (h1, .inl (cI, 8, .inl ρ.1)), (h2, .inl (cI, 8, .inl ρ.2.1)), (h3, .inl (cI, 8, .inl ρ.2.2.1)), (h4, .inl (cI, 8, .inl ρ.2.2.2.1)), (h5, .inl (cI, 8, .inl ρ.2.2.2.2.1))] s.heap := hP
  have hl := lv_entry ([.ref h]) (n := 3) (Nat.le_of_ble_eq_true rfl)
  rw [lg_entry_eq]
  generalize (lg_sl ([.ref h]) ++ List.replicate (3 - (lg_sl ([.ref h])).length) Slot.unset).toArray = ls at hl ⊢
  have hl : lv_has ls 3 [(0, .ref h)] := hl
  have q_0 := hts (.fieldLink RX1 27 "Cascadecourt$Row" "length" "I") (by decide +kernel)
  have in_X1 : ∀ w ∈ wsX10, w ∈ wsX1_oneIfPrime := by decide +kernel
  refine lv_iconst (v := 0) hx hb dX1_oneIfPrime_0 (by decide) ?_
  refine lv_istore_n (lv' := [(1, .int 0), (0, .ref h)]) hx hb dX1_oneIfPrime_1 rfl hl (by decide) rfl (fun ls hl => ?_)
  have hn2 := p_clt ρ.2.2.2.2.2.1
  have loop2 : ∀ (mm k : Nat) (ls : Array Slot), k + mm = ρ.2.2.2.2.2.1.toNatClampNeg → G_X1_oneIfPrime_2 ρ mm k = S_X1_oneIfPrime ρ → lv_has ls 3 [(1, .int (nI k)), (0, .ref h)] → W p l e (headSpec wsX1_oneIfPrime ({ frames := 2, cells := 0, slots := 0, locals := 42 })).room s m (([.ref h] : List Value).toArray) below meth c s.heap [] 0 0 (MQ below (vp_Si (fun r => r = S_X1_oneIfPrime ρ)) (([.ref h] : List Value).toArray) s 0 0 (fun _ => False)) (F0 m 2 ls []) := by
    intro mm
    induction mm with
    | zero =>
      intro k ls hk2 hG2 hl
      refine lv_iload_n hx hb dX1_oneIfPrime_2 rfl (lv_at hl 0 rfl) ?_
      refine lv_aload_n hx hb dX1_oneIfPrime_3 rfl (lv_at hl 1 rfl) ?_
      refine va_get (D := (dC, dI)) (ci := 1) (v := .int ρ.2.2.2.2.2.1) (C := RX1) (T := TX1) (N := 7) hx hb hts in_X1 hown hK hP 0 rfl rfl 5 (by decide) q_0 (fun _ h9 => h9) rfl dX1_oneIfPrime_4 ?_
      refine lv_icmp_ge (tgt := 44) hx hb dX1_oneIfPrime_7 (by decide) (fun c_7 => ?_) (fun c_7 => ?_)
      · refine lv_iconst (v := 1) hx hb dX1_oneIfPrime_44 (by decide) ?_
        exact W.iret (v := 1) hx hb hr (fun t ht hW => ⟨1, rfl, by rw [← hG2]; simp only [G_X1_oneIfPrime_2], ht⟩) (fun q h => by cases h) dX1_oneIfPrime_45
      · exact absurd ((p_le (by omega)).mpr (by omega)) c_7
    | succ mm ih2 =>
      intro k ls hk2 hG2 hl
      refine lv_iload_n hx hb dX1_oneIfPrime_2 rfl (lv_at hl 0 rfl) ?_
      refine lv_aload_n hx hb dX1_oneIfPrime_3 rfl (lv_at hl 1 rfl) ?_
      refine va_get (D := (dC, dI)) (ci := 1) (v := .int ρ.2.2.2.2.2.1) (C := RX1) (T := TX1) (N := 7) hx hb hts in_X1 hown hK hP 0 rfl rfl 5 (by decide) q_0 (fun _ h9 => h9) rfl dX1_oneIfPrime_4 ?_
      refine lv_icmp_ge (tgt := 44) hx hb dX1_oneIfPrime_7 (by decide) (fun c_7 => ?_) (fun c_7 => ?_)
      · exact absurd ((p_le (by omega)).mp c_7) (by omega)
      · refine lv_iconst (v := 0) hx hb dX1_oneIfPrime_10 (by decide) ?_
        refine lv_istore_n (lv' := [(2, .int 0), (1, .int (nI k)), (0, .ref h)]) hx hb dX1_oneIfPrime_11 rfl hl (by decide) rfl (fun ls hl => ?_)
        have hn12 := p_clt (nI k)
        have loop12 : ∀ (mm2 k2 : Nat) (ls : Array Slot), k2 + mm2 = (nI k).toNatClampNeg → G_X1_oneIfPrime_12 ρ k (G_X1_oneIfPrime_2 ρ mm (k + 1)) mm2 k2 = S_X1_oneIfPrime ρ → lv_has ls 3 [(2, .int (nI k2)), (1, .int (nI k)), (0, .ref h)] → W p l e (headSpec wsX1_oneIfPrime ({ frames := 2, cells := 0, slots := 0, locals := 42 })).room s m (([.ref h] : List Value).toArray) below meth c s.heap [] 0 0 (MQ below (vp_Si (fun r => r = S_X1_oneIfPrime ρ)) (([.ref h] : List Value).toArray) s 0 0 (fun _ => False)) (F0 m 12 ls []) := by
          intro mm2
          induction mm2 with
          | zero =>
            intro k2 ls hk12 hG12 hl
            refine lv_iload_n hx hb dX1_oneIfPrime_12 rfl (lv_at hl 0 rfl) ?_
            refine lv_iload_n hx hb dX1_oneIfPrime_13 rfl (lv_at hl 1 rfl) ?_
            refine lv_icmp_ge (tgt := 38) hx hb dX1_oneIfPrime_14 (by decide) (fun c_14 => ?_) (fun c_14 => ?_)
            · refine lv_iinc (v := nI (k + 1)) (lv' := [(1, .int (nI (k + 1))), (2, .int (nI k2)), (0, .ref h)]) hx hb dX1_oneIfPrime_38 hl (k := 1) rfl ((nI_succ _).symm) (by decide) rfl (fun ls hl => ?_)
              refine lv_goto (tgt := 2) hx hb dX1_oneIfPrime_41 (by decide) ?_
              exact ih2 (k + 1) ls (by omega) (by rw [← hG12]; simp only [G_X1_oneIfPrime_12]) (lv_sub hl [0, 2] rfl)
            · exact absurd ((p_le (by omega)).mpr (by omega)) c_14
          | succ mm2 ih12 =>
            intro k2 ls hk12 hG12 hl
            refine lv_iload_n hx hb dX1_oneIfPrime_12 rfl (lv_at hl 0 rfl) ?_
            refine lv_iload_n hx hb dX1_oneIfPrime_13 rfl (lv_at hl 1 rfl) ?_
            refine lv_icmp_ge (tgt := 38) hx hb dX1_oneIfPrime_14 (by decide) (fun c_14 => ?_) (fun c_14 => ?_)
            · exact absurd ((p_le (by omega)).mp c_14) (by omega)
            · refine lv_aload_n hx hb dX1_oneIfPrime_17 rfl (lv_at hl 2 rfl) ?_
              refine lv_iload_n hx hb dX1_oneIfPrime_18 rfl (lv_at hl 1 rfl) ?_
              refine vp_callSi (va_Run.run (va_runV (As := [.int (nI k)]) (rest := []) ⟨hx, hb, hml, hown, hts⟩ (c_X1_stateAt l dC dI cI cR h h1 h2 h3 h4 h5 ρ (nI k)) (cwV 1 hts gX1_oneIfPrime_X1_stateAt rfl rfl rfl (by decide +kernel) ⟨Nat.le_of_ble_eq_true rfl, Nat.le_of_ble_eq_true rfl⟩) ⟨fun a U g mk q => by obtain ⟨q0, qP, qE⟩ := q; exact ⟨q0, qP, cE.same (s := U) rfl qE⟩, va_recv hK hP (ci := 1) (q0 := 0) rfl rfl, fun U hU hW => ⟨rfl, by rw [hU]; exact hP.sub (ws' := (wR cI h h1 h2 h3 h4 h5 ρ)) [0, 1, 2, 3, 4, 5] rfl, hE.warm hW⟩⟩ rfl rfl hl.1 rfl (lv_room (Nat.le_of_ble_eq_true rfl)) dX1_oneIfPrime_19 ⟨Nat.zero_le _, Nat.zero_le _⟩)) (fun r_19 h_19 => ?_)
              subst h_19
              refine lv_aload_n hx hb dX1_oneIfPrime_22 rfl (lv_at hl 2 rfl) ?_
              refine lv_iload_n hx hb dX1_oneIfPrime_23 rfl (lv_at hl 0 rfl) ?_
              refine vp_callSi (va_Run.run (va_runV (As := [.int (nI k2)]) (rest := [.int (S_X1_stateAt ρ (nI k))]) ⟨hx, hb, hml, hown, hts⟩ (c_X1_stateAt l dC dI cI cR h h1 h2 h3 h4 h5 ρ (nI k2)) (cwV 1 hts gX1_oneIfPrime_X1_stateAt rfl rfl rfl (by decide +kernel) ⟨Nat.le_of_ble_eq_true rfl, Nat.le_of_ble_eq_true rfl⟩) ⟨fun a U g mk q => by obtain ⟨q0, qP, qE⟩ := q; exact ⟨q0, qP, cE.same (s := U) rfl qE⟩, va_recv hK hP (ci := 1) (q0 := 0) rfl rfl, fun U hU hW => ⟨rfl, by rw [hU]; exact hP.sub (ws' := (wR cI h h1 h2 h3 h4 h5 ρ)) [0, 1, 2, 3, 4, 5] rfl, hE.warm hW⟩⟩ rfl rfl hl.1 rfl (lv_room (Nat.le_of_ble_eq_true rfl)) dX1_oneIfPrime_24 ⟨Nat.zero_le _, Nat.zero_le _⟩)) (fun r_24 h_24 => ?_)
              subst h_24
              refine lv_icmp_ne (tgt := 32) hx hb dX1_oneIfPrime_27 (by decide) (fun c_27 => ?_) (fun c_27 => ?_)
              · refine lv_iinc (v := nI (k2 + 1)) (lv' := [(2, .int (nI (k2 + 1))), (1, .int (nI k)), (0, .ref h)]) hx hb dX1_oneIfPrime_32 hl (k := 0) rfl ((nI_succ _).symm) (by decide) rfl (fun ls hl => ?_)
                refine lv_goto (tgt := 12) hx hb dX1_oneIfPrime_35 (by decide) ?_
                exact ih12 (k2 + 1) ls (by omega) (by rw [← hG12]; simp only [G_X1_oneIfPrime_12, if_neg c_27]) (lv_sub hl [0, 1, 2] rfl)
              · refine lv_iconst (v := 0) hx hb dX1_oneIfPrime_30 (by decide) ?_
                exact W.iret (v := 0) hx hb hr (fun t ht hW => ⟨0, rfl, by rw [← hG12]; simp only [G_X1_oneIfPrime_12, if_pos c_27], ht⟩) (fun q h => by cases h) dX1_oneIfPrime_31
        exact loop12 ((nI k).toNatClampNeg) 0 ls (by omega) (by rw [← hG2]; simp only [G_X1_oneIfPrime_2]) (lv_sub hl [0, 1, 2] rfl)
  exact loop2 ρ.2.2.2.2.2.1.toNatClampNeg 0 ls (by omega) (by simp only [S_X1_oneIfPrime]) (lv_sub hl [0, 1] rfl)
def G_X1_oneIfGround_11 (ρ : RS) : Nat → Nat → Int32
  | 0, k => 0
  | mm + 1, k => (if (S_X1_stateAt ρ (nI k)) = ((1 <<< ((S_X1_props ρ) &&& 31)) - 1) then 1 else G_X1_oneIfGround_11 ρ mm (k + 1))
def S_X1_oneIfGround (ρ : RS) : Int32 := G_X1_oneIfGround_11 ρ ρ.2.2.2.2.2.1.toNatClampNeg 0
set_option maxHeartbeats 4000000 in
set_option maxRecDepth 100000 in
theorem c_X1_oneIfGround (l : Launch) (dC : Nat → ClassId) (dI : Nat → Nat → Nat) (cI cR : ClassId) (h h1 h2 h3 h4 h5 : Nat) (ρ : RS)   : Met l yX1_oneIfGround wsX1_oneIfGround ({ frames := 3, cells := 0, slots := 0, locals := 63 }) (va_Pc [.ref h] (fun U => va_P (dC, dI) vwCl (wR cI h h1 h2 h3 h4 h5 ρ) U.heap ∧ cE (dC, dI) cI cR U)) (vp_Si (fun r => r = S_X1_oneIfGround ρ)) 0 0 (fun _ => False) := by
  refine Met.ofW (cc := cX1_oneIfGround) (maxL := 3) (ret := (some .int)) (by decide) rfl ?_
  intro p e s m args below meth c s₁ B hml hv
  obtain ⟨rfl, hP, hE⟩ := hv
  have hK := hE.1
  have hx := B.exec
  have hb := B.bytes
  have hr := B.returns
  have hts := atoms_spec (ws := wsX1_oneIfGround) B.pre
  have hown : s.vm.findClass RX1 = some m.cls := findClass_of_methodNamed B.named
  have hlocks := B.notSynchronized
  have hP : va_P (dC, dI) vwCl [(h, .inr (1, [.ref h1, .ref h2, .ref h3, .ref h4, .ref h5, .int ρ.2.2.2.2.2.1, .int ρ.2.2.2.2.2.2])), (h1, .inl (cI, 8, .inl ρ.1)), (h2, .inl (cI, 8, .inl ρ.2.1)), (h3, .inl (cI, 8, .inl ρ.2.2.1)), (h4, .inl (cI, 8, .inl ρ.2.2.2.1)), (h5, .inl (cI, 8, .inl ρ.2.2.2.2.1))] s.heap := hP
  have hl := lv_entry ([.ref h]) (n := 3) (Nat.le_of_ble_eq_true rfl)
  rw [lg_entry_eq]
  generalize (lg_sl ([.ref h]) ++ List.replicate (3 - (lg_sl ([.ref h])).length) Slot.unset).toArray = ls at hl ⊢
  have hl : lv_has ls 3 [(0, .ref h)] := hl
  have q_0 := hts (.fieldLink RX1 27 "Cascadecourt$Row" "length" "I") (by decide +kernel)
  have in_X1 : ∀ w ∈ wsX10, w ∈ wsX1_oneIfGround := by decide +kernel
  refine lv_iconst (v := 1) hx hb dX1_oneIfGround_0 (by decide) ?_
  refine lv_aload_n hx hb dX1_oneIfGround_1 rfl (lv_at hl 0 rfl) ?_
  refine vp_callSi (va_Run.run (va_runV (As := []) (rest := [.int 1]) ⟨hx, hb, hml, hown, hts⟩ (c_X1_props l dC dI cI cR h h1 h2 h3 h4 h5 ρ) (cwV 0 hts gX1_oneIfGround_X1_props rfl rfl rfl (by decide +kernel) ⟨Nat.le_of_ble_eq_true rfl, Nat.le_of_ble_eq_true rfl⟩) ⟨fun a U g mk q => by obtain ⟨q0, qP, qE⟩ := q; exact ⟨q0, qP, cE.same (s := U) rfl qE⟩, va_recv hK hP (ci := 1) (q0 := 0) rfl rfl, fun U hU hW => ⟨rfl, by rw [hU]; exact hP.sub (ws' := (wR cI h h1 h2 h3 h4 h5 ρ)) [0, 1, 2, 3, 4, 5] rfl, hE.warm hW⟩⟩ rfl rfl hl.1 rfl (lv_room (Nat.le_of_ble_eq_true rfl)) dX1_oneIfGround_2 ⟨Nat.zero_le _, Nat.zero_le _⟩)) (fun r_2 h_2 => ?_)
  subst h_2
  refine lv_ishl hx hb dX1_oneIfGround_5 ?_
  refine lv_iconst (v := 1) hx hb dX1_oneIfGround_6 (by decide) ?_
  refine lv_isub hx hb dX1_oneIfGround_7 ?_
  refine lv_istore_n (lv' := [(1, .int ((1 <<< ((S_X1_props ρ) &&& 31)) - 1)), (0, .ref h)]) hx hb dX1_oneIfGround_8 rfl hl (by decide) rfl (fun ls hl => ?_)
  refine lv_iconst (v := 0) hx hb dX1_oneIfGround_9 (by decide) ?_
  refine lv_istore_n (lv' := [(2, .int 0), (1, .int ((1 <<< ((S_X1_props ρ) &&& 31)) - 1)), (0, .ref h)]) hx hb dX1_oneIfGround_10 rfl hl (by decide) rfl (fun ls hl => ?_)
  have hn11 := p_clt ρ.2.2.2.2.2.1
  have loop11 : ∀ (mm k : Nat) (ls : Array Slot), k + mm = ρ.2.2.2.2.2.1.toNatClampNeg → G_X1_oneIfGround_11 ρ mm k = S_X1_oneIfGround ρ → lv_has ls 3 [(2, .int (nI k)), (1, .int ((1 <<< ((S_X1_props ρ) &&& 31)) - 1)), (0, .ref h)] → W p l e (headSpec wsX1_oneIfGround ({ frames := 3, cells := 0, slots := 0, locals := 63 })).room s m (([.ref h] : List Value).toArray) below meth c s.heap [] 0 0 (MQ below (vp_Si (fun r => r = S_X1_oneIfGround ρ)) (([.ref h] : List Value).toArray) s 0 0 (fun _ => False)) (F0 m 11 ls []) := by
    intro mm
    induction mm with
    | zero =>
      intro k ls hk11 hG11 hl
      refine lv_iload_n hx hb dX1_oneIfGround_11 rfl (lv_at hl 0 rfl) ?_
      refine lv_aload_n hx hb dX1_oneIfGround_12 rfl (lv_at hl 2 rfl) ?_
      refine va_get (D := (dC, dI)) (ci := 1) (v := .int ρ.2.2.2.2.2.1) (C := RX1) (T := TX1) (N := 7) hx hb hts in_X1 hown hK hP 0 rfl rfl 5 (by decide) q_0 (fun _ h9 => h9) rfl dX1_oneIfGround_13 ?_
      refine lv_icmp_ge (tgt := 36) hx hb dX1_oneIfGround_16 (by decide) (fun c_16 => ?_) (fun c_16 => ?_)
      · refine lv_iconst (v := 0) hx hb dX1_oneIfGround_36 (by decide) ?_
        exact W.iret (v := 0) hx hb hr (fun t ht hW => ⟨0, rfl, by rw [← hG11]; simp only [G_X1_oneIfGround_11], ht⟩) (fun q h => by cases h) dX1_oneIfGround_37
      · exact absurd ((p_le (by omega)).mpr (by omega)) c_16
    | succ mm ih11 =>
      intro k ls hk11 hG11 hl
      refine lv_iload_n hx hb dX1_oneIfGround_11 rfl (lv_at hl 0 rfl) ?_
      refine lv_aload_n hx hb dX1_oneIfGround_12 rfl (lv_at hl 2 rfl) ?_
      refine va_get (D := (dC, dI)) (ci := 1) (v := .int ρ.2.2.2.2.2.1) (C := RX1) (T := TX1) (N := 7) hx hb hts in_X1 hown hK hP 0 rfl rfl 5 (by decide) q_0 (fun _ h9 => h9) rfl dX1_oneIfGround_13 ?_
      refine lv_icmp_ge (tgt := 36) hx hb dX1_oneIfGround_16 (by decide) (fun c_16 => ?_) (fun c_16 => ?_)
      · exact absurd ((p_le (by omega)).mp c_16) (by omega)
      · refine lv_aload_n hx hb dX1_oneIfGround_19 rfl (lv_at hl 2 rfl) ?_
        refine lv_iload_n hx hb dX1_oneIfGround_20 rfl (lv_at hl 0 rfl) ?_
        refine vp_callSi (va_Run.run (va_runV (As := [.int (nI k)]) (rest := []) ⟨hx, hb, hml, hown, hts⟩ (c_X1_stateAt l dC dI cI cR h h1 h2 h3 h4 h5 ρ (nI k)) (cwV 1 hts gX1_oneIfGround_X1_stateAt rfl rfl rfl (by decide +kernel) ⟨Nat.le_of_ble_eq_true rfl, Nat.le_of_ble_eq_true rfl⟩) ⟨fun a U g mk q => by obtain ⟨q0, qP, qE⟩ := q; exact ⟨q0, qP, cE.same (s := U) rfl qE⟩, va_recv hK hP (ci := 1) (q0 := 0) rfl rfl, fun U hU hW => ⟨rfl, by rw [hU]; exact hP.sub (ws' := (wR cI h h1 h2 h3 h4 h5 ρ)) [0, 1, 2, 3, 4, 5] rfl, hE.warm hW⟩⟩ rfl rfl hl.1 rfl (lv_room (Nat.le_of_ble_eq_true rfl)) dX1_oneIfGround_21 ⟨Nat.zero_le _, Nat.zero_le _⟩)) (fun r_21 h_21 => ?_)
        subst h_21
        refine lv_iload_n hx hb dX1_oneIfGround_24 rfl (lv_at hl 1 rfl) ?_
        refine lv_icmp_ne (tgt := 30) hx hb dX1_oneIfGround_25 (by decide) (fun c_25 => ?_) (fun c_25 => ?_)
        · refine lv_iinc (v := nI (k + 1)) (lv' := [(2, .int (nI (k + 1))), (1, .int ((1 <<< ((S_X1_props ρ) &&& 31)) - 1)), (0, .ref h)]) hx hb dX1_oneIfGround_30 hl (k := 0) rfl ((nI_succ _).symm) (by decide) rfl (fun ls hl => ?_)
          refine lv_goto (tgt := 11) hx hb dX1_oneIfGround_33 (by decide) ?_
          exact ih11 (k + 1) ls (by omega) (by rw [← hG11]; simp only [G_X1_oneIfGround_11, if_neg c_25]) (lv_sub hl [0, 1, 2] rfl)
        · refine lv_iconst (v := 1) hx hb dX1_oneIfGround_28 (by decide) ?_
          exact W.iret (v := 1) hx hb hr (fun t ht hW => ⟨1, rfl, by rw [← hG11]; simp only [G_X1_oneIfGround_11, if_pos c_25], ht⟩) (fun q h => by cases h) dX1_oneIfGround_29
  exact loop11 ρ.2.2.2.2.2.1.toNatClampNeg 0 ls (by omega) (by simp only [S_X1_oneIfGround]) (lv_sub hl [0, 1, 2] rfl)
def S_X1_answer (ρ : RS) (p0 : Int32) : Int32 := (if p0 = 0 then ρ.2.2.2.2.2.1 else (if p0 = 1 then (if ρ.2.2.2.2.2.2 = 0 then 0 else 1) else (if p0 = 2 then S_X1_props ρ else (if p0 = 3 then S_X1_highestThrow ρ else (if p0 = 4 then S_X1_crossingThrows ρ else (if p0 = 5 then (if ρ.2.2.2.2.2.2 = 0 then (-1) else S_X1_orbits ρ) else (if p0 = 6 then (if ρ.2.2.2.2.2.2 = 0 then (-1) else S_X1_oneIfPrime ρ) else (if p0 = 7 then (if ρ.2.2.2.2.2.2 = 0 then (-1) else S_X1_oneIfGround ρ) else (if p0 = 8 then S_X1_period ρ else (if ρ.2.2.2.2.2.2 = 0 then (-1) else S_X1_greatestTurn ρ))))))))))
set_option maxHeartbeats 4000000 in
set_option maxRecDepth 100000 in
theorem c_X1_answer (l : Launch) (dC : Nat → ClassId) (dI : Nat → Nat → Nat) (cI cR : ClassId) (h h1 h2 h3 h4 h5 : Nat) (ρ : RS) (p0 : Int32) (hL : 1 ≤ ρ.2.2.2.2.2.1.toNatClampNeg) : Met l yX1_answer wsX1_answer ({ frames := 5, cells := 0, slots := 0, locals := 108 }) (va_Pc [.ref h, .int p0] (fun U => va_P (dC, dI) vwCl (wR cI h h1 h2 h3 h4 h5 ρ) U.heap ∧ cE (dC, dI) cI cR U)) (vp_Si (fun r => r = S_X1_answer ρ p0)) 0 0 (fun _ => False) := by
  refine Met.ofW (cc := cX1_answer) (maxL := 2) (ret := (some .int)) (by decide) rfl ?_
  intro p e s m args below meth c s₁ B hml hv
  obtain ⟨rfl, hP, hE⟩ := hv
  have hK := hE.1
  have hx := B.exec
  have hb := B.bytes
  have hr := B.returns
  have hts := atoms_spec (ws := wsX1_answer) B.pre
  have hown : s.vm.findClass RX1 = some m.cls := findClass_of_methodNamed B.named
  have hlocks := B.notSynchronized
  have hP : va_P (dC, dI) vwCl [(h, .inr (1, [.ref h1, .ref h2, .ref h3, .ref h4, .ref h5, .int ρ.2.2.2.2.2.1, .int ρ.2.2.2.2.2.2])), (h1, .inl (cI, 8, .inl ρ.1)), (h2, .inl (cI, 8, .inl ρ.2.1)), (h3, .inl (cI, 8, .inl ρ.2.2.1)), (h4, .inl (cI, 8, .inl ρ.2.2.2.1)), (h5, .inl (cI, 8, .inl ρ.2.2.2.2.1))] s.heap := hP
  have hl := lv_entry ([.ref h, .int p0]) (n := 2) (Nat.le_of_ble_eq_true rfl)
  rw [lg_entry_eq]
  generalize (lg_sl ([.ref h, .int p0]) ++ List.replicate (2 - (lg_sl ([.ref h, .int p0])).length) Slot.unset).toArray = ls at hl ⊢
  have hl : lv_has ls 2 [(0, .ref h), (1, .int p0)] := hl
  have q_0 := hts (.fieldLink RX1 27 "Cascadecourt$Row" "length" "I") (by decide +kernel)
  have in_X1 : ∀ w ∈ wsX10, w ∈ wsX1_answer := by decide +kernel
  have q_1 := hts (.fieldLink RX1 38 "Cascadecourt$Row" "sound" "Z") (by decide +kernel)
  refine lv_iload_n hx hb dX1_answer_0 rfl (lv_at hl 1 rfl) ?_
  by_cases k_1_0 : p0 = 0
  · refine lv_tableIn (off := 51) (tgt := 52) hx hb dX1_answer_1 (by rw [k_1_0]; decide) (by rw [k_1_0]; decide) (by rw [k_1_0]; rfl) (by decide) ?_
    refine lv_aload_n hx hb dX1_answer_52 rfl (lv_at hl 0 rfl) ?_
    refine va_get (D := (dC, dI)) (ci := 1) (v := .int ρ.2.2.2.2.2.1) (C := RX1) (T := TX1) (N := 7) hx hb hts in_X1 hown hK hP 0 rfl rfl 5 (by decide) q_0 (fun _ h9 => h9) rfl dX1_answer_53 ?_
    exact W.iret (v := ρ.2.2.2.2.2.1) hx hb hr (fun t ht hW => ⟨ρ.2.2.2.2.2.1, rfl, by simp only [S_X1_answer, if_pos k_1_0], ht⟩) (fun q h => by cases h) dX1_answer_56
  by_cases k_1_1 : p0 = 1
  · refine lv_tableIn (off := 56) (tgt := 57) hx hb dX1_answer_1 (by rw [k_1_1]; decide) (by rw [k_1_1]; decide) (by rw [k_1_1]; rfl) (by decide) ?_
    refine lv_aload_n hx hb dX1_answer_57 rfl (lv_at hl 0 rfl) ?_
    refine va_get (D := (dC, dI)) (ci := 1) (v := .int ρ.2.2.2.2.2.2) (C := RX1) (T := TX1) (N := 7) hx hb hts in_X1 hown hK hP 0 rfl rfl 6 (by decide) q_1 (fun _ h9 => h9) rfl dX1_answer_58 ?_
    refine lv_if_eq (tgt := 68) hx hb dX1_answer_61 (by decide) (fun c_61 => ?_) (fun c_61 => ?_)
    · refine lv_iconst (v := 0) hx hb dX1_answer_68 (by decide) ?_
      exact W.iret (v := 0) hx hb hr (fun t ht hW => ⟨0, rfl, by simp only [S_X1_answer, if_neg k_1_0, if_pos k_1_1, if_pos c_61], ht⟩) (fun q h => by cases h) dX1_answer_69
    · refine lv_iconst (v := 1) hx hb dX1_answer_64 (by decide) ?_
      refine lv_goto (tgt := 69) hx hb dX1_answer_65 (by decide) ?_
      exact W.iret (v := 1) hx hb hr (fun t ht hW => ⟨1, rfl, by simp only [S_X1_answer, if_neg k_1_0, if_pos k_1_1, if_neg c_61], ht⟩) (fun q h => by cases h) dX1_answer_69
  by_cases k_1_2 : p0 = 2
  · refine lv_tableIn (off := 69) (tgt := 70) hx hb dX1_answer_1 (by rw [k_1_2]; decide) (by rw [k_1_2]; decide) (by rw [k_1_2]; rfl) (by decide) ?_
    refine lv_aload_n hx hb dX1_answer_70 rfl (lv_at hl 0 rfl) ?_
    refine vp_callSi (va_Run.run (va_runV (As := []) (rest := []) ⟨hx, hb, hml, hown, hts⟩ (c_X1_props l dC dI cI cR h h1 h2 h3 h4 h5 ρ) (cwV 0 hts gX1_answer_X1_props rfl rfl rfl (by decide +kernel) ⟨Nat.le_of_ble_eq_true rfl, Nat.le_of_ble_eq_true rfl⟩) ⟨fun a U g mk q => by obtain ⟨q0, qP, qE⟩ := q; exact ⟨q0, qP, cE.same (s := U) rfl qE⟩, va_recv hK hP (ci := 1) (q0 := 0) rfl rfl, fun U hU hW => ⟨rfl, by rw [hU]; exact hP.sub (ws' := (wR cI h h1 h2 h3 h4 h5 ρ)) [0, 1, 2, 3, 4, 5] rfl, hE.warm hW⟩⟩ rfl rfl hl.1 rfl (lv_room (Nat.le_of_ble_eq_true rfl)) dX1_answer_71 ⟨Nat.zero_le _, Nat.zero_le _⟩)) (fun r_71 h_71 => ?_)
    subst h_71
    exact W.iret (v := (S_X1_props ρ)) hx hb hr (fun t ht hW => ⟨(S_X1_props ρ), rfl, by simp only [S_X1_answer, if_neg k_1_0, if_neg k_1_1, if_pos k_1_2], ht⟩) (fun q h => by cases h) dX1_answer_74
  by_cases k_1_3 : p0 = 3
  · refine lv_tableIn (off := 74) (tgt := 75) hx hb dX1_answer_1 (by rw [k_1_3]; decide) (by rw [k_1_3]; decide) (by rw [k_1_3]; rfl) (by decide) ?_
    refine lv_aload_n hx hb dX1_answer_75 rfl (lv_at hl 0 rfl) ?_
    refine vp_callSi (va_Run.run (va_runV (As := []) (rest := []) ⟨hx, hb, hml, hown, hts⟩ (c_X1_highestThrow l dC dI cI cR h h1 h2 h3 h4 h5 ρ) (cwV 0 hts gX1_answer_X1_highestThrow rfl rfl rfl (by decide +kernel) ⟨Nat.le_of_ble_eq_true rfl, Nat.le_of_ble_eq_true rfl⟩) ⟨fun a U g mk q => by obtain ⟨q0, qP, qE⟩ := q; exact ⟨q0, qP, cE.same (s := U) rfl qE⟩, va_recv hK hP (ci := 1) (q0 := 0) rfl rfl, fun U hU hW => ⟨rfl, by rw [hU]; exact hP.sub (ws' := (wR cI h h1 h2 h3 h4 h5 ρ)) [0, 1, 2, 3, 4, 5] rfl, hE.warm hW⟩⟩ rfl rfl hl.1 rfl (lv_room (Nat.le_of_ble_eq_true rfl)) dX1_answer_76 ⟨Nat.zero_le _, Nat.zero_le _⟩)) (fun r_76 h_76 => ?_)
    subst h_76
    exact W.iret (v := (S_X1_highestThrow ρ)) hx hb hr (fun t ht hW => ⟨(S_X1_highestThrow ρ), rfl, by simp only [S_X1_answer, if_neg k_1_0, if_neg k_1_1, if_neg k_1_2, if_pos k_1_3], ht⟩) (fun q h => by cases h) dX1_answer_79
  by_cases k_1_4 : p0 = 4
  · refine lv_tableIn (off := 79) (tgt := 80) hx hb dX1_answer_1 (by rw [k_1_4]; decide) (by rw [k_1_4]; decide) (by rw [k_1_4]; rfl) (by decide) ?_
    refine lv_aload_n hx hb dX1_answer_80 rfl (lv_at hl 0 rfl) ?_
    refine vp_callSi (va_Run.run (va_runV (As := []) (rest := []) ⟨hx, hb, hml, hown, hts⟩ (c_X1_crossingThrows l dC dI cI cR h h1 h2 h3 h4 h5 ρ) (cwV 0 hts gX1_answer_X1_crossingThrows rfl rfl rfl (by decide +kernel) ⟨Nat.le_of_ble_eq_true rfl, Nat.le_of_ble_eq_true rfl⟩) ⟨fun a U g mk q => by obtain ⟨q0, qP, qE⟩ := q; exact ⟨q0, qP, cE.same (s := U) rfl qE⟩, va_recv hK hP (ci := 1) (q0 := 0) rfl rfl, fun U hU hW => ⟨rfl, by rw [hU]; exact hP.sub (ws' := (wR cI h h1 h2 h3 h4 h5 ρ)) [0, 1, 2, 3, 4, 5] rfl, hE.warm hW⟩⟩ rfl rfl hl.1 rfl (lv_room (Nat.le_of_ble_eq_true rfl)) dX1_answer_81 ⟨Nat.zero_le _, Nat.zero_le _⟩)) (fun r_81 h_81 => ?_)
    subst h_81
    exact W.iret (v := (S_X1_crossingThrows ρ)) hx hb hr (fun t ht hW => ⟨(S_X1_crossingThrows ρ), rfl, by simp only [S_X1_answer, if_neg k_1_0, if_neg k_1_1, if_neg k_1_2, if_neg k_1_3, if_pos k_1_4], ht⟩) (fun q h => by cases h) dX1_answer_84
  by_cases k_1_5 : p0 = 5
  · refine lv_tableIn (off := 84) (tgt := 85) hx hb dX1_answer_1 (by rw [k_1_5]; decide) (by rw [k_1_5]; decide) (by rw [k_1_5]; rfl) (by decide) ?_
    refine lv_aload_n hx hb dX1_answer_85 rfl (lv_at hl 0 rfl) ?_
    refine va_get (D := (dC, dI)) (ci := 1) (v := .int ρ.2.2.2.2.2.2) (C := RX1) (T := TX1) (N := 7) hx hb hts in_X1 hown hK hP 0 rfl rfl 6 (by decide) q_1 (fun _ h9 => h9) rfl dX1_answer_86 ?_
    refine lv_if_eq (tgt := 99) hx hb dX1_answer_89 (by decide) (fun c_89 => ?_) (fun c_89 => ?_)
    · refine lv_iconst (v := (-1)) hx hb dX1_answer_99 (by decide) ?_
      exact W.iret (v := (-1)) hx hb hr (fun t ht hW => ⟨(-1), rfl, by simp only [S_X1_answer, if_neg k_1_0, if_neg k_1_1, if_neg k_1_2, if_neg k_1_3, if_neg k_1_4, if_pos k_1_5, if_pos c_89], ht⟩) (fun q h => by cases h) dX1_answer_100
    · refine lv_aload_n hx hb dX1_answer_92 rfl (lv_at hl 0 rfl) ?_
      refine vp_callSi (va_Run.run (va_runV (As := []) (rest := []) ⟨hx, hb, hml, hown, hts⟩ (c_X1_orbits l dC dI cI cR h h1 h2 h3 h4 h5 ρ) (cwV 0 hts gX1_answer_X1_orbits rfl rfl rfl (by decide +kernel) ⟨Nat.le_of_ble_eq_true rfl, Nat.le_of_ble_eq_true rfl⟩) ⟨fun a U g mk q => by obtain ⟨q0, qP, qE⟩ := q; exact ⟨q0, qP, cE.same (s := U) rfl qE⟩, va_recv hK hP (ci := 1) (q0 := 0) rfl rfl, fun U hU hW => ⟨rfl, by rw [hU]; exact hP.sub (ws' := (wR cI h h1 h2 h3 h4 h5 ρ)) [0, 1, 2, 3, 4, 5] rfl, hE.warm hW⟩⟩ rfl rfl hl.1 rfl (lv_room (Nat.le_of_ble_eq_true rfl)) dX1_answer_93 ⟨Nat.zero_le _, Nat.zero_le _⟩)) (fun r_93 h_93 => ?_)
      subst h_93
      refine lv_goto (tgt := 100) hx hb dX1_answer_96 (by decide) ?_
      exact W.iret (v := (S_X1_orbits ρ)) hx hb hr (fun t ht hW => ⟨(S_X1_orbits ρ), rfl, by simp only [S_X1_answer, if_neg k_1_0, if_neg k_1_1, if_neg k_1_2, if_neg k_1_3, if_neg k_1_4, if_pos k_1_5, if_neg c_89], ht⟩) (fun q h => by cases h) dX1_answer_100
  by_cases k_1_6 : p0 = 6
  · refine lv_tableIn (off := 100) (tgt := 101) hx hb dX1_answer_1 (by rw [k_1_6]; decide) (by rw [k_1_6]; decide) (by rw [k_1_6]; rfl) (by decide) ?_
    refine lv_aload_n hx hb dX1_answer_101 rfl (lv_at hl 0 rfl) ?_
    refine va_get (D := (dC, dI)) (ci := 1) (v := .int ρ.2.2.2.2.2.2) (C := RX1) (T := TX1) (N := 7) hx hb hts in_X1 hown hK hP 0 rfl rfl 6 (by decide) q_1 (fun _ h9 => h9) rfl dX1_answer_102 ?_
    refine lv_if_eq (tgt := 115) hx hb dX1_answer_105 (by decide) (fun c_105 => ?_) (fun c_105 => ?_)
    · refine lv_iconst (v := (-1)) hx hb dX1_answer_115 (by decide) ?_
      exact W.iret (v := (-1)) hx hb hr (fun t ht hW => ⟨(-1), rfl, by simp only [S_X1_answer, if_neg k_1_0, if_neg k_1_1, if_neg k_1_2, if_neg k_1_3, if_neg k_1_4, if_neg k_1_5, if_pos k_1_6, if_pos c_105], ht⟩) (fun q h => by cases h) dX1_answer_116
    · refine lv_aload_n hx hb dX1_answer_108 rfl (lv_at hl 0 rfl) ?_
      refine vp_callSi (va_Run.run (va_runV (As := []) (rest := []) ⟨hx, hb, hml, hown, hts⟩ (c_X1_oneIfPrime l dC dI cI cR h h1 h2 h3 h4 h5 ρ) (cwV 0 hts gX1_answer_X1_oneIfPrime rfl rfl rfl (by decide +kernel) ⟨Nat.le_of_ble_eq_true rfl, Nat.le_of_ble_eq_true rfl⟩) ⟨fun a U g mk q => by obtain ⟨q0, qP, qE⟩ := q; exact ⟨q0, qP, cE.same (s := U) rfl qE⟩, va_recv hK hP (ci := 1) (q0 := 0) rfl rfl, fun U hU hW => ⟨rfl, by rw [hU]; exact hP.sub (ws' := (wR cI h h1 h2 h3 h4 h5 ρ)) [0, 1, 2, 3, 4, 5] rfl, hE.warm hW⟩⟩ rfl rfl hl.1 rfl (lv_room (Nat.le_of_ble_eq_true rfl)) dX1_answer_109 ⟨Nat.zero_le _, Nat.zero_le _⟩)) (fun r_109 h_109 => ?_)
      subst h_109
      refine lv_goto (tgt := 116) hx hb dX1_answer_112 (by decide) ?_
      exact W.iret (v := (S_X1_oneIfPrime ρ)) hx hb hr (fun t ht hW => ⟨(S_X1_oneIfPrime ρ), rfl, by simp only [S_X1_answer, if_neg k_1_0, if_neg k_1_1, if_neg k_1_2, if_neg k_1_3, if_neg k_1_4, if_neg k_1_5, if_pos k_1_6, if_neg c_105], ht⟩) (fun q h => by cases h) dX1_answer_116
  by_cases k_1_7 : p0 = 7
  · refine lv_tableIn (off := 116) (tgt := 117) hx hb dX1_answer_1 (by rw [k_1_7]; decide) (by rw [k_1_7]; decide) (by rw [k_1_7]; rfl) (by decide) ?_
    refine lv_aload_n hx hb dX1_answer_117 rfl (lv_at hl 0 rfl) ?_
    refine va_get (D := (dC, dI)) (ci := 1) (v := .int ρ.2.2.2.2.2.2) (C := RX1) (T := TX1) (N := 7) hx hb hts in_X1 hown hK hP 0 rfl rfl 6 (by decide) q_1 (fun _ h9 => h9) rfl dX1_answer_118 ?_
    refine lv_if_eq (tgt := 131) hx hb dX1_answer_121 (by decide) (fun c_121 => ?_) (fun c_121 => ?_)
    · refine lv_iconst (v := (-1)) hx hb dX1_answer_131 (by decide) ?_
      exact W.iret (v := (-1)) hx hb hr (fun t ht hW => ⟨(-1), rfl, by simp only [S_X1_answer, if_neg k_1_0, if_neg k_1_1, if_neg k_1_2, if_neg k_1_3, if_neg k_1_4, if_neg k_1_5, if_neg k_1_6, if_pos k_1_7, if_pos c_121], ht⟩) (fun q h => by cases h) dX1_answer_132
    · refine lv_aload_n hx hb dX1_answer_124 rfl (lv_at hl 0 rfl) ?_
      refine vp_callSi (va_Run.run (va_runV (As := []) (rest := []) ⟨hx, hb, hml, hown, hts⟩ (c_X1_oneIfGround l dC dI cI cR h h1 h2 h3 h4 h5 ρ) (cwV 0 hts gX1_answer_X1_oneIfGround rfl rfl rfl (by decide +kernel) ⟨Nat.le_of_ble_eq_true rfl, Nat.le_of_ble_eq_true rfl⟩) ⟨fun a U g mk q => by obtain ⟨q0, qP, qE⟩ := q; exact ⟨q0, qP, cE.same (s := U) rfl qE⟩, va_recv hK hP (ci := 1) (q0 := 0) rfl rfl, fun U hU hW => ⟨rfl, by rw [hU]; exact hP.sub (ws' := (wR cI h h1 h2 h3 h4 h5 ρ)) [0, 1, 2, 3, 4, 5] rfl, hE.warm hW⟩⟩ rfl rfl hl.1 rfl (lv_room (Nat.le_of_ble_eq_true rfl)) dX1_answer_125 ⟨Nat.zero_le _, Nat.zero_le _⟩)) (fun r_125 h_125 => ?_)
      subst h_125
      refine lv_goto (tgt := 132) hx hb dX1_answer_128 (by decide) ?_
      exact W.iret (v := (S_X1_oneIfGround ρ)) hx hb hr (fun t ht hW => ⟨(S_X1_oneIfGround ρ), rfl, by simp only [S_X1_answer, if_neg k_1_0, if_neg k_1_1, if_neg k_1_2, if_neg k_1_3, if_neg k_1_4, if_neg k_1_5, if_neg k_1_6, if_pos k_1_7, if_neg c_121], ht⟩) (fun q h => by cases h) dX1_answer_132
  by_cases k_1_8 : p0 = 8
  · refine lv_tableIn (off := 132) (tgt := 133) hx hb dX1_answer_1 (by rw [k_1_8]; decide) (by rw [k_1_8]; decide) (by rw [k_1_8]; rfl) (by decide) ?_
    refine lv_aload_n hx hb dX1_answer_133 rfl (lv_at hl 0 rfl) ?_
    refine vp_callSi (va_Run.run (va_runV (As := []) (rest := []) ⟨hx, hb, hml, hown, hts⟩ (c_X1_period l dC dI cI cR h h1 h2 h3 h4 h5 ρ hL) (cwV 0 hts gX1_answer_X1_period rfl rfl rfl (by decide +kernel) ⟨Nat.le_of_ble_eq_true rfl, Nat.le_of_ble_eq_true rfl⟩) ⟨fun a U g mk q => by obtain ⟨q0, qP, qE⟩ := q; exact ⟨q0, qP, cE.same (s := U) rfl qE⟩, va_recv hK hP (ci := 1) (q0 := 0) rfl rfl, fun U hU hW => ⟨rfl, by rw [hU]; exact hP.sub (ws' := (wR cI h h1 h2 h3 h4 h5 ρ)) [0, 1, 2, 3, 4, 5] rfl, hE.warm hW⟩⟩ rfl rfl hl.1 rfl (lv_room (Nat.le_of_ble_eq_true rfl)) dX1_answer_134 ⟨Nat.zero_le _, Nat.zero_le _⟩)) (fun r_134 h_134 => ?_)
    subst h_134
    exact W.iret (v := (S_X1_period ρ)) hx hb hr (fun t ht hW => ⟨(S_X1_period ρ), rfl, by simp only [S_X1_answer, if_neg k_1_0, if_neg k_1_1, if_neg k_1_2, if_neg k_1_3, if_neg k_1_4, if_neg k_1_5, if_neg k_1_6, if_neg k_1_7, if_pos k_1_8], ht⟩) (fun q h => by cases h) dX1_answer_137
  refine lv_tableOut (tgt := 138) hx hb dX1_answer_1 (p_out9 k_1_0 k_1_1 k_1_2 k_1_3 k_1_4 k_1_5 k_1_6 k_1_7 k_1_8) (by decide) ?_
  refine lv_aload_n hx hb dX1_answer_138 rfl (lv_at hl 0 rfl) ?_
  refine va_get (D := (dC, dI)) (ci := 1) (v := .int ρ.2.2.2.2.2.2) (C := RX1) (T := TX1) (N := 7) hx hb hts in_X1 hown hK hP 0 rfl rfl 6 (by decide) q_1 (fun _ h9 => h9) rfl dX1_answer_139 ?_
  refine lv_if_eq (tgt := 152) hx hb dX1_answer_142 (by decide) (fun c_142 => ?_) (fun c_142 => ?_)
  · refine lv_iconst (v := (-1)) hx hb dX1_answer_152 (by decide) ?_
    exact W.iret (v := (-1)) hx hb hr (fun t ht hW => ⟨(-1), rfl, by simp only [S_X1_answer, if_neg k_1_0, if_neg k_1_1, if_neg k_1_2, if_neg k_1_3, if_neg k_1_4, if_neg k_1_5, if_neg k_1_6, if_neg k_1_7, if_neg k_1_8, if_pos c_142], ht⟩) (fun q h => by cases h) dX1_answer_153
  · refine lv_aload_n hx hb dX1_answer_145 rfl (lv_at hl 0 rfl) ?_
    refine vp_callSi (va_Run.run (va_runV (As := []) (rest := []) ⟨hx, hb, hml, hown, hts⟩ (c_X1_greatestTurn l dC dI cI cR h h1 h2 h3 h4 h5 ρ) (cwV 0 hts gX1_answer_X1_greatestTurn rfl rfl rfl (by decide +kernel) ⟨Nat.le_of_ble_eq_true rfl, Nat.le_of_ble_eq_true rfl⟩) ⟨fun a U g mk q => by obtain ⟨q0, qP, qE⟩ := q; exact ⟨q0, qP, cE.same (s := U) rfl qE⟩, va_recv hK hP (ci := 1) (q0 := 0) rfl rfl, fun U hU hW => ⟨rfl, by rw [hU]; exact hP.sub (ws' := (wR cI h h1 h2 h3 h4 h5 ρ)) [0, 1, 2, 3, 4, 5] rfl, hE.warm hW⟩⟩ rfl rfl hl.1 rfl (lv_room (Nat.le_of_ble_eq_true rfl)) dX1_answer_146 ⟨Nat.zero_le _, Nat.zero_le _⟩)) (fun r_146 h_146 => ?_)
    subst h_146
    refine lv_goto (tgt := 153) hx hb dX1_answer_149 (by decide) ?_
    exact W.iret (v := (S_X1_greatestTurn ρ)) hx hb hr (fun t ht hW => ⟨(S_X1_greatestTurn ρ), rfl, by simp only [S_X1_answer, if_neg k_1_0, if_neg k_1_1, if_neg k_1_2, if_neg k_1_3, if_neg k_1_4, if_neg k_1_5, if_neg k_1_6, if_neg k_1_7, if_neg k_1_8, if_neg c_142], ht⟩) (fun q h => by cases h) dX1_answer_153
def S_X1_answerAt (ρ : RS) (p0 : Int32) (p1 : Int32) : Int32 := (if p1 = 0 then S_X3_cell 8 ρ.1 p0 else (if p1 = 1 then S_X3_cell 8 ρ.2.2.1 p0 else (if p1 = 2 then (if ρ.2.2.2.2.2.2 = 0 then (-1) else S_X1_stateAt ρ p0) else (if p1 = 3 then (if ρ.2.2.2.2.2.2 = 0 then (-1) else S_X3_cell 8 ρ.2.2.2.1 p0) else (if ρ.2.2.2.2.2.2 = 0 then (-1) else (if ρ.2.2.2.2.2.1 ≤ 0 then (-1) else (S_X3_cell 8 ρ.2.2.2.1 p0) / ρ.2.2.2.2.2.1))))))
set_option maxHeartbeats 4000000 in
set_option maxRecDepth 100000 in
theorem c_X1_answerAt (l : Launch) (dC : Nat → ClassId) (dI : Nat → Nat → Nat) (cI cR : ClassId) (h h1 h2 h3 h4 h5 : Nat) (ρ : RS) (p0 : Int32) (p1 : Int32)  : Met l yX1_answerAt wsX1_answerAt ({ frames := 2, cells := 0, slots := 0, locals := 42 }) (va_Pc [.ref h, .int p0, .int p1] (fun U => va_P (dC, dI) vwCl (wR cI h h1 h2 h3 h4 h5 ρ) U.heap ∧ cE (dC, dI) cI cR U)) (vp_Si (fun r => r = S_X1_answerAt ρ p0 p1)) 0 0 (fun _ => False) := by
  refine Met.ofW (cc := cX1_answerAt) (maxL := 3) (ret := (some .int)) (by decide) rfl ?_
  intro p e s m args below meth c s₁ B hml hv
  obtain ⟨rfl, hP, hE⟩ := hv
  have hK := hE.1
  have hx := B.exec
  have hb := B.bytes
  have hr := B.returns
  have hts := atoms_spec (ws := wsX1_answerAt) B.pre
  have hown : s.vm.findClass RX1 = some m.cls := findClass_of_methodNamed B.named
  have hlocks := B.notSynchronized
  have hP : va_P (dC, dI) vwCl [(h, .inr (1, [.ref h1, .ref h2, .ref h3, .ref h4, .ref h5, .int ρ.2.2.2.2.2.1, .int ρ.2.2.2.2.2.2])), (h1, .inl (cI, 8, .inl ρ.1)), (h2, .inl (cI, 8, .inl ρ.2.1)), (h3, .inl (cI, 8, .inl ρ.2.2.1)), (h4, .inl (cI, 8, .inl ρ.2.2.2.1)), (h5, .inl (cI, 8, .inl ρ.2.2.2.2.1))] s.heap := hP
  have hl := lv_entry ([.ref h, .int p0, .int p1]) (n := 3) (Nat.le_of_ble_eq_true rfl)
  rw [lg_entry_eq]
  generalize (lg_sl ([.ref h, .int p0, .int p1]) ++ List.replicate (3 - (lg_sl ([.ref h, .int p0, .int p1])).length) Slot.unset).toArray = ls at hl ⊢
  have hl : lv_has ls 3 [(0, .ref h), (1, .int p0), (2, .int p1)] := hl
  have q_0 := hts (.fieldLink RX1 9 "Cascadecourt$Row" "heights" "[I") (by decide +kernel)
  have in_X1 : ∀ w ∈ wsX10, w ∈ wsX1_answerAt := by decide +kernel
  have q_1 := hts (.initialized RX3) (by decide +kernel)
  have q_2 := hts (.static yX3_cell) (by decide +kernel)
  have q_3 := hts (.fieldLink RX1 18 "Cascadecourt$Row" "landings" "[I") (by decide +kernel)
  have q_4 := hts (.fieldLink RX1 38 "Cascadecourt$Row" "sound" "Z") (by decide +kernel)
  have q_5 := hts (.fieldLink RX1 21 "Cascadecourt$Row" "turns" "[I") (by decide +kernel)
  have q_6 := hts (.fieldLink RX1 27 "Cascadecourt$Row" "length" "I") (by decide +kernel)
  refine lv_iload_n hx hb dX1_answerAt_0 rfl (lv_at hl 2 rfl) ?_
  by_cases k_1_0 : p1 = 0
  · refine lv_tableIn (off := 31) (tgt := 32) hx hb dX1_answerAt_1 (by rw [k_1_0]; decide) (by rw [k_1_0]; decide) (by rw [k_1_0]; rfl) (by decide) ?_
    refine lv_aload_n hx hb dX1_answerAt_32 rfl (lv_at hl 0 rfl) ?_
    refine va_get (D := (dC, dI)) (ci := 1) (v := .ref h1) (C := RX1) (T := TX1) (N := 7) hx hb hts in_X1 hown hK hP 0 rfl rfl 0 (by decide) q_0 (fun _ h9 => h9) rfl dX1_answerAt_33 ?_
    refine lv_iload_n hx hb dX1_answerAt_36 rfl (lv_at hl 1 rfl) ?_
    refine vp_callSi (va_Run.run (va_runSN (As := [.ref h1, .int p0]) (rest := []) ⟨hx, hb, hml, hown, hts⟩ (c_X3_cell l dC dI cI cR h1 8 ρ.1 (by decide) p0) ⟨va_cnB 2 hts gX1_answerAt_X3_cell_n52 rfl rfl rfl (hE.2 (.methodLinkNest RX1 52 yX3_cell "Cascadecourt") (by decide +kernel)) q_1 (by decide +kernel) ⟨Nat.le_of_ble_eq_true rfl, Nat.le_of_ble_eq_true rfl⟩, q_2, trivial⟩ ⟨fun a U g mk q => by obtain ⟨q0, qP, qE⟩ := q; exact ⟨q0, qP, cE.same (s := U) rfl qE⟩, fun U hU hW => ⟨rfl, by rw [hU]; exact hP.sub (ws' := [(h1, .inl (cI, 8, .inl ρ.1))]) [1] rfl, hE.warm hW⟩⟩ rfl rfl hl.1 rfl (lv_room (Nat.le_of_ble_eq_true rfl)) dX1_answerAt_37 ⟨Nat.zero_le _, Nat.zero_le _⟩)) (fun r_37 h_37 => ?_)
    subst h_37
    exact W.iret (v := (S_X3_cell 8 ρ.1 p0)) hx hb hr (fun t ht hW => ⟨(S_X3_cell 8 ρ.1 p0), rfl, by simp only [S_X1_answerAt, if_pos k_1_0], ht⟩) (fun q h => by cases h) dX1_answerAt_40
  by_cases k_1_1 : p1 = 1
  · refine lv_tableIn (off := 40) (tgt := 41) hx hb dX1_answerAt_1 (by rw [k_1_1]; decide) (by rw [k_1_1]; decide) (by rw [k_1_1]; rfl) (by decide) ?_
    refine lv_aload_n hx hb dX1_answerAt_41 rfl (lv_at hl 0 rfl) ?_
    refine va_get (D := (dC, dI)) (ci := 1) (v := .ref h3) (C := RX1) (T := TX1) (N := 7) hx hb hts in_X1 hown hK hP 0 rfl rfl 2 (by decide) q_3 (fun _ h9 => h9) rfl dX1_answerAt_42 ?_
    refine lv_iload_n hx hb dX1_answerAt_45 rfl (lv_at hl 1 rfl) ?_
    refine vp_callSi (va_Run.run (va_runSN (As := [.ref h3, .int p0]) (rest := []) ⟨hx, hb, hml, hown, hts⟩ (c_X3_cell l dC dI cI cR h3 8 ρ.2.2.1 (by decide) p0) ⟨va_cnB 2 hts gX1_answerAt_X3_cell_n52 rfl rfl rfl (hE.2 (.methodLinkNest RX1 52 yX3_cell "Cascadecourt") (by decide +kernel)) q_1 (by decide +kernel) ⟨Nat.le_of_ble_eq_true rfl, Nat.le_of_ble_eq_true rfl⟩, q_2, trivial⟩ ⟨fun a U g mk q => by obtain ⟨q0, qP, qE⟩ := q; exact ⟨q0, qP, cE.same (s := U) rfl qE⟩, fun U hU hW => ⟨rfl, by rw [hU]; exact hP.sub (ws' := [(h3, .inl (cI, 8, .inl ρ.2.2.1))]) [3] rfl, hE.warm hW⟩⟩ rfl rfl hl.1 rfl (lv_room (Nat.le_of_ble_eq_true rfl)) dX1_answerAt_46 ⟨Nat.zero_le _, Nat.zero_le _⟩)) (fun r_46 h_46 => ?_)
    subst h_46
    exact W.iret (v := (S_X3_cell 8 ρ.2.2.1 p0)) hx hb hr (fun t ht hW => ⟨(S_X3_cell 8 ρ.2.2.1 p0), rfl, by simp only [S_X1_answerAt, if_neg k_1_0, if_pos k_1_1], ht⟩) (fun q h => by cases h) dX1_answerAt_49
  by_cases k_1_2 : p1 = 2
  · refine lv_tableIn (off := 49) (tgt := 50) hx hb dX1_answerAt_1 (by rw [k_1_2]; decide) (by rw [k_1_2]; decide) (by rw [k_1_2]; rfl) (by decide) ?_
    refine lv_aload_n hx hb dX1_answerAt_50 rfl (lv_at hl 0 rfl) ?_
    refine va_get (D := (dC, dI)) (ci := 1) (v := .int ρ.2.2.2.2.2.2) (C := RX1) (T := TX1) (N := 7) hx hb hts in_X1 hown hK hP 0 rfl rfl 6 (by decide) q_4 (fun _ h9 => h9) rfl dX1_answerAt_51 ?_
    refine lv_if_eq (tgt := 65) hx hb dX1_answerAt_54 (by decide) (fun c_54 => ?_) (fun c_54 => ?_)
    · refine lv_iconst (v := (-1)) hx hb dX1_answerAt_65 (by decide) ?_
      exact W.iret (v := (-1)) hx hb hr (fun t ht hW => ⟨(-1), rfl, by simp only [S_X1_answerAt, if_neg k_1_0, if_neg k_1_1, if_pos k_1_2, if_pos c_54], ht⟩) (fun q h => by cases h) dX1_answerAt_66
    · refine lv_aload_n hx hb dX1_answerAt_57 rfl (lv_at hl 0 rfl) ?_
      refine lv_iload_n hx hb dX1_answerAt_58 rfl (lv_at hl 1 rfl) ?_
      refine vp_callSi (va_Run.run (va_runV (As := [.int p0]) (rest := []) ⟨hx, hb, hml, hown, hts⟩ (c_X1_stateAt l dC dI cI cR h h1 h2 h3 h4 h5 ρ p0) (cwV 1 hts gX1_answerAt_X1_stateAt rfl rfl rfl (by decide +kernel) ⟨Nat.le_of_ble_eq_true rfl, Nat.le_of_ble_eq_true rfl⟩) ⟨fun a U g mk q => by obtain ⟨q0, qP, qE⟩ := q; exact ⟨q0, qP, cE.same (s := U) rfl qE⟩, va_recv hK hP (ci := 1) (q0 := 0) rfl rfl, fun U hU hW => ⟨rfl, by rw [hU]; exact hP.sub (ws' := (wR cI h h1 h2 h3 h4 h5 ρ)) [0, 1, 2, 3, 4, 5] rfl, hE.warm hW⟩⟩ rfl rfl hl.1 rfl (lv_room (Nat.le_of_ble_eq_true rfl)) dX1_answerAt_59 ⟨Nat.zero_le _, Nat.zero_le _⟩)) (fun r_59 h_59 => ?_)
      subst h_59
      refine lv_goto (tgt := 66) hx hb dX1_answerAt_62 (by decide) ?_
      exact W.iret (v := (S_X1_stateAt ρ p0)) hx hb hr (fun t ht hW => ⟨(S_X1_stateAt ρ p0), rfl, by simp only [S_X1_answerAt, if_neg k_1_0, if_neg k_1_1, if_pos k_1_2, if_neg c_54], ht⟩) (fun q h => by cases h) dX1_answerAt_66
  by_cases k_1_3 : p1 = 3
  · refine lv_tableIn (off := 66) (tgt := 67) hx hb dX1_answerAt_1 (by rw [k_1_3]; decide) (by rw [k_1_3]; decide) (by rw [k_1_3]; rfl) (by decide) ?_
    refine lv_aload_n hx hb dX1_answerAt_67 rfl (lv_at hl 0 rfl) ?_
    refine va_get (D := (dC, dI)) (ci := 1) (v := .int ρ.2.2.2.2.2.2) (C := RX1) (T := TX1) (N := 7) hx hb hts in_X1 hown hK hP 0 rfl rfl 6 (by decide) q_4 (fun _ h9 => h9) rfl dX1_answerAt_68 ?_
    refine lv_if_eq (tgt := 85) hx hb dX1_answerAt_71 (by decide) (fun c_71 => ?_) (fun c_71 => ?_)
    · refine lv_iconst (v := (-1)) hx hb dX1_answerAt_85 (by decide) ?_
      exact W.iret (v := (-1)) hx hb hr (fun t ht hW => ⟨(-1), rfl, by simp only [S_X1_answerAt, if_neg k_1_0, if_neg k_1_1, if_neg k_1_2, if_pos k_1_3, if_pos c_71], ht⟩) (fun q h => by cases h) dX1_answerAt_86
    · refine lv_aload_n hx hb dX1_answerAt_74 rfl (lv_at hl 0 rfl) ?_
      refine va_get (D := (dC, dI)) (ci := 1) (v := .ref h4) (C := RX1) (T := TX1) (N := 7) hx hb hts in_X1 hown hK hP 0 rfl rfl 3 (by decide) q_5 (fun _ h9 => h9) rfl dX1_answerAt_75 ?_
      refine lv_iload_n hx hb dX1_answerAt_78 rfl (lv_at hl 1 rfl) ?_
      refine vp_callSi (va_Run.run (va_runSN (As := [.ref h4, .int p0]) (rest := []) ⟨hx, hb, hml, hown, hts⟩ (c_X3_cell l dC dI cI cR h4 8 ρ.2.2.2.1 (by decide) p0) ⟨va_cnB 2 hts gX1_answerAt_X3_cell_n52 rfl rfl rfl (hE.2 (.methodLinkNest RX1 52 yX3_cell "Cascadecourt") (by decide +kernel)) q_1 (by decide +kernel) ⟨Nat.le_of_ble_eq_true rfl, Nat.le_of_ble_eq_true rfl⟩, q_2, trivial⟩ ⟨fun a U g mk q => by obtain ⟨q0, qP, qE⟩ := q; exact ⟨q0, qP, cE.same (s := U) rfl qE⟩, fun U hU hW => ⟨rfl, by rw [hU]; exact hP.sub (ws' := [(h4, .inl (cI, 8, .inl ρ.2.2.2.1))]) [4] rfl, hE.warm hW⟩⟩ rfl rfl hl.1 rfl (lv_room (Nat.le_of_ble_eq_true rfl)) dX1_answerAt_79 ⟨Nat.zero_le _, Nat.zero_le _⟩)) (fun r_79 h_79 => ?_)
      subst h_79
      refine lv_goto (tgt := 86) hx hb dX1_answerAt_82 (by decide) ?_
      exact W.iret (v := (S_X3_cell 8 ρ.2.2.2.1 p0)) hx hb hr (fun t ht hW => ⟨(S_X3_cell 8 ρ.2.2.2.1 p0), rfl, by simp only [S_X1_answerAt, if_neg k_1_0, if_neg k_1_1, if_neg k_1_2, if_pos k_1_3, if_neg c_71], ht⟩) (fun q h => by cases h) dX1_answerAt_86
  refine lv_tableOut (tgt := 87) hx hb dX1_answerAt_1 (p_out4 k_1_0 k_1_1 k_1_2 k_1_3) (by decide) ?_
  refine lv_aload_n hx hb dX1_answerAt_87 rfl (lv_at hl 0 rfl) ?_
  refine va_get (D := (dC, dI)) (ci := 1) (v := .int ρ.2.2.2.2.2.2) (C := RX1) (T := TX1) (N := 7) hx hb hts in_X1 hown hK hP 0 rfl rfl 6 (by decide) q_4 (fun _ h9 => h9) rfl dX1_answerAt_88 ?_
  refine lv_if_eq (tgt := 117) hx hb dX1_answerAt_91 (by decide) (fun c_91 => ?_) (fun c_91 => ?_)
  · refine lv_iconst (v := (-1)) hx hb dX1_answerAt_117 (by decide) ?_
    exact W.iret (v := (-1)) hx hb hr (fun t ht hW => ⟨(-1), rfl, by simp only [S_X1_answerAt, if_neg k_1_0, if_neg k_1_1, if_neg k_1_2, if_neg k_1_3, if_pos c_91], ht⟩) (fun q h => by cases h) dX1_answerAt_118
  · refine lv_aload_n hx hb dX1_answerAt_94 rfl (lv_at hl 0 rfl) ?_
    refine va_get (D := (dC, dI)) (ci := 1) (v := .int ρ.2.2.2.2.2.1) (C := RX1) (T := TX1) (N := 7) hx hb hts in_X1 hown hK hP 0 rfl rfl 5 (by decide) q_6 (fun _ h9 => h9) rfl dX1_answerAt_95 ?_
    refine lv_if_le (tgt := 117) hx hb dX1_answerAt_98 (by decide) (fun c_98 => ?_) (fun c_98 => ?_)
    · refine lv_iconst (v := (-1)) hx hb dX1_answerAt_117 (by decide) ?_
      exact W.iret (v := (-1)) hx hb hr (fun t ht hW => ⟨(-1), rfl, by simp only [S_X1_answerAt, if_neg k_1_0, if_neg k_1_1, if_neg k_1_2, if_neg k_1_3, if_neg c_91, if_pos c_98], ht⟩) (fun q h => by cases h) dX1_answerAt_118
    · refine lv_aload_n hx hb dX1_answerAt_101 rfl (lv_at hl 0 rfl) ?_
      refine va_get (D := (dC, dI)) (ci := 1) (v := .ref h4) (C := RX1) (T := TX1) (N := 7) hx hb hts in_X1 hown hK hP 0 rfl rfl 3 (by decide) q_5 (fun _ h9 => h9) rfl dX1_answerAt_102 ?_
      refine lv_iload_n hx hb dX1_answerAt_105 rfl (lv_at hl 1 rfl) ?_
      refine vp_callSi (va_Run.run (va_runSN (As := [.ref h4, .int p0]) (rest := []) ⟨hx, hb, hml, hown, hts⟩ (c_X3_cell l dC dI cI cR h4 8 ρ.2.2.2.1 (by decide) p0) ⟨va_cnB 2 hts gX1_answerAt_X3_cell_n52 rfl rfl rfl (hE.2 (.methodLinkNest RX1 52 yX3_cell "Cascadecourt") (by decide +kernel)) q_1 (by decide +kernel) ⟨Nat.le_of_ble_eq_true rfl, Nat.le_of_ble_eq_true rfl⟩, q_2, trivial⟩ ⟨fun a U g mk q => by obtain ⟨q0, qP, qE⟩ := q; exact ⟨q0, qP, cE.same (s := U) rfl qE⟩, fun U hU hW => ⟨rfl, by rw [hU]; exact hP.sub (ws' := [(h4, .inl (cI, 8, .inl ρ.2.2.2.1))]) [4] rfl, hE.warm hW⟩⟩ rfl rfl hl.1 rfl (lv_room (Nat.le_of_ble_eq_true rfl)) dX1_answerAt_106 ⟨Nat.zero_le _, Nat.zero_le _⟩)) (fun r_106 h_106 => ?_)
      subst h_106
      refine lv_aload_n hx hb dX1_answerAt_109 rfl (lv_at hl 0 rfl) ?_
      refine va_get (D := (dC, dI)) (ci := 1) (v := .int ρ.2.2.2.2.2.1) (C := RX1) (T := TX1) (N := 7) hx hb hts in_X1 hown hK hP 0 rfl rfl 5 (by decide) q_6 (fun _ h9 => h9) rfl dX1_answerAt_110 ?_
      refine lv_idiv hx hb dX1_answerAt_113 (p_pos c_98) ?_
      refine lv_goto (tgt := 118) hx hb dX1_answerAt_114 (by decide) ?_
      exact W.iret (v := ((S_X3_cell 8 ρ.2.2.2.1 p0) / ρ.2.2.2.2.2.1)) hx hb hr (fun t ht hW => ⟨((S_X3_cell 8 ρ.2.2.2.1 p0) / ρ.2.2.2.2.2.1), rfl, by simp only [S_X1_answerAt, if_neg k_1_0, if_neg k_1_1, if_neg k_1_2, if_neg k_1_3, if_neg c_91, if_neg c_98], ht⟩) (fun q h => by cases h) dX1_answerAt_118
