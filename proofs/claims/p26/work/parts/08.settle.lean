/-! LAID BY MY PROGRAM wip/gen/p26.py: contracts, method by method -/
def S_X1_isSound (ρ : RS) : Int32 := ρ.2.2.2.2.2.2
set_option maxHeartbeats 4000000 in
set_option maxRecDepth 100000 in
theorem c_X1_isSound (l : Launch) (dC : Nat → ClassId) (dI : Nat → Nat → Nat) (cI cR : ClassId) (h h1 h2 h3 h4 h5 : Nat) (ρ : RS)  (hs : ρ.2.2.2.2.2.2 = 0 ∨ ρ.2.2.2.2.2.2 = 1) : Met l yX1_isSound wsX1_isSound ({ frames := 0, cells := 0, slots := 0, locals := 0 }) (va_Pc [.ref h] (fun U => va_P (dC, dI) vwCl (wR cI h h1 h2 h3 h4 h5 ρ) U.heap ∧ cE (dC, dI) cI cR U)) (vp_Si (fun r => r = S_X1_isSound ρ ∧ (r = 0 ∨ r = 1))) 0 0 (fun _ => False) := by
  refine Met.ofW (cc := cX1_isSound) (maxL := 1) (ret := (some .boolean)) (by decide) rfl ?_
  intro p e s m args below meth c s₁ B hml hv
  obtain ⟨rfl, hP, hE⟩ := hv
  have hK := hE.1
  have hx := B.exec
  have hb := B.bytes
  have hr := B.returns
  have hts := atoms_spec (ws := wsX1_isSound) B.pre
  have hown : s.vm.findClass RX1 = some m.cls := findClass_of_methodNamed B.named
  have hlocks := B.notSynchronized
  have hP : va_P (dC, dI) vwCl [(h, .inr (1, [.ref h1, .ref h2, .ref h3, .ref h4, .ref h5, .int ρ.2.2.2.2.2.1, .int ρ.2.2.2.2.2.2])), (h1, .inl (cI, 8, .inl ρ.1)), (h2, .inl (cI, 8, .inl ρ.2.1)), (h3, .inl (cI, 8, .inl ρ.2.2.1)), (h4, .inl (cI, 8, .inl ρ.2.2.2.1)), (h5, .inl (cI, 8, .inl ρ.2.2.2.2.1))] s.heap := hP
  have hl := lv_entry ([.ref h]) (n := 1) (Nat.le_of_ble_eq_true rfl)
  rw [lg_entry_eq]
  generalize (lg_sl ([.ref h]) ++ List.replicate (1 - (lg_sl ([.ref h])).length) Slot.unset).toArray = ls at hl ⊢
  have hl : lv_has ls 1 [(0, .ref h)] := hl
  have q_0 := hts (.fieldLink RX1 38 "Cascadecourt$Row" "sound" "Z") (by decide +kernel)
  have in_X1 : ∀ w ∈ wsX10, w ∈ wsX1_isSound := by decide +kernel
  refine lv_aload_n hx hb dX1_isSound_0 rfl (lv_at hl 0 rfl) ?_
  refine va_get (D := (dC, dI)) (ci := 1) (v := .int ρ.2.2.2.2.2.2) (C := RX1) (T := TX1) (N := 7) hx hb hts in_X1 hown hK hP 0 rfl rfl 6 (by decide) q_0 (fun _ h9 => h9) rfl dX1_isSound_1 ?_
  exact W.zret (v := ρ.2.2.2.2.2.2) (ty := .boolean) hx hb hr (p_nar hs) (fun t ht hW => ⟨ρ.2.2.2.2.2.2, rfl, ⟨by simp only [S_X1_isSound], hs⟩, ht⟩) (fun q h => by cases h) dX1_isSound_4
def G_X1_settle_70 (ρ : RS) (v1_4 : Int32) (g0_2_4 : Nat → Int32) : Nat → Nat → (Nat → Int32) → (Nat → Int32) → RS
  | 0, k, g0_3_70, g0_4_70 => (ρ.1, ρ.2.1, g0_2_4, g0_3_70, g0_4_70, ρ.2.2.2.2.2.1, 0)
  | mm + 1, k, g0_3_70, g0_4_70 => G_X1_settle_70 ρ v1_4 g0_2_4 mm (k + 1) (S_X3_setCell 8 g0_3_70 (nI k) (S_X1_turnFrom (ρ.1, ρ.2.1, g0_2_4, g0_3_70, g0_4_70, ρ.2.2.2.2.2.1, 0) (nI k))) (S_X3_setCell 8 g0_4_70 (nI k) (S_X1_stateBefore (ρ.1, ρ.2.1, g0_2_4, (S_X3_setCell 8 g0_3_70 (nI k) (S_X1_turnFrom (ρ.1, ρ.2.1, g0_2_4, g0_3_70, g0_4_70, ρ.2.2.2.2.2.1, 0) (nI k))), g0_4_70, ρ.2.2.2.2.2.1, 0) (nI k)))
def G_X1_settle_70b (ρ : RS) (v1_4 : Int32) (g0_2_4 : Nat → Int32) : Nat → Nat → (Nat → Int32) → (Nat → Int32) → RS
  | 0, k, g0_3_70, g0_4_70 => (ρ.1, ρ.2.1, g0_2_4, g0_3_70, g0_4_70, ρ.2.2.2.2.2.1, 1)
  | mm + 1, k, g0_3_70, g0_4_70 => G_X1_settle_70b ρ v1_4 g0_2_4 mm (k + 1) (S_X3_setCell 8 g0_3_70 (nI k) (S_X1_turnFrom (ρ.1, ρ.2.1, g0_2_4, g0_3_70, g0_4_70, ρ.2.2.2.2.2.1, 1) (nI k))) (S_X3_setCell 8 g0_4_70 (nI k) (S_X1_stateBefore (ρ.1, ρ.2.1, g0_2_4, (S_X3_setCell 8 g0_3_70 (nI k) (S_X1_turnFrom (ρ.1, ρ.2.1, g0_2_4, g0_3_70, g0_4_70, ρ.2.2.2.2.2.1, 1) (nI k))), g0_4_70, ρ.2.2.2.2.2.1, 1) (nI k)))
def G_X1_settle_4 (ρ : RS) : Nat → Nat → Int32 → (Nat → Int32) → RS
  | 0, k, v1_4, g0_2_4 => (if (S_J6_bitCount_0f7a4 v1_4) = ρ.2.2.2.2.2.1 then G_X1_settle_70b ρ v1_4 g0_2_4 ρ.2.2.2.2.2.1.toNatClampNeg 0 ρ.2.2.2.1 ρ.2.2.2.2.1 else G_X1_settle_70 ρ v1_4 g0_2_4 ρ.2.2.2.2.2.1.toNatClampNeg 0 ρ.2.2.2.1 ρ.2.2.2.2.1)
  | mm + 1, k, v1_4, g0_2_4 => G_X1_settle_4 ρ mm (k + 1) (v1_4 ||| (1 <<< ((S_X1_siteOf (ρ.1, ρ.2.1, g0_2_4, ρ.2.2.2.1, ρ.2.2.2.2.1, ρ.2.2.2.2.2.1, ρ.2.2.2.2.2.2) ((nI k) + (S_X3_cell 8 ρ.1 (nI k)))) &&& 31))) (S_X3_setCell 8 g0_2_4 (nI k) (S_X1_siteOf (ρ.1, ρ.2.1, g0_2_4, ρ.2.2.2.1, ρ.2.2.2.2.1, ρ.2.2.2.2.2.1, ρ.2.2.2.2.2.2) ((nI k) + (S_X3_cell 8 ρ.1 (nI k)))))
def S_X1_settle (ρ : RS) : RS := G_X1_settle_4 ρ ρ.2.2.2.2.2.1.toNatClampNeg 0 0 ρ.2.2.1
set_option maxHeartbeats 4000000 in
set_option maxRecDepth 100000 in
theorem c_X1_settle (l : Launch) (dC : Nat → ClassId) (dI : Nat → Nat → Nat) (cI cR : ClassId) (sz : Nat) (h h1 h2 h3 h4 h5 : Nat) (ρ : RS)   : Met l yX1_settle wsX1_settle ({ frames := 4, cells := 0, slots := 0, locals := 88 }) (va_Pc [.ref h] (fun U => U.heap.size = sz ∧ va_P (dC, dI) vwCl (wR cI h h1 h2 h3 h4 h5 ρ) U.heap ∧ cE (dC, dI) cI cR U ∧ va_D (fun _ => True) (wR cI h h1 h2 h3 h4 h5 ρ))) (va_Qv (fun _ : Unit => True) (fun (_ : Unit) t => va_P (dC, dI) vwCl (wR cI h h1 h2 h3 h4 h5 (S_X1_settle ρ)) t.heap ∧ cE (dC, dI) cI cR t ∧ va_D (va_A (wR cI h h1 h2 h3 h4 h5 ρ) sz) (wR cI h h1 h2 h3 h4 h5 (S_X1_settle ρ))) (va_A (wR cI h h1 h2 h3 h4 h5 ρ) sz)) 0 0 (va_A (wR cI h h1 h2 h3 h4 h5 ρ) sz) := by
  refine Met.ofW (cc := cX1_settle) (maxL := 4) (ret := none) (by decide) rfl ?_
  intro p e s m args below meth c s₁ B hml hv
  obtain ⟨rfl, hsz, hP, hE, hD0⟩ := hv
  have hK := hE.1
  have hx := B.exec
  have hb := B.bytes
  have hr := B.returns
  have hts := atoms_spec (ws := wsX1_settle) B.pre
  have hown : s.vm.findClass RX1 = some m.cls := findClass_of_methodNamed B.named
  have hlocks := B.notSynchronized
  subst hsz
  have hD := hD0.self (sz := s.heap.size)
  generalize hAe : va_A (wR cI h h1 h2 h3 h4 h5 ρ) s.heap.size = A at hD ⊢
  have hA : ∀ q : Nat, s.heap.size ≤ q → A q := fun q h => by rw [← hAe]; exact Or.inr h
  have hS : va_S A s.heap s.heap [] := va_S.rf
  have hP : va_P (dC, dI) vwCl [(h, .inr (1, [.ref h1, .ref h2, .ref h3, .ref h4, .ref h5, .int ρ.2.2.2.2.2.1, .int ρ.2.2.2.2.2.2])), (h1, .inl (cI, 8, .inl ρ.1)), (h2, .inl (cI, 8, .inl ρ.2.1)), (h3, .inl (cI, 8, .inl ρ.2.2.1)), (h4, .inl (cI, 8, .inl ρ.2.2.2.1)), (h5, .inl (cI, 8, .inl ρ.2.2.2.2.1))] s.heap := hP
  have hD : va_D A [(h, .inr (1, [.ref h1, .ref h2, .ref h3, .ref h4, .ref h5, .int ρ.2.2.2.2.2.1, .int ρ.2.2.2.2.2.2])), (h1, .inl (cI, 8, .inl ρ.1)), (h2, .inl (cI, 8, .inl ρ.2.1)), (h3, .inl (cI, 8, .inl ρ.2.2.1)), (h4, .inl (cI, 8, .inl ρ.2.2.2.1)), (h5, .inl (cI, 8, .inl ρ.2.2.2.2.1))] := hD
  have hl := lv_entry ([.ref h]) (n := 4) (Nat.le_of_ble_eq_true rfl)
  rw [lg_entry_eq]
  generalize (lg_sl ([.ref h]) ++ List.replicate (4 - (lg_sl ([.ref h])).length) Slot.unset).toArray = ls at hl ⊢
  have hl : lv_has ls 4 [(0, .ref h)] := hl
  have q_0 := hts (.fieldLink RX1 27 "Cascadecourt$Row" "length" "I") (by decide +kernel)
  have in_X1 : ∀ w ∈ wsX10, w ∈ wsX1_settle := by decide +kernel
  have q_1 := hts (.fieldLink RX1 38 "Cascadecourt$Row" "sound" "Z") (by decide +kernel)
  have q_2 := hts (.fieldLink RX1 21 "Cascadecourt$Row" "turns" "[I") (by decide +kernel)
  have q_3 := hts (.initialized RX3) (by decide +kernel)
  have q_4 := hts (.static yX3_setCell) (by decide +kernel)
  have q_5 := hts (.fieldLink RX1 24 "Cascadecourt$Row" "states" "[I") (by decide +kernel)
  have q_6 := hts (.fieldLink RX1 9 "Cascadecourt$Row" "heights" "[I") (by decide +kernel)
  have q_7 := hts (.static yX3_cell) (by decide +kernel)
  have q_8 := hts (.fieldLink RX1 18 "Cascadecourt$Row" "landings" "[I") (by decide +kernel)
  refine lv_iconst (v := 0) hx hb dX1_settle_0 (by decide) ?_
  refine lv_istore_n (lv' := [(1, .int 0), (0, .ref h)]) hx hb dX1_settle_1 rfl hl (by decide) rfl (fun ls hl => ?_)
  refine lv_iconst (v := 0) hx hb dX1_settle_2 (by decide) ?_
  refine lv_istore_n (lv' := [(2, .int 0), (1, .int 0), (0, .ref h)]) hx hb dX1_settle_3 rfl hl (by decide) rfl (fun ls hl => ?_)
  have hn4 := p_clt ρ.2.2.2.2.2.1
  have loop4 : ∀ (mm k : Nat) (v1_4 : Int32) (g0_2_4 : Nat → Int32) (H : Heap) (locs : List Loc) (ls : Array Slot), k + mm = ρ.2.2.2.2.2.1.toNatClampNeg → G_X1_settle_4 ρ mm k v1_4 g0_2_4 = S_X1_settle ρ → lv_has ls 4 [(2, .int (nI k)), (1, .int v1_4), (0, .ref h)] → va_P (dC, dI) vwCl [(h, .inr (1, [.ref h1, .ref h2, .ref h3, .ref h4, .ref h5, .int ρ.2.2.2.2.2.1, .int ρ.2.2.2.2.2.2])), (h1, .inl (cI, 8, .inl ρ.1)), (h2, .inl (cI, 8, .inl ρ.2.1)), (h3, .inl (cI, 8, .inl g0_2_4)), (h4, .inl (cI, 8, .inl ρ.2.2.2.1)), (h5, .inl (cI, 8, .inl ρ.2.2.2.2.1))] H → va_D A [(h, .inr (1, [.ref h1, .ref h2, .ref h3, .ref h4, .ref h5, .int ρ.2.2.2.2.2.1, .int ρ.2.2.2.2.2.2])), (h1, .inl (cI, 8, .inl ρ.1)), (h2, .inl (cI, 8, .inl ρ.2.1)), (h3, .inl (cI, 8, .inl g0_2_4)), (h4, .inl (cI, 8, .inl ρ.2.2.2.1)), (h5, .inl (cI, 8, .inl ρ.2.2.2.2.1))] → va_S A s.heap H locs → W p l e (headSpec wsX1_settle ({ frames := 4, cells := 0, slots := 0, locals := 88 })).room s m (([.ref h] : List Value).toArray) below meth c H locs 0 0 (MQ below (va_Qv (fun _ : Unit => True) (fun (_ : Unit) t => va_P (dC, dI) vwCl (wR cI h h1 h2 h3 h4 h5 (S_X1_settle ρ)) t.heap ∧ cE (dC, dI) cI cR t ∧ va_D A (wR cI h h1 h2 h3 h4 h5 (S_X1_settle ρ))) A) (([.ref h] : List Value).toArray) s 0 0 A) (F0 m 4 ls []) := by
    intro mm
    induction mm with
    | zero =>
      intro k v1_4 g0_2_4 H locs ls hk4 hG4 hl hP hD hS
      refine lv_iload_n hx hb dX1_settle_4 rfl (lv_at hl 0 rfl) ?_
      refine lv_aload_n hx hb dX1_settle_5 rfl (lv_at hl 2 rfl) ?_
      refine va_get (D := (dC, dI)) (ci := 1) (v := .int ρ.2.2.2.2.2.1) (C := RX1) (T := TX1) (N := 7) hx hb hts in_X1 hown hK hP 0 rfl rfl 5 (by decide) q_0 (fun _ h9 => h9) rfl dX1_settle_6 ?_
      refine lv_icmp_ge (tgt := 48) hx hb dX1_settle_9 (by decide) (fun c_9 => ?_) (fun c_9 => ?_)
      · refine lv_aload_n hx hb dX1_settle_48 rfl (lv_at hl 2 rfl) ?_
        refine lv_iload_n hx hb dX1_settle_49 rfl (lv_at hl 1 rfl) ?_
        refine vp_callSi (va_Run.run (va_runS (As := [.int v1_4]) (rest := [.ref h]) ⟨hx, hb, hml, hown, hts⟩ (c_J6_bitCount_0f7a4 l v1_4) (va_cwS 1 hts gX1_settle_J6_bitCount_0f7a4 rfl rfl rfl (by decide +kernel) ⟨Nat.le_of_ble_eq_true rfl, Nat.le_of_ble_eq_true rfl⟩) ⟨fun a U g mk q => q, fun U hU hW => ⟨rfl, trivial⟩⟩ rfl rfl hl.1 rfl (lv_room (Nat.le_of_ble_eq_true rfl)) dX1_settle_50 ⟨Nat.zero_le _, Nat.zero_le _⟩)) (fun r_50 h_50 => ?_)
        subst h_50
        refine lv_aload_n hx hb dX1_settle_53 rfl (lv_at hl 2 rfl) ?_
        refine va_get (D := (dC, dI)) (ci := 1) (v := .int ρ.2.2.2.2.2.1) (C := RX1) (T := TX1) (N := 7) hx hb hts in_X1 hown hK hP 0 rfl rfl 5 (by decide) q_0 (fun _ h9 => h9) rfl dX1_settle_54 ?_
        refine lv_icmp_ne (tgt := 64) hx hb dX1_settle_57 (by decide) (fun c_57 => ?_) (fun c_57 => ?_)
        · refine lv_iconst (v := 0) hx hb dX1_settle_64 (by decide) ?_
          refine va_put (D := (dC, dI)) (ci := 1) (v := .int 0) (ty := .boolean) (C := RX1) (T := TX1) (N := 7) hx hb hts in_X1 tyX1 tyX1_ok nmX1 hown hK hP hD hS 0 rfl rfl 6 (by decide) q_1 (fun _ h9 => h9) rfl (by decide +kernel) (p_nar (Or.inl rfl)) (p_fit (Or.inl rfl)) (Nat.le_of_ble_eq_true rfl) dX1_settle_65 (fun H locs hP hD hS => ?_)
          have hP : va_P (dC, dI) vwCl [(h, .inr (1, [.ref h1, .ref h2, .ref h3, .ref h4, .ref h5, .int ρ.2.2.2.2.2.1, .int 0])), (h1, .inl (cI, 8, .inl ρ.1)), (h2, .inl (cI, 8, .inl ρ.2.1)), (h3, .inl (cI, 8, .inl g0_2_4)), (h4, .inl (cI, 8, .inl ρ.2.2.2.1)), (h5, .inl (cI, 8, .inl ρ.2.2.2.2.1))] H := hP
          have hD : va_D A [(h, .inr (1, [.ref h1, .ref h2, .ref h3, .ref h4, .ref h5, .int ρ.2.2.2.2.2.1, .int 0])), (h1, .inl (cI, 8, .inl ρ.1)), (h2, .inl (cI, 8, .inl ρ.2.1)), (h3, .inl (cI, 8, .inl g0_2_4)), (h4, .inl (cI, 8, .inl ρ.2.2.2.1)), (h5, .inl (cI, 8, .inl ρ.2.2.2.2.1))] := hD
          refine lv_iconst (v := 0) hx hb dX1_settle_68 (by decide) ?_
          refine lv_istore_n (lv' := [(2, .int 0), (1, .int v1_4), (0, .ref h)]) hx hb dX1_settle_69 rfl hl (by decide) rfl (fun ls hl => ?_)
          have hn70 := p_clt ρ.2.2.2.2.2.1
          have loop70 : ∀ (mm k : Nat) (g0_3_70 : Nat → Int32) (g0_4_70 : Nat → Int32) (H : Heap) (locs : List Loc) (ls : Array Slot), k + mm = ρ.2.2.2.2.2.1.toNatClampNeg → G_X1_settle_70 ρ v1_4 g0_2_4 mm k g0_3_70 g0_4_70 = S_X1_settle ρ → lv_has ls 4 [(2, .int (nI k)), (1, .int v1_4), (0, .ref h)] → va_P (dC, dI) vwCl [(h, .inr (1, [.ref h1, .ref h2, .ref h3, .ref h4, .ref h5, .int ρ.2.2.2.2.2.1, .int 0])), (h1, .inl (cI, 8, .inl ρ.1)), (h2, .inl (cI, 8, .inl ρ.2.1)), (h3, .inl (cI, 8, .inl g0_2_4)), (h4, .inl (cI, 8, .inl g0_3_70)), (h5, .inl (cI, 8, .inl g0_4_70))] H → va_D A [(h, .inr (1, [.ref h1, .ref h2, .ref h3, .ref h4, .ref h5, .int ρ.2.2.2.2.2.1, .int 0])), (h1, .inl (cI, 8, .inl ρ.1)), (h2, .inl (cI, 8, .inl ρ.2.1)), (h3, .inl (cI, 8, .inl g0_2_4)), (h4, .inl (cI, 8, .inl g0_3_70)), (h5, .inl (cI, 8, .inl g0_4_70))] → va_S A s.heap H locs → W p l e (headSpec wsX1_settle ({ frames := 4, cells := 0, slots := 0, locals := 88 })).room s m (([.ref h] : List Value).toArray) below meth c H locs 0 0 (MQ below (va_Qv (fun _ : Unit => True) (fun (_ : Unit) t => va_P (dC, dI) vwCl (wR cI h h1 h2 h3 h4 h5 (S_X1_settle ρ)) t.heap ∧ cE (dC, dI) cI cR t ∧ va_D A (wR cI h h1 h2 h3 h4 h5 (S_X1_settle ρ))) A) (([.ref h] : List Value).toArray) s 0 0 A) (F0 m 70 ls []) := by
            intro mm
            induction mm with
            | zero =>
              intro k g0_3_70 g0_4_70 H locs ls hk70 hG70 hl hP hD hS
              refine lv_iload_n hx hb dX1_settle_70 rfl (lv_at hl 0 rfl) ?_
              refine lv_aload_n hx hb dX1_settle_71 rfl (lv_at hl 2 rfl) ?_
              refine va_get (D := (dC, dI)) (ci := 1) (v := .int ρ.2.2.2.2.2.1) (C := RX1) (T := TX1) (N := 7) hx hb hts in_X1 hown hK hP 0 rfl rfl 5 (by decide) q_0 (fun _ h9 => h9) rfl dX1_settle_72 ?_
              refine lv_icmp_ge (tgt := 110) hx hb dX1_settle_75 (by decide) (fun c_75 => ?_) (fun c_75 => ?_)
              · have e9 : S_X1_settle ρ = (ρ.1, ρ.2.1, g0_2_4, g0_3_70, g0_4_70, ρ.2.2.2.2.2.1, 0) := by rw [← hG70]; simp only [G_X1_settle_70]
                exact W.vret hx hb hr (fun t ht hW => ⟨⟨(), rfl, trivial, by rw [ht, e9]; exact hP, hE.warm hW, by rw [e9]; exact hD⟩, hS.F ht⟩) hS.2.2 dX1_settle_110
              · exact absurd ((p_le (by omega)).mpr (by omega)) c_75
            | succ mm ih70 =>
              intro k g0_3_70 g0_4_70 H locs ls hk70 hG70 hl hP hD hS
              refine lv_iload_n hx hb dX1_settle_70 rfl (lv_at hl 0 rfl) ?_
              refine lv_aload_n hx hb dX1_settle_71 rfl (lv_at hl 2 rfl) ?_
              refine va_get (D := (dC, dI)) (ci := 1) (v := .int ρ.2.2.2.2.2.1) (C := RX1) (T := TX1) (N := 7) hx hb hts in_X1 hown hK hP 0 rfl rfl 5 (by decide) q_0 (fun _ h9 => h9) rfl dX1_settle_72 ?_
              refine lv_icmp_ge (tgt := 110) hx hb dX1_settle_75 (by decide) (fun c_75 => ?_) (fun c_75 => ?_)
              · exact absurd ((p_le (by omega)).mp c_75) (by omega)
              · refine lv_aload_n hx hb dX1_settle_78 rfl (lv_at hl 2 rfl) ?_
                refine va_get (D := (dC, dI)) (ci := 1) (v := .ref h4) (C := RX1) (T := TX1) (N := 7) hx hb hts in_X1 hown hK hP 0 rfl rfl 3 (by decide) q_2 (fun _ h9 => h9) rfl dX1_settle_79 ?_
                refine lv_iload_n hx hb dX1_settle_82 rfl (lv_at hl 0 rfl) ?_
                refine lv_aload_n hx hb dX1_settle_83 rfl (lv_at hl 2 rfl) ?_
                refine lv_iload_n hx hb dX1_settle_84 rfl (lv_at hl 0 rfl) ?_
                refine vp_callSi (va_Run.run (va_runV (As := [.int (nI k)]) (rest := [.int (nI k), .ref h4]) ⟨hx, hb, hml, hown, hts⟩ (c_X1_turnFrom l dC dI cI cR h h1 h2 h3 h4 h5 (ρ.1, ρ.2.1, g0_2_4, g0_3_70, g0_4_70, ρ.2.2.2.2.2.1, 0) (nI k)) (cwV 1 hts gX1_settle_X1_turnFrom rfl rfl rfl (by decide +kernel) ⟨Nat.le_of_ble_eq_true rfl, Nat.le_of_ble_eq_true rfl⟩) ⟨fun a U g mk q => by obtain ⟨q0, qP, qE⟩ := q; exact ⟨q0, qP, cE.same (s := U) rfl qE⟩, va_recv hK hP (ci := 1) (q0 := 0) rfl rfl, fun U hU hW => ⟨rfl, by rw [hU]; exact hP.sub (ws' := (wR cI h h1 h2 h3 h4 h5 (ρ.1, ρ.2.1, g0_2_4, g0_3_70, g0_4_70, ρ.2.2.2.2.2.1, 0))) [0, 1, 2, 3, 4, 5] rfl, hE.warm hW⟩⟩ rfl rfl hl.1 rfl (lv_room (Nat.le_of_ble_eq_true rfl)) dX1_settle_85 ⟨Nat.zero_le _, Nat.zero_le _⟩)) (fun r_85 h_85 => ?_)
                subst h_85
                have hPc := hP.sub (ws' := [(h4, .inl (cI, 8, .inl g0_3_70))]) [4] rfl
                have hDc := hD.sub (ws' := [(h4, .inl (cI, 8, .inl g0_3_70))]) [4] (by decide) rfl
                have hFc := va_free (wc := [(h4, .inl (cI, 8, .inl g0_3_70))]) hD hS hA [4] rfl
                refine va_callv (va_runSN (As := [.ref h4, .int (nI k), .int (S_X1_turnFrom (ρ.1, ρ.2.1, g0_2_4, g0_3_70, g0_4_70, ρ.2.2.2.2.2.1, 0) (nI k))]) (rest := []) ⟨hx, hb, hml, hown, hts⟩ (c_X3_setCell l dC dI cI cR _ h4 8 g0_3_70 (by decide) (nI k) (S_X1_turnFrom (ρ.1, ρ.2.1, g0_2_4, g0_3_70, g0_4_70, ρ.2.2.2.2.2.1, 0) (nI k))) ⟨va_cnB 3 hts gX1_settle_X3_setCell_n31 rfl rfl rfl (hE.2 (.methodLinkNest RX1 31 yX3_setCell "Cascadecourt") (by decide +kernel)) q_3 (by decide +kernel) ⟨Nat.le_of_ble_eq_true rfl, Nat.le_of_ble_eq_true rfl⟩, q_4, trivial⟩ ⟨fun a U g mk q => by obtain ⟨q0, q1, qP, qE, qD⟩ := q; exact ⟨q0, q1, qP, cE.same (s := U) rfl qE, qD⟩, fun U hU hW => ⟨rfl, by rw [hU], by rw [hU]; exact hPc, hE.warm hW, hDc.weaken (fun _ _ _ _ => trivial)⟩⟩ rfl rfl hl.1 rfl (lv_room (Nat.le_of_ble_eq_true rfl)) dX1_settle_88 ⟨Nat.zero_le _, Nat.zero_le _⟩) hS (fun q _ h => hFc q h) hFc (fun u t H1 locs ht hvm h_88 hB hz1 hk1 hS => ?_)
                obtain ⟨hP1, -, hD1⟩ := hB
                rw [ht] at hP1
                obtain ⟨hP, hD⟩ := va_join (wr := [(h, .inr (1, [.ref h1, .ref h2, .ref h3, .ref h4, .ref h5, .int ρ.2.2.2.2.2.1, .int 0])), (h1, .inl (cI, 8, .inl ρ.1)), (h2, .inl (cI, 8, .inl ρ.2.1)), (h3, .inl (cI, 8, .inl g0_2_4)), (h5, .inl (cI, 8, .inl g0_4_70))]) (w1 := [(h4, .inl (cI, 8, .inl (S_X3_setCell 8 g0_3_70 (nI k) (S_X1_turnFrom (ρ.1, ρ.2.1, g0_2_4, g0_3_70, g0_4_70, ρ.2.2.2.2.2.1, 0) (nI k)))))]) hP hD [4] [0, 1, 2, 3, 5] rfl rfl (by decide) (by decide) hk1 hFc hP1 hD1
                have hP := hP.sub (ws' := [(h, .inr (1, [.ref h1, .ref h2, .ref h3, .ref h4, .ref h5, .int ρ.2.2.2.2.2.1, .int 0])), (h1, .inl (cI, 8, .inl ρ.1)), (h2, .inl (cI, 8, .inl ρ.2.1)), (h3, .inl (cI, 8, .inl g0_2_4)), (h4, .inl (cI, 8, .inl (S_X3_setCell 8 g0_3_70 (nI k) (S_X1_turnFrom (ρ.1, ρ.2.1, g0_2_4, g0_3_70, g0_4_70, ρ.2.2.2.2.2.1, 0) (nI k))))), (h5, .inl (cI, 8, .inl g0_4_70))]) [0, 1, 2, 3, 5, 4] rfl
                have hD := hD.sub (ws' := [(h, .inr (1, [.ref h1, .ref h2, .ref h3, .ref h4, .ref h5, .int ρ.2.2.2.2.2.1, .int 0])), (h1, .inl (cI, 8, .inl ρ.1)), (h2, .inl (cI, 8, .inl ρ.2.1)), (h3, .inl (cI, 8, .inl g0_2_4)), (h4, .inl (cI, 8, .inl (S_X3_setCell 8 g0_3_70 (nI k) (S_X1_turnFrom (ρ.1, ρ.2.1, g0_2_4, g0_3_70, g0_4_70, ρ.2.2.2.2.2.1, 0) (nI k))))), (h5, .inl (cI, 8, .inl g0_4_70))]) [0, 1, 2, 3, 5, 4] (by decide) rfl
                clear hPc hDc hP1 hD1 hk1 hFc hz1 ht hvm
                generalize H1 = H at hP hS ⊢
                refine lv_aload_n hx hb dX1_settle_91 rfl (lv_at hl 2 rfl) ?_
                refine va_get (D := (dC, dI)) (ci := 1) (v := .ref h5) (C := RX1) (T := TX1) (N := 7) hx hb hts in_X1 hown hK hP 0 rfl rfl 4 (by decide) q_5 (fun _ h9 => h9) rfl dX1_settle_92 ?_
                refine lv_iload_n hx hb dX1_settle_95 rfl (lv_at hl 0 rfl) ?_
                refine lv_aload_n hx hb dX1_settle_96 rfl (lv_at hl 2 rfl) ?_
                refine lv_iload_n hx hb dX1_settle_97 rfl (lv_at hl 0 rfl) ?_
                refine vp_callSi (va_Run.run (va_runV (As := [.int (nI k)]) (rest := [.int (nI k), .ref h5]) ⟨hx, hb, hml, hown, hts⟩ (c_X1_stateBefore l dC dI cI cR h h1 h2 h3 h4 h5 (ρ.1, ρ.2.1, g0_2_4, (S_X3_setCell 8 g0_3_70 (nI k) (S_X1_turnFrom (ρ.1, ρ.2.1, g0_2_4, g0_3_70, g0_4_70, ρ.2.2.2.2.2.1, 0) (nI k))), g0_4_70, ρ.2.2.2.2.2.1, 0) (nI k)) (cwV 1 hts gX1_settle_X1_stateBefore rfl rfl rfl (by decide +kernel) ⟨Nat.le_of_ble_eq_true rfl, Nat.le_of_ble_eq_true rfl⟩) ⟨fun a U g mk q => by obtain ⟨q0, qP, qE⟩ := q; exact ⟨q0, qP, cE.same (s := U) rfl qE⟩, va_recv hK hP (ci := 1) (q0 := 0) rfl rfl, fun U hU hW => ⟨rfl, by rw [hU]; exact hP.sub (ws' := (wR cI h h1 h2 h3 h4 h5 (ρ.1, ρ.2.1, g0_2_4, (S_X3_setCell 8 g0_3_70 (nI k) (S_X1_turnFrom (ρ.1, ρ.2.1, g0_2_4, g0_3_70, g0_4_70, ρ.2.2.2.2.2.1, 0) (nI k))), g0_4_70, ρ.2.2.2.2.2.1, 0))) [0, 1, 2, 3, 4, 5] rfl, hE.warm hW⟩⟩ rfl rfl hl.1 rfl (lv_room (Nat.le_of_ble_eq_true rfl)) dX1_settle_98 ⟨Nat.zero_le _, Nat.zero_le _⟩)) (fun r_98 h_98 => ?_)
                subst h_98
                have hPc := hP.sub (ws' := [(h5, .inl (cI, 8, .inl g0_4_70))]) [5] rfl
                have hDc := hD.sub (ws' := [(h5, .inl (cI, 8, .inl g0_4_70))]) [5] (by decide) rfl
                have hFc := va_free (wc := [(h5, .inl (cI, 8, .inl g0_4_70))]) hD hS hA [5] rfl
                refine va_callv (va_runSN (As := [.ref h5, .int (nI k), .int (S_X1_stateBefore (ρ.1, ρ.2.1, g0_2_4, (S_X3_setCell 8 g0_3_70 (nI k) (S_X1_turnFrom (ρ.1, ρ.2.1, g0_2_4, g0_3_70, g0_4_70, ρ.2.2.2.2.2.1, 0) (nI k))), g0_4_70, ρ.2.2.2.2.2.1, 0) (nI k))]) (rest := []) ⟨hx, hb, hml, hown, hts⟩ (c_X3_setCell l dC dI cI cR _ h5 8 g0_4_70 (by decide) (nI k) (S_X1_stateBefore (ρ.1, ρ.2.1, g0_2_4, (S_X3_setCell 8 g0_3_70 (nI k) (S_X1_turnFrom (ρ.1, ρ.2.1, g0_2_4, g0_3_70, g0_4_70, ρ.2.2.2.2.2.1, 0) (nI k))), g0_4_70, ρ.2.2.2.2.2.1, 0) (nI k))) ⟨va_cnB 3 hts gX1_settle_X3_setCell_n31 rfl rfl rfl (hE.2 (.methodLinkNest RX1 31 yX3_setCell "Cascadecourt") (by decide +kernel)) q_3 (by decide +kernel) ⟨Nat.le_of_ble_eq_true rfl, Nat.le_of_ble_eq_true rfl⟩, q_4, trivial⟩ ⟨fun a U g mk q => by obtain ⟨q0, q1, qP, qE, qD⟩ := q; exact ⟨q0, q1, qP, cE.same (s := U) rfl qE, qD⟩, fun U hU hW => ⟨rfl, by rw [hU], by rw [hU]; exact hPc, hE.warm hW, hDc.weaken (fun _ _ _ _ => trivial)⟩⟩ rfl rfl hl.1 rfl (lv_room (Nat.le_of_ble_eq_true rfl)) dX1_settle_101 ⟨Nat.zero_le _, Nat.zero_le _⟩) hS (fun q _ h => hFc q h) hFc (fun u t H1 locs ht hvm h_101 hB hz1 hk1 hS => ?_)
                obtain ⟨hP1, -, hD1⟩ := hB
                rw [ht] at hP1
                obtain ⟨hP, hD⟩ := va_join (wr := [(h, .inr (1, [.ref h1, .ref h2, .ref h3, .ref h4, .ref h5, .int ρ.2.2.2.2.2.1, .int 0])), (h1, .inl (cI, 8, .inl ρ.1)), (h2, .inl (cI, 8, .inl ρ.2.1)), (h3, .inl (cI, 8, .inl g0_2_4)), (h4, .inl (cI, 8, .inl (S_X3_setCell 8 g0_3_70 (nI k) (S_X1_turnFrom (ρ.1, ρ.2.1, g0_2_4, g0_3_70, g0_4_70, ρ.2.2.2.2.2.1, 0) (nI k)))))]) (w1 := [(h5, .inl (cI, 8, .inl (S_X3_setCell 8 g0_4_70 (nI k) (S_X1_stateBefore (ρ.1, ρ.2.1, g0_2_4, (S_X3_setCell 8 g0_3_70 (nI k) (S_X1_turnFrom (ρ.1, ρ.2.1, g0_2_4, g0_3_70, g0_4_70, ρ.2.2.2.2.2.1, 0) (nI k))), g0_4_70, ρ.2.2.2.2.2.1, 0) (nI k)))))]) hP hD [5] [0, 1, 2, 3, 4] rfl rfl (by decide) (by decide) hk1 hFc hP1 hD1
                have hP := hP.sub (ws' := [(h, .inr (1, [.ref h1, .ref h2, .ref h3, .ref h4, .ref h5, .int ρ.2.2.2.2.2.1, .int 0])), (h1, .inl (cI, 8, .inl ρ.1)), (h2, .inl (cI, 8, .inl ρ.2.1)), (h3, .inl (cI, 8, .inl g0_2_4)), (h4, .inl (cI, 8, .inl (S_X3_setCell 8 g0_3_70 (nI k) (S_X1_turnFrom (ρ.1, ρ.2.1, g0_2_4, g0_3_70, g0_4_70, ρ.2.2.2.2.2.1, 0) (nI k))))), (h5, .inl (cI, 8, .inl (S_X3_setCell 8 g0_4_70 (nI k) (S_X1_stateBefore (ρ.1, ρ.2.1, g0_2_4, (S_X3_setCell 8 g0_3_70 (nI k) (S_X1_turnFrom (ρ.1, ρ.2.1, g0_2_4, g0_3_70, g0_4_70, ρ.2.2.2.2.2.1, 0) (nI k))), g0_4_70, ρ.2.2.2.2.2.1, 0) (nI k)))))]) [0, 1, 2, 3, 4, 5] rfl
                have hD := hD.sub (ws' := [(h, .inr (1, [.ref h1, .ref h2, .ref h3, .ref h4, .ref h5, .int ρ.2.2.2.2.2.1, .int 0])), (h1, .inl (cI, 8, .inl ρ.1)), (h2, .inl (cI, 8, .inl ρ.2.1)), (h3, .inl (cI, 8, .inl g0_2_4)), (h4, .inl (cI, 8, .inl (S_X3_setCell 8 g0_3_70 (nI k) (S_X1_turnFrom (ρ.1, ρ.2.1, g0_2_4, g0_3_70, g0_4_70, ρ.2.2.2.2.2.1, 0) (nI k))))), (h5, .inl (cI, 8, .inl (S_X3_setCell 8 g0_4_70 (nI k) (S_X1_stateBefore (ρ.1, ρ.2.1, g0_2_4, (S_X3_setCell 8 g0_3_70 (nI k) (S_X1_turnFrom (ρ.1, ρ.2.1, g0_2_4, g0_3_70, g0_4_70, ρ.2.2.2.2.2.1, 0) (nI k))), g0_4_70, ρ.2.2.2.2.2.1, 0) (nI k)))))]) [0, 1, 2, 3, 4, 5] (by decide) rfl
                clear hPc hDc hP1 hD1 hk1 hFc hz1 ht hvm
                generalize H1 = H at hP hS ⊢
                refine lv_iinc (v := nI (k + 1)) (lv' := [(2, .int (nI (k + 1))), (1, .int v1_4), (0, .ref h)]) hx hb dX1_settle_104 hl (k := 0) rfl ((nI_succ _).symm) (by decide) rfl (fun ls hl => ?_)
                refine lv_goto (tgt := 70) hx hb dX1_settle_107 (by decide) ?_
                exact ih70 (k + 1) (S_X3_setCell 8 g0_3_70 (nI k) (S_X1_turnFrom (ρ.1, ρ.2.1, g0_2_4, g0_3_70, g0_4_70, ρ.2.2.2.2.2.1, 0) (nI k))) (S_X3_setCell 8 g0_4_70 (nI k) (S_X1_stateBefore (ρ.1, ρ.2.1, g0_2_4, (S_X3_setCell 8 g0_3_70 (nI k) (S_X1_turnFrom (ρ.1, ρ.2.1, g0_2_4, g0_3_70, g0_4_70, ρ.2.2.2.2.2.1, 0) (nI k))), g0_4_70, ρ.2.2.2.2.2.1, 0) (nI k))) _ _ ls (by omega) (by rw [← hG70]; simp only [G_X1_settle_70]) (lv_sub hl [0, 1, 2] rfl) hP hD hS
          exact loop70 ρ.2.2.2.2.2.1.toNatClampNeg 0 ρ.2.2.2.1 ρ.2.2.2.2.1 _ _ ls (by omega) (by rw [← hG4]; simp only [G_X1_settle_4, if_neg c_57]) (lv_sub hl [0, 1, 2] rfl) hP hD hS
        · refine lv_iconst (v := 1) hx hb dX1_settle_60 (by decide) ?_
          refine lv_goto (tgt := 65) hx hb dX1_settle_61 (by decide) ?_
          refine va_put (D := (dC, dI)) (ci := 1) (v := .int 1) (ty := .boolean) (C := RX1) (T := TX1) (N := 7) hx hb hts in_X1 tyX1 tyX1_ok nmX1 hown hK hP hD hS 0 rfl rfl 6 (by decide) q_1 (fun _ h9 => h9) rfl (by decide +kernel) (p_nar (Or.inr rfl)) (p_fit (Or.inr rfl)) (Nat.le_of_ble_eq_true rfl) dX1_settle_65 (fun H locs hP hD hS => ?_)
          have hP : va_P (dC, dI) vwCl [(h, .inr (1, [.ref h1, .ref h2, .ref h3, .ref h4, .ref h5, .int ρ.2.2.2.2.2.1, .int 1])), (h1, .inl (cI, 8, .inl ρ.1)), (h2, .inl (cI, 8, .inl ρ.2.1)), (h3, .inl (cI, 8, .inl g0_2_4)), (h4, .inl (cI, 8, .inl ρ.2.2.2.1)), (h5, .inl (cI, 8, .inl ρ.2.2.2.2.1))] H := hP
          have hD : va_D A [(h, .inr (1, [.ref h1, .ref h2, .ref h3, .ref h4, .ref h5, .int ρ.2.2.2.2.2.1, .int 1])), (h1, .inl (cI, 8, .inl ρ.1)), (h2, .inl (cI, 8, .inl ρ.2.1)), (h3, .inl (cI, 8, .inl g0_2_4)), (h4, .inl (cI, 8, .inl ρ.2.2.2.1)), (h5, .inl (cI, 8, .inl ρ.2.2.2.2.1))] := hD
          refine lv_iconst (v := 0) hx hb dX1_settle_68 (by decide) ?_
          refine lv_istore_n (lv' := [(2, .int 0), (1, .int v1_4), (0, .ref h)]) hx hb dX1_settle_69 rfl hl (by decide) rfl (fun ls hl => ?_)
          have hn70 := p_clt ρ.2.2.2.2.2.1
          have loop70 : ∀ (mm k : Nat) (g0_3_70 : Nat → Int32) (g0_4_70 : Nat → Int32) (H : Heap) (locs : List Loc) (ls : Array Slot), k + mm = ρ.2.2.2.2.2.1.toNatClampNeg → G_X1_settle_70b ρ v1_4 g0_2_4 mm k g0_3_70 g0_4_70 = S_X1_settle ρ → lv_has ls 4 [(2, .int (nI k)), (1, .int v1_4), (0, .ref h)] → va_P (dC, dI) vwCl [(h, .inr (1, [.ref h1, .ref h2, .ref h3, .ref h4, .ref h5, .int ρ.2.2.2.2.2.1, .int 1])), (h1, .inl (cI, 8, .inl ρ.1)), (h2, .inl (cI, 8, .inl ρ.2.1)), (h3, .inl (cI, 8, .inl g0_2_4)), (h4, .inl (cI, 8, .inl g0_3_70)), (h5, .inl (cI, 8, .inl g0_4_70))] H → va_D A [(h, .inr (1, [.ref h1, .ref h2, .ref h3, .ref h4, .ref h5, .int ρ.2.2.2.2.2.1, .int 1])), (h1, .inl (cI, 8, .inl ρ.1)), (h2, .inl (cI, 8, .inl ρ.2.1)), (h3, .inl (cI, 8, .inl g0_2_4)), (h4, .inl (cI, 8, .inl g0_3_70)), (h5, .inl (cI, 8, .inl g0_4_70))] → va_S A s.heap H locs → W p l e (headSpec wsX1_settle ({ frames := 4, cells := 0, slots := 0, locals := 88 })).room s m (([.ref h] : List Value).toArray) below meth c H locs 0 0 (MQ below (va_Qv (fun _ : Unit => True) (fun (_ : Unit) t => va_P (dC, dI) vwCl (wR cI h h1 h2 h3 h4 h5 (S_X1_settle ρ)) t.heap ∧ cE (dC, dI) cI cR t ∧ va_D A (wR cI h h1 h2 h3 h4 h5 (S_X1_settle ρ))) A) (([.ref h] : List Value).toArray) s 0 0 A) (F0 m 70 ls []) := by
            intro mm
            induction mm with
            | zero =>
              intro k g0_3_70 g0_4_70 H locs ls hk70 hG70 hl hP hD hS
              refine lv_iload_n hx hb dX1_settle_70 rfl (lv_at hl 0 rfl) ?_
              refine lv_aload_n hx hb dX1_settle_71 rfl (lv_at hl 2 rfl) ?_
              refine va_get (D := (dC, dI)) (ci := 1) (v := .int ρ.2.2.2.2.2.1) (C := RX1) (T := TX1) (N := 7) hx hb hts in_X1 hown hK hP 0 rfl rfl 5 (by decide) q_0 (fun _ h9 => h9) rfl dX1_settle_72 ?_
              refine lv_icmp_ge (tgt := 110) hx hb dX1_settle_75 (by decide) (fun c_75 => ?_) (fun c_75 => ?_)
              · have e9 : S_X1_settle ρ = (ρ.1, ρ.2.1, g0_2_4, g0_3_70, g0_4_70, ρ.2.2.2.2.2.1, 1) := by rw [← hG70]; simp only [G_X1_settle_70b]
                exact W.vret hx hb hr (fun t ht hW => ⟨⟨(), rfl, trivial, by rw [ht, e9]; exact hP, hE.warm hW, by rw [e9]; exact hD⟩, hS.F ht⟩) hS.2.2 dX1_settle_110
              · exact absurd ((p_le (by omega)).mpr (by omega)) c_75
            | succ mm ih70 =>
              intro k g0_3_70 g0_4_70 H locs ls hk70 hG70 hl hP hD hS
              refine lv_iload_n hx hb dX1_settle_70 rfl (lv_at hl 0 rfl) ?_
              refine lv_aload_n hx hb dX1_settle_71 rfl (lv_at hl 2 rfl) ?_
              refine va_get (D := (dC, dI)) (ci := 1) (v := .int ρ.2.2.2.2.2.1) (C := RX1) (T := TX1) (N := 7) hx hb hts in_X1 hown hK hP 0 rfl rfl 5 (by decide) q_0 (fun _ h9 => h9) rfl dX1_settle_72 ?_
              refine lv_icmp_ge (tgt := 110) hx hb dX1_settle_75 (by decide) (fun c_75 => ?_) (fun c_75 => ?_)
              · exact absurd ((p_le (by omega)).mp c_75) (by omega)
              · refine lv_aload_n hx hb dX1_settle_78 rfl (lv_at hl 2 rfl) ?_
                refine va_get (D := (dC, dI)) (ci := 1) (v := .ref h4) (C := RX1) (T := TX1) (N := 7) hx hb hts in_X1 hown hK hP 0 rfl rfl 3 (by decide) q_2 (fun _ h9 => h9) rfl dX1_settle_79 ?_
                refine lv_iload_n hx hb dX1_settle_82 rfl (lv_at hl 0 rfl) ?_
                refine lv_aload_n hx hb dX1_settle_83 rfl (lv_at hl 2 rfl) ?_
                refine lv_iload_n hx hb dX1_settle_84 rfl (lv_at hl 0 rfl) ?_
                refine vp_callSi (va_Run.run (va_runV (As := [.int (nI k)]) (rest := [.int (nI k), .ref h4]) ⟨hx, hb, hml, hown, hts⟩ (c_X1_turnFrom l dC dI cI cR h h1 h2 h3 h4 h5 (ρ.1, ρ.2.1, g0_2_4, g0_3_70, g0_4_70, ρ.2.2.2.2.2.1, 1) (nI k)) (cwV 1 hts gX1_settle_X1_turnFrom rfl rfl rfl (by decide +kernel) ⟨Nat.le_of_ble_eq_true rfl, Nat.le_of_ble_eq_true rfl⟩) ⟨fun a U g mk q => by obtain ⟨q0, qP, qE⟩ := q; exact ⟨q0, qP, cE.same (s := U) rfl qE⟩, va_recv hK hP (ci := 1) (q0 := 0) rfl rfl, fun U hU hW => ⟨rfl, by rw [hU]; exact hP.sub (ws' := (wR cI h h1 h2 h3 h4 h5 (ρ.1, ρ.2.1, g0_2_4, g0_3_70, g0_4_70, ρ.2.2.2.2.2.1, 1))) [0, 1, 2, 3, 4, 5] rfl, hE.warm hW⟩⟩ rfl rfl hl.1 rfl (lv_room (Nat.le_of_ble_eq_true rfl)) dX1_settle_85 ⟨Nat.zero_le _, Nat.zero_le _⟩)) (fun r_85 h_85 => ?_)
                subst h_85
                have hPc := hP.sub (ws' := [(h4, .inl (cI, 8, .inl g0_3_70))]) [4] rfl
                have hDc := hD.sub (ws' := [(h4, .inl (cI, 8, .inl g0_3_70))]) [4] (by decide) rfl
                have hFc := va_free (wc := [(h4, .inl (cI, 8, .inl g0_3_70))]) hD hS hA [4] rfl
                refine va_callv (va_runSN (As := [.ref h4, .int (nI k), .int (S_X1_turnFrom (ρ.1, ρ.2.1, g0_2_4, g0_3_70, g0_4_70, ρ.2.2.2.2.2.1, 1) (nI k))]) (rest := []) ⟨hx, hb, hml, hown, hts⟩ (c_X3_setCell l dC dI cI cR _ h4 8 g0_3_70 (by decide) (nI k) (S_X1_turnFrom (ρ.1, ρ.2.1, g0_2_4, g0_3_70, g0_4_70, ρ.2.2.2.2.2.1, 1) (nI k))) ⟨va_cnB 3 hts gX1_settle_X3_setCell_n31 rfl rfl rfl (hE.2 (.methodLinkNest RX1 31 yX3_setCell "Cascadecourt") (by decide +kernel)) q_3 (by decide +kernel) ⟨Nat.le_of_ble_eq_true rfl, Nat.le_of_ble_eq_true rfl⟩, q_4, trivial⟩ ⟨fun a U g mk q => by obtain ⟨q0, q1, qP, qE, qD⟩ := q; exact ⟨q0, q1, qP, cE.same (s := U) rfl qE, qD⟩, fun U hU hW => ⟨rfl, by rw [hU], by rw [hU]; exact hPc, hE.warm hW, hDc.weaken (fun _ _ _ _ => trivial)⟩⟩ rfl rfl hl.1 rfl (lv_room (Nat.le_of_ble_eq_true rfl)) dX1_settle_88 ⟨Nat.zero_le _, Nat.zero_le _⟩) hS (fun q _ h => hFc q h) hFc (fun u t H1 locs ht hvm h_88 hB hz1 hk1 hS => ?_)
                obtain ⟨hP1, -, hD1⟩ := hB
                rw [ht] at hP1
                obtain ⟨hP, hD⟩ := va_join (wr := [(h, .inr (1, [.ref h1, .ref h2, .ref h3, .ref h4, .ref h5, .int ρ.2.2.2.2.2.1, .int 1])), (h1, .inl (cI, 8, .inl ρ.1)), (h2, .inl (cI, 8, .inl ρ.2.1)), (h3, .inl (cI, 8, .inl g0_2_4)), (h5, .inl (cI, 8, .inl g0_4_70))]) (w1 := [(h4, .inl (cI, 8, .inl (S_X3_setCell 8 g0_3_70 (nI k) (S_X1_turnFrom (ρ.1, ρ.2.1, g0_2_4, g0_3_70, g0_4_70, ρ.2.2.2.2.2.1, 1) (nI k)))))]) hP hD [4] [0, 1, 2, 3, 5] rfl rfl (by decide) (by decide) hk1 hFc hP1 hD1
                have hP := hP.sub (ws' := [(h, .inr (1, [.ref h1, .ref h2, .ref h3, .ref h4, .ref h5, .int ρ.2.2.2.2.2.1, .int 1])), (h1, .inl (cI, 8, .inl ρ.1)), (h2, .inl (cI, 8, .inl ρ.2.1)), (h3, .inl (cI, 8, .inl g0_2_4)), (h4, .inl (cI, 8, .inl (S_X3_setCell 8 g0_3_70 (nI k) (S_X1_turnFrom (ρ.1, ρ.2.1, g0_2_4, g0_3_70, g0_4_70, ρ.2.2.2.2.2.1, 1) (nI k))))), (h5, .inl (cI, 8, .inl g0_4_70))]) [0, 1, 2, 3, 5, 4] rfl
                have hD := hD.sub (ws' := [(h, .inr (1, [.ref h1, .ref h2, .ref h3, .ref h4, .ref h5, .int ρ.2.2.2.2.2.1, .int 1])), (h1, .inl (cI, 8, .inl ρ.1)), (h2, .inl (cI, 8, .inl ρ.2.1)), (h3, .inl (cI, 8, .inl g0_2_4)), (h4, .inl (cI, 8, .inl (S_X3_setCell 8 g0_3_70 (nI k) (S_X1_turnFrom (ρ.1, ρ.2.1, g0_2_4, g0_3_70, g0_4_70, ρ.2.2.2.2.2.1, 1) (nI k))))), (h5, .inl (cI, 8, .inl g0_4_70))]) [0, 1, 2, 3, 5, 4] (by decide) rfl
                clear hPc hDc hP1 hD1 hk1 hFc hz1 ht hvm
                generalize H1 = H at hP hS ⊢
                refine lv_aload_n hx hb dX1_settle_91 rfl (lv_at hl 2 rfl) ?_
                refine va_get (D := (dC, dI)) (ci := 1) (v := .ref h5) (C := RX1) (T := TX1) (N := 7) hx hb hts in_X1 hown hK hP 0 rfl rfl 4 (by decide) q_5 (fun _ h9 => h9) rfl dX1_settle_92 ?_
                refine lv_iload_n hx hb dX1_settle_95 rfl (lv_at hl 0 rfl) ?_
                refine lv_aload_n hx hb dX1_settle_96 rfl (lv_at hl 2 rfl) ?_
                refine lv_iload_n hx hb dX1_settle_97 rfl (lv_at hl 0 rfl) ?_
                refine vp_callSi (va_Run.run (va_runV (As := [.int (nI k)]) (rest := [.int (nI k), .ref h5]) ⟨hx, hb, hml, hown, hts⟩ (c_X1_stateBefore l dC dI cI cR h h1 h2 h3 h4 h5 (ρ.1, ρ.2.1, g0_2_4, (S_X3_setCell 8 g0_3_70 (nI k) (S_X1_turnFrom (ρ.1, ρ.2.1, g0_2_4, g0_3_70, g0_4_70, ρ.2.2.2.2.2.1, 1) (nI k))), g0_4_70, ρ.2.2.2.2.2.1, 1) (nI k)) (cwV 1 hts gX1_settle_X1_stateBefore rfl rfl rfl (by decide +kernel) ⟨Nat.le_of_ble_eq_true rfl, Nat.le_of_ble_eq_true rfl⟩) ⟨fun a U g mk q => by obtain ⟨q0, qP, qE⟩ := q; exact ⟨q0, qP, cE.same (s := U) rfl qE⟩, va_recv hK hP (ci := 1) (q0 := 0) rfl rfl, fun U hU hW => ⟨rfl, by rw [hU]; exact hP.sub (ws' := (wR cI h h1 h2 h3 h4 h5 (ρ.1, ρ.2.1, g0_2_4, (S_X3_setCell 8 g0_3_70 (nI k) (S_X1_turnFrom (ρ.1, ρ.2.1, g0_2_4, g0_3_70, g0_4_70, ρ.2.2.2.2.2.1, 1) (nI k))), g0_4_70, ρ.2.2.2.2.2.1, 1))) [0, 1, 2, 3, 4, 5] rfl, hE.warm hW⟩⟩ rfl rfl hl.1 rfl (lv_room (Nat.le_of_ble_eq_true rfl)) dX1_settle_98 ⟨Nat.zero_le _, Nat.zero_le _⟩)) (fun r_98 h_98 => ?_)
                subst h_98
                have hPc := hP.sub (ws' := [(h5, .inl (cI, 8, .inl g0_4_70))]) [5] rfl
                have hDc := hD.sub (ws' := [(h5, .inl (cI, 8, .inl g0_4_70))]) [5] (by decide) rfl
                have hFc := va_free (wc := [(h5, .inl (cI, 8, .inl g0_4_70))]) hD hS hA [5] rfl
                refine va_callv (va_runSN (As := [.ref h5, .int (nI k), .int (S_X1_stateBefore (ρ.1, ρ.2.1, g0_2_4, (S_X3_setCell 8 g0_3_70 (nI k) (S_X1_turnFrom (ρ.1, ρ.2.1, g0_2_4, g0_3_70, g0_4_70, ρ.2.2.2.2.2.1, 1) (nI k))), g0_4_70, ρ.2.2.2.2.2.1, 1) (nI k))]) (rest := []) ⟨hx, hb, hml, hown, hts⟩ (c_X3_setCell l dC dI cI cR _ h5 8 g0_4_70 (by decide) (nI k) (S_X1_stateBefore (ρ.1, ρ.2.1, g0_2_4, (S_X3_setCell 8 g0_3_70 (nI k) (S_X1_turnFrom (ρ.1, ρ.2.1, g0_2_4, g0_3_70, g0_4_70, ρ.2.2.2.2.2.1, 1) (nI k))), g0_4_70, ρ.2.2.2.2.2.1, 1) (nI k))) ⟨va_cnB 3 hts gX1_settle_X3_setCell_n31 rfl rfl rfl (hE.2 (.methodLinkNest RX1 31 yX3_setCell "Cascadecourt") (by decide +kernel)) q_3 (by decide +kernel) ⟨Nat.le_of_ble_eq_true rfl, Nat.le_of_ble_eq_true rfl⟩, q_4, trivial⟩ ⟨fun a U g mk q => by obtain ⟨q0, q1, qP, qE, qD⟩ := q; exact ⟨q0, q1, qP, cE.same (s := U) rfl qE, qD⟩, fun U hU hW => ⟨rfl, by rw [hU], by rw [hU]; exact hPc, hE.warm hW, hDc.weaken (fun _ _ _ _ => trivial)⟩⟩ rfl rfl hl.1 rfl (lv_room (Nat.le_of_ble_eq_true rfl)) dX1_settle_101 ⟨Nat.zero_le _, Nat.zero_le _⟩) hS (fun q _ h => hFc q h) hFc (fun u t H1 locs ht hvm h_101 hB hz1 hk1 hS => ?_)
                obtain ⟨hP1, -, hD1⟩ := hB
                rw [ht] at hP1
                obtain ⟨hP, hD⟩ := va_join (wr := [(h, .inr (1, [.ref h1, .ref h2, .ref h3, .ref h4, .ref h5, .int ρ.2.2.2.2.2.1, .int 1])), (h1, .inl (cI, 8, .inl ρ.1)), (h2, .inl (cI, 8, .inl ρ.2.1)), (h3, .inl (cI, 8, .inl g0_2_4)), (h4, .inl (cI, 8, .inl (S_X3_setCell 8 g0_3_70 (nI k) (S_X1_turnFrom (ρ.1, ρ.2.1, g0_2_4, g0_3_70, g0_4_70, ρ.2.2.2.2.2.1, 1) (nI k)))))]) (w1 := [(h5, .inl (cI, 8, .inl (S_X3_setCell 8 g0_4_70 (nI k) (S_X1_stateBefore (ρ.1, ρ.2.1, g0_2_4, (S_X3_setCell 8 g0_3_70 (nI k) (S_X1_turnFrom (ρ.1, ρ.2.1, g0_2_4, g0_3_70, g0_4_70, ρ.2.2.2.2.2.1, 1) (nI k))), g0_4_70, ρ.2.2.2.2.2.1, 1) (nI k)))))]) hP hD [5] [0, 1, 2, 3, 4] rfl rfl (by decide) (by decide) hk1 hFc hP1 hD1
                have hP := hP.sub (ws' := [(h, .inr (1, [.ref h1, .ref h2, .ref h3, .ref h4, .ref h5, .int ρ.2.2.2.2.2.1, .int 1])), (h1, .inl (cI, 8, .inl ρ.1)), (h2, .inl (cI, 8, .inl ρ.2.1)), (h3, .inl (cI, 8, .inl g0_2_4)), (h4, .inl (cI, 8, .inl (S_X3_setCell 8 g0_3_70 (nI k) (S_X1_turnFrom (ρ.1, ρ.2.1, g0_2_4, g0_3_70, g0_4_70, ρ.2.2.2.2.2.1, 1) (nI k))))), (h5, .inl (cI, 8, .inl (S_X3_setCell 8 g0_4_70 (nI k) (S_X1_stateBefore (ρ.1, ρ.2.1, g0_2_4, (S_X3_setCell 8 g0_3_70 (nI k) (S_X1_turnFrom (ρ.1, ρ.2.1, g0_2_4, g0_3_70, g0_4_70, ρ.2.2.2.2.2.1, 1) (nI k))), g0_4_70, ρ.2.2.2.2.2.1, 1) (nI k)))))]) [0, 1, 2, 3, 4, 5] rfl
                have hD := hD.sub (ws' := [(h, .inr (1, [.ref h1, .ref h2, .ref h3, .ref h4, .ref h5, .int ρ.2.2.2.2.2.1, .int 1])), (h1, .inl (cI, 8, .inl ρ.1)), (h2, .inl (cI, 8, .inl ρ.2.1)), (h3, .inl (cI, 8, .inl g0_2_4)), (h4, .inl (cI, 8, .inl (S_X3_setCell 8 g0_3_70 (nI k) (S_X1_turnFrom (ρ.1, ρ.2.1, g0_2_4, g0_3_70, g0_4_70, ρ.2.2.2.2.2.1, 1) (nI k))))), (h5, .inl (cI, 8, .inl (S_X3_setCell 8 g0_4_70 (nI k) (S_X1_stateBefore (ρ.1, ρ.2.1, g0_2_4, (S_X3_setCell 8 g0_3_70 (nI k) (S_X1_turnFrom (ρ.1, ρ.2.1, g0_2_4, g0_3_70, g0_4_70, ρ.2.2.2.2.2.1, 1) (nI k))), g0_4_70, ρ.2.2.2.2.2.1, 1) (nI k)))))]) [0, 1, 2, 3, 4, 5] (by decide) rfl
                clear hPc hDc hP1 hD1 hk1 hFc hz1 ht hvm
                generalize H1 = H at hP hS ⊢
                refine lv_iinc (v := nI (k + 1)) (lv' := [(2, .int (nI (k + 1))), (1, .int v1_4), (0, .ref h)]) hx hb dX1_settle_104 hl (k := 0) rfl ((nI_succ _).symm) (by decide) rfl (fun ls hl => ?_)
                refine lv_goto (tgt := 70) hx hb dX1_settle_107 (by decide) ?_
                exact ih70 (k + 1) (S_X3_setCell 8 g0_3_70 (nI k) (S_X1_turnFrom (ρ.1, ρ.2.1, g0_2_4, g0_3_70, g0_4_70, ρ.2.2.2.2.2.1, 1) (nI k))) (S_X3_setCell 8 g0_4_70 (nI k) (S_X1_stateBefore (ρ.1, ρ.2.1, g0_2_4, (S_X3_setCell 8 g0_3_70 (nI k) (S_X1_turnFrom (ρ.1, ρ.2.1, g0_2_4, g0_3_70, g0_4_70, ρ.2.2.2.2.2.1, 1) (nI k))), g0_4_70, ρ.2.2.2.2.2.1, 1) (nI k))) _ _ ls (by omega) (by rw [← hG70]; simp only [G_X1_settle_70b]) (lv_sub hl [0, 1, 2] rfl) hP hD hS
          exact loop70 ρ.2.2.2.2.2.1.toNatClampNeg 0 ρ.2.2.2.1 ρ.2.2.2.2.1 _ _ ls (by omega) (by rw [← hG4]; simp only [G_X1_settle_4, if_pos c_57]) (lv_sub hl [0, 1, 2] rfl) hP hD hS
      · exact absurd ((p_le (by omega)).mpr (by omega)) c_9
    | succ mm ih4 =>
      intro k v1_4 g0_2_4 H locs ls hk4 hG4 hl hP hD hS
      refine lv_iload_n hx hb dX1_settle_4 rfl (lv_at hl 0 rfl) ?_
      refine lv_aload_n hx hb dX1_settle_5 rfl (lv_at hl 2 rfl) ?_
      refine va_get (D := (dC, dI)) (ci := 1) (v := .int ρ.2.2.2.2.2.1) (C := RX1) (T := TX1) (N := 7) hx hb hts in_X1 hown hK hP 0 rfl rfl 5 (by decide) q_0 (fun _ h9 => h9) rfl dX1_settle_6 ?_
      refine lv_icmp_ge (tgt := 48) hx hb dX1_settle_9 (by decide) (fun c_9 => ?_) (fun c_9 => ?_)
      · exact absurd ((p_le (by omega)).mp c_9) (by omega)
      · refine lv_aload_n hx hb dX1_settle_12 rfl (lv_at hl 2 rfl) ?_
        refine lv_iload_n hx hb dX1_settle_13 rfl (lv_at hl 0 rfl) ?_
        refine lv_aload_n hx hb dX1_settle_14 rfl (lv_at hl 2 rfl) ?_
        refine va_get (D := (dC, dI)) (ci := 1) (v := .ref h1) (C := RX1) (T := TX1) (N := 7) hx hb hts in_X1 hown hK hP 0 rfl rfl 0 (by decide) q_6 (fun _ h9 => h9) rfl dX1_settle_15 ?_
        refine lv_iload_n hx hb dX1_settle_18 rfl (lv_at hl 0 rfl) ?_
        refine vp_callSi (va_Run.run (va_runSN (As := [.ref h1, .int (nI k)]) (rest := [.int (nI k), .ref h]) ⟨hx, hb, hml, hown, hts⟩ (c_X3_cell l dC dI cI cR h1 8 ρ.1 (by decide) (nI k)) ⟨va_cnB 2 hts gX1_settle_X3_cell_n52 rfl rfl rfl (hE.2 (.methodLinkNest RX1 52 yX3_cell "Cascadecourt") (by decide +kernel)) q_3 (by decide +kernel) ⟨Nat.le_of_ble_eq_true rfl, Nat.le_of_ble_eq_true rfl⟩, q_7, trivial⟩ ⟨fun a U g mk q => by obtain ⟨q0, qP, qE⟩ := q; exact ⟨q0, qP, cE.same (s := U) rfl qE⟩, fun U hU hW => ⟨rfl, by rw [hU]; exact hP.sub (ws' := [(h1, .inl (cI, 8, .inl ρ.1))]) [1] rfl, hE.warm hW⟩⟩ rfl rfl hl.1 rfl (lv_room (Nat.le_of_ble_eq_true rfl)) dX1_settle_19 ⟨Nat.zero_le _, Nat.zero_le _⟩)) (fun r_19 h_19 => ?_)
        subst h_19
        refine lv_iadd hx hb dX1_settle_22 ?_
        refine vp_callSi (va_Run.run (va_runV (As := [.int ((nI k) + (S_X3_cell 8 ρ.1 (nI k)))]) (rest := []) ⟨hx, hb, hml, hown, hts⟩ (c_X1_siteOf l dC dI cI cR h h1 h2 h3 h4 h5 (ρ.1, ρ.2.1, g0_2_4, ρ.2.2.2.1, ρ.2.2.2.2.1, ρ.2.2.2.2.2.1, ρ.2.2.2.2.2.2) ((nI k) + (S_X3_cell 8 ρ.1 (nI k)))) (cwV 1 hts gX1_settle_X1_siteOf rfl rfl rfl (by decide +kernel) ⟨Nat.le_of_ble_eq_true rfl, Nat.le_of_ble_eq_true rfl⟩) ⟨fun a U g mk q => by obtain ⟨q0, qP, qE⟩ := q; exact ⟨q0, qP, cE.same (s := U) rfl qE⟩, va_recv hK hP (ci := 1) (q0 := 0) rfl rfl, fun U hU hW => ⟨rfl, by rw [hU]; exact hP.sub (ws' := (wR cI h h1 h2 h3 h4 h5 (ρ.1, ρ.2.1, g0_2_4, ρ.2.2.2.1, ρ.2.2.2.2.1, ρ.2.2.2.2.2.1, ρ.2.2.2.2.2.2))) [0, 1, 2, 3, 4, 5] rfl, hE.warm hW⟩⟩ rfl rfl hl.1 rfl (lv_room (Nat.le_of_ble_eq_true rfl)) dX1_settle_23 ⟨Nat.zero_le _, Nat.zero_le _⟩)) (fun r_23 h_23 => ?_)
        subst h_23
        refine lv_istore_n (lv' := [(3, .int (S_X1_siteOf (ρ.1, ρ.2.1, g0_2_4, ρ.2.2.2.1, ρ.2.2.2.2.1, ρ.2.2.2.2.2.1, ρ.2.2.2.2.2.2) ((nI k) + (S_X3_cell 8 ρ.1 (nI k))))), (2, .int (nI k)), (1, .int v1_4), (0, .ref h)]) hx hb dX1_settle_26 rfl hl (by decide) rfl (fun ls hl => ?_)
        refine lv_aload_n hx hb dX1_settle_27 rfl (lv_at hl 3 rfl) ?_
        refine va_get (D := (dC, dI)) (ci := 1) (v := .ref h3) (C := RX1) (T := TX1) (N := 7) hx hb hts in_X1 hown hK hP 0 rfl rfl 2 (by decide) q_8 (fun _ h9 => h9) rfl dX1_settle_28 ?_
        refine lv_iload_n hx hb dX1_settle_31 rfl (lv_at hl 1 rfl) ?_
        refine lv_iload_n hx hb dX1_settle_32 rfl (lv_at hl 0 rfl) ?_
        have hPc := hP.sub (ws' := [(h3, .inl (cI, 8, .inl g0_2_4))]) [3] rfl
        have hDc := hD.sub (ws' := [(h3, .inl (cI, 8, .inl g0_2_4))]) [3] (by decide) rfl
        have hFc := va_free (wc := [(h3, .inl (cI, 8, .inl g0_2_4))]) hD hS hA [3] rfl
        refine va_callv (va_runSN (As := [.ref h3, .int (nI k), .int (S_X1_siteOf (ρ.1, ρ.2.1, g0_2_4, ρ.2.2.2.1, ρ.2.2.2.2.1, ρ.2.2.2.2.2.1, ρ.2.2.2.2.2.2) ((nI k) + (S_X3_cell 8 ρ.1 (nI k))))]) (rest := []) ⟨hx, hb, hml, hown, hts⟩ (c_X3_setCell l dC dI cI cR _ h3 8 g0_2_4 (by decide) (nI k) (S_X1_siteOf (ρ.1, ρ.2.1, g0_2_4, ρ.2.2.2.1, ρ.2.2.2.2.1, ρ.2.2.2.2.2.1, ρ.2.2.2.2.2.2) ((nI k) + (S_X3_cell 8 ρ.1 (nI k))))) ⟨va_cnB 3 hts gX1_settle_X3_setCell_n31 rfl rfl rfl (hE.2 (.methodLinkNest RX1 31 yX3_setCell "Cascadecourt") (by decide +kernel)) q_3 (by decide +kernel) ⟨Nat.le_of_ble_eq_true rfl, Nat.le_of_ble_eq_true rfl⟩, q_4, trivial⟩ ⟨fun a U g mk q => by obtain ⟨q0, q1, qP, qE, qD⟩ := q; exact ⟨q0, q1, qP, cE.same (s := U) rfl qE, qD⟩, fun U hU hW => ⟨rfl, by rw [hU], by rw [hU]; exact hPc, hE.warm hW, hDc.weaken (fun _ _ _ _ => trivial)⟩⟩ rfl rfl hl.1 rfl (lv_room (Nat.le_of_ble_eq_true rfl)) dX1_settle_33 ⟨Nat.zero_le _, Nat.zero_le _⟩) hS (fun q _ h => hFc q h) hFc (fun u t H1 locs ht hvm h_33 hB hz1 hk1 hS => ?_)
        obtain ⟨hP1, -, hD1⟩ := hB
        rw [ht] at hP1
        obtain ⟨hP, hD⟩ := va_join (wr := [(h, .inr (1, [.ref h1, .ref h2, .ref h3, .ref h4, .ref h5, .int ρ.2.2.2.2.2.1, .int ρ.2.2.2.2.2.2])), (h1, .inl (cI, 8, .inl ρ.1)), (h2, .inl (cI, 8, .inl ρ.2.1)), (h4, .inl (cI, 8, .inl ρ.2.2.2.1)), (h5, .inl (cI, 8, .inl ρ.2.2.2.2.1))]) (w1 := [(h3, .inl (cI, 8, .inl (S_X3_setCell 8 g0_2_4 (nI k) (S_X1_siteOf (ρ.1, ρ.2.1, g0_2_4, ρ.2.2.2.1, ρ.2.2.2.2.1, ρ.2.2.2.2.2.1, ρ.2.2.2.2.2.2) ((nI k) + (S_X3_cell 8 ρ.1 (nI k)))))))]) hP hD [3] [0, 1, 2, 4, 5] rfl rfl (by decide) (by decide) hk1 hFc hP1 hD1
        have hP := hP.sub (ws' := [(h, .inr (1, [.ref h1, .ref h2, .ref h3, .ref h4, .ref h5, .int ρ.2.2.2.2.2.1, .int ρ.2.2.2.2.2.2])), (h1, .inl (cI, 8, .inl ρ.1)), (h2, .inl (cI, 8, .inl ρ.2.1)), (h3, .inl (cI, 8, .inl (S_X3_setCell 8 g0_2_4 (nI k) (S_X1_siteOf (ρ.1, ρ.2.1, g0_2_4, ρ.2.2.2.1, ρ.2.2.2.2.1, ρ.2.2.2.2.2.1, ρ.2.2.2.2.2.2) ((nI k) + (S_X3_cell 8 ρ.1 (nI k))))))), (h4, .inl (cI, 8, .inl ρ.2.2.2.1)), (h5, .inl (cI, 8, .inl ρ.2.2.2.2.1))]) [0, 1, 2, 5, 3, 4] rfl
        have hD := hD.sub (ws' := [(h, .inr (1, [.ref h1, .ref h2, .ref h3, .ref h4, .ref h5, .int ρ.2.2.2.2.2.1, .int ρ.2.2.2.2.2.2])), (h1, .inl (cI, 8, .inl ρ.1)), (h2, .inl (cI, 8, .inl ρ.2.1)), (h3, .inl (cI, 8, .inl (S_X3_setCell 8 g0_2_4 (nI k) (S_X1_siteOf (ρ.1, ρ.2.1, g0_2_4, ρ.2.2.2.1, ρ.2.2.2.2.1, ρ.2.2.2.2.2.1, ρ.2.2.2.2.2.2) ((nI k) + (S_X3_cell 8 ρ.1 (nI k))))))), (h4, .inl (cI, 8, .inl ρ.2.2.2.1)), (h5, .inl (cI, 8, .inl ρ.2.2.2.2.1))]) [0, 1, 2, 5, 3, 4] (by decide) rfl
        clear hPc hDc hP1 hD1 hk1 hFc hz1 ht hvm
        generalize H1 = H at hP hS ⊢
        refine lv_iload_n hx hb dX1_settle_36 rfl (lv_at hl 2 rfl) ?_
        refine lv_iconst (v := 1) hx hb dX1_settle_37 (by decide) ?_
        refine lv_iload_n hx hb dX1_settle_38 rfl (lv_at hl 0 rfl) ?_
        refine lv_ishl hx hb dX1_settle_39 ?_
        refine lv_ior hx hb dX1_settle_40 ?_
        refine lv_istore_n (lv' := [(1, .int (v1_4 ||| (1 <<< ((S_X1_siteOf (ρ.1, ρ.2.1, g0_2_4, ρ.2.2.2.1, ρ.2.2.2.2.1, ρ.2.2.2.2.2.1, ρ.2.2.2.2.2.2) ((nI k) + (S_X3_cell 8 ρ.1 (nI k)))) &&& 31)))), (3, .int (S_X1_siteOf (ρ.1, ρ.2.1, g0_2_4, ρ.2.2.2.1, ρ.2.2.2.2.1, ρ.2.2.2.2.2.1, ρ.2.2.2.2.2.2) ((nI k) + (S_X3_cell 8 ρ.1 (nI k))))), (2, .int (nI k)), (0, .ref h)]) hx hb dX1_settle_41 rfl hl (by decide) rfl (fun ls hl => ?_)
        refine lv_iinc (v := nI (k + 1)) (lv' := [(2, .int (nI (k + 1))), (1, .int (v1_4 ||| (1 <<< ((S_X1_siteOf (ρ.1, ρ.2.1, g0_2_4, ρ.2.2.2.1, ρ.2.2.2.2.1, ρ.2.2.2.2.2.1, ρ.2.2.2.2.2.2) ((nI k) + (S_X3_cell 8 ρ.1 (nI k)))) &&& 31)))), (3, .int (S_X1_siteOf (ρ.1, ρ.2.1, g0_2_4, ρ.2.2.2.1, ρ.2.2.2.2.1, ρ.2.2.2.2.2.1, ρ.2.2.2.2.2.2) ((nI k) + (S_X3_cell 8 ρ.1 (nI k))))), (0, .ref h)]) hx hb dX1_settle_42 hl (k := 2) rfl ((nI_succ _).symm) (by decide) rfl (fun ls hl => ?_)
        refine lv_goto (tgt := 4) hx hb dX1_settle_45 (by decide) ?_
        exact ih4 (k + 1) (v1_4 ||| (1 <<< ((S_X1_siteOf (ρ.1, ρ.2.1, g0_2_4, ρ.2.2.2.1, ρ.2.2.2.2.1, ρ.2.2.2.2.2.1, ρ.2.2.2.2.2.2) ((nI k) + (S_X3_cell 8 ρ.1 (nI k)))) &&& 31))) (S_X3_setCell 8 g0_2_4 (nI k) (S_X1_siteOf (ρ.1, ρ.2.1, g0_2_4, ρ.2.2.2.1, ρ.2.2.2.2.1, ρ.2.2.2.2.2.1, ρ.2.2.2.2.2.2) ((nI k) + (S_X3_cell 8 ρ.1 (nI k))))) _ _ ls (by omega) (by rw [← hG4]; simp only [G_X1_settle_4]) (lv_sub hl [0, 1, 3] rfl) hP hD hS
  exact loop4 ρ.2.2.2.2.2.1.toNatClampNeg 0 0 ρ.2.2.1 _ _ ls (by omega) (by simp only [S_X1_settle]) (lv_sub hl [0, 1, 2] rfl) hP hD hS
