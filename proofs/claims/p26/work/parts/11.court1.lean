/-! LAID BY MY PROGRAM wip/gen/p26.py: contracts, method by method -/
set_option maxHeartbeats 4000000 in
set_option maxRecDepth 100000 in
/-- the ROW of a number that there is -/
theorem c_X3_rowNumbered (l : Launch) (dC : Nat → ClassId) (dI : Nat → Nat → Nat) (cI cR : ClassId) (x rw j a1 a2 a3 y b1 b2 b3 : Nat) (ξ : XS) (σ : JS) (η : YS) (rows : List RD) (hCI : p_CI ξ rows) (i : Nat) (hi : i < rows.length) : Met l yX3_rowNumbered wsX3_rowNumbered ({ frames := 0, cells := 0, slots := 0, locals := 0 }) (va_Pc [.ref x, .int (nI i)] (fun U => va_P (dC, dI) vwCl (wC cI cR x rw j a1 a2 a3 y b1 b2 b3 ξ σ η rows) U.heap ∧ cE (dC, dI) cI cR U)) (va_Sr (fun _ => True) (fun _ => .ref (rw_ rows i).1.1)) 0 0 (fun _ => False) := by
  refine Met.ofW (cc := cX3_rowNumbered) (maxL := 2) (ret := (some (.object "Cascadecourt$Row"))) (by decide) rfl ?_
  intro p e s m args below meth c s₁ B hml hv
  obtain ⟨rfl, hP, hE⟩ := hv
  have hK := hE.1
  have hx := B.exec
  have hb := B.bytes
  have hr := B.returns
  have hts := atoms_spec (ws := wsX3_rowNumbered) B.pre
  have hown : s.vm.findClass RX3 = some m.cls := findClass_of_methodNamed B.named
  have hlocks := B.notSynchronized
  have h8 := hCI.1
  have hl := lv_entry ([.ref x, .int (nI i)]) (n := 2) (Nat.le_of_ble_eq_true rfl)
  rw [lg_entry_eq]
  generalize (lg_sl ([.ref x, .int (nI i)]) ++ List.replicate (2 - (lg_sl ([.ref x, .int (nI i)])).length) Slot.unset).toArray = ls at hl ⊢
  have hl : lv_has ls 2 [(0, .ref x), (1, .int (nI i))] := hl
  have in_X3 : ∀ w ∈ wsX30, w ∈ wsX3_rowNumbered := by decide +kernel
  refine lv_iload_n hx hb dX3_rowNumbered_0 rfl (lv_at hl 1 rfl) ?_
  refine lv_if_lt (tgt := 30) hx hb dX3_rowNumbered_1 (by decide) (fun c_1 => absurd c_1 (nI_pos (by omega))) (fun _ => ?_)
  refine lv_iload_n hx hb dX3_rowNumbered_4 rfl (lv_at hl 1 rfl) ?_
  refine lv_aload_n hx hb dX3_rowNumbered_5 rfl (lv_at hl 0 rfl) ?_
  refine va_get (D := (dC, dI)) (ci := 3) (v := .int ξ.2) (C := RX3) (T := TX3) (N := 4) hx hb hts in_X3 hown hK hP 0 rfl rfl 3 (by decide) (hts (.fieldLink RX3 29 "Cascadecourt" "rowsTold" "I") (by decide +kernel)) (fun _ h9 => h9) rfl dX3_rowNumbered_6 ?_
  refine lv_icmp_ge (tgt := 30) hx hb dX3_rowNumbered_9 (by decide) (fun c_9 => absurd c_9 (by rw [hCI.2.1]; exact nI_ge hi (by omega))) (fun _ => ?_)
  refine lv_iload_n hx hb dX3_rowNumbered_12 rfl (lv_at hl 1 rfl) ?_
  refine lv_aload_n hx hb dX3_rowNumbered_13 rfl (lv_at hl 0 rfl) ?_
  refine va_get (D := (dC, dI)) (ci := 3) (v := .ref rw) (C := RX3) (T := TX3) (N := 4) hx hb hts in_X3 hown hK hP 0 rfl rfl 0 (by decide) (hts (.fieldLink RX3 11 "Cascadecourt" "rows" "[LCascadecourt$Row;") (by decide +kernel)) (fun _ h9 => h9) rfl dX3_rowNumbered_14 ?_
  refine va_alen (v := 8) hx hb hK hP 1 1 rfl rfl rfl dX3_rowNumbered_17 ?_
  refine lv_icmp_ge (tgt := 30) hx hb dX3_rowNumbered_18 (by decide) (fun c_18 => absurd c_18 (nI_ge (b := 8) (by omega) (by decide))) (fun _ => ?_)
  refine lv_aload_n hx hb dX3_rowNumbered_21 rfl (lv_at hl 0 rfl) ?_
  refine va_get (D := (dC, dI)) (ci := 3) (v := .ref rw) (C := RX3) (T := TX3) (N := 4) hx hb hts in_X3 hown hK hP 0 rfl rfl 0 (by decide) (hts (.fieldLink RX3 11 "Cascadecourt" "rows" "[LCascadecourt$Row;") (by decide +kernel)) (fun _ h9 => h9) rfl dX3_rowNumbered_22 ?_
  refine lv_iload_n hx hb dX3_rowNumbered_25 rfl (lv_at hl 1 rfl) ?_
  refine va_aldq hx hb hK hP 1 1 rfl rfl (vp_in_nI (n := i) (N := 8) (by omega) (by decide)) dX3_rowNumbered_26 ?_
  rw [nI_clamp (by omega), hCI.2.2.1 i hi]
  refine lv_goto (tgt := 31) hx hb dX3_rowNumbered_27 (by decide) ?_
  exact W.aret (v := .ref (rw_ rows i).1.1) hx hb hr (Or.inl ⟨_, rfl⟩) (Or.inr ⟨_, rfl⟩) (fun t ht hW => ⟨0, rfl, trivial, ht⟩) (fun q h => by cases h) dX3_rowNumbered_31

def G_X3_soundRows_4 (ξ : XS) (σ : JS) (η : YS) (rows : List RD) : Nat → Nat → Int32 → Int32
  | 0, k, v1_4 => v1_4
  | mm + 1, k, v1_4 => (if (S_X1_isSound (rw_ rows k).2) = 0 then G_X3_soundRows_4 ξ σ η rows mm (k + 1) v1_4 else G_X3_soundRows_4 ξ σ η rows mm (k + 1) (v1_4 + 1))
def S_X3_soundRows (ξ : XS) (σ : JS) (η : YS) (rows : List RD) : Int32 := G_X3_soundRows_4 ξ σ η rows rows.length 0 0
set_option maxHeartbeats 4000000 in
set_option maxRecDepth 100000 in
theorem c_X3_soundRows (l : Launch) (dC : Nat → ClassId) (dI : Nat → Nat → Nat) (cI cR : ClassId) (x rw j a1 a2 a3 y b1 b2 b3 : Nat) (ξ : XS) (σ : JS) (η : YS) (rows : List RD) (hCI : p_CI ξ rows)   : Met l yX3_soundRows wsX3_soundRows ({ frames := 1, cells := 0, slots := 0, locals := 21 }) (va_Pc [.ref x] (fun U => va_P (dC, dI) vwCl (wC cI cR x rw j a1 a2 a3 y b1 b2 b3 ξ σ η rows) U.heap ∧ cE (dC, dI) cI cR U)) (vp_Si (fun r => r = S_X3_soundRows ξ σ η rows)) 0 0 (fun _ => False) := by
  refine Met.ofW (cc := cX3_soundRows) (maxL := 4) (ret := (some .int)) (by decide) rfl ?_
  intro p e s m args below meth c s₁ B hml hv
  obtain ⟨rfl, hP, hE⟩ := hv
  have hK := hE.1
  have hx := B.exec
  have hb := B.bytes
  have hr := B.returns
  have hts := atoms_spec (ws := wsX3_soundRows) B.pre
  have hown : s.vm.findClass RX3 = some m.cls := findClass_of_methodNamed B.named
  have hlocks := B.notSynchronized
  have hP : va_P (dC, dI) vwCl ([(x, .inr (3, [.ref rw, .ref j, .ref y, .int ξ.2])), (rw, .inl (cR, 8, .inr (.inr (.inr (.inr ξ.1))))), (j, .inr (0, [.ref a1, .ref a2, .ref a3, .int σ.2.2.2.1, .int σ.2.2.2.2.1, .int σ.2.2.2.2.2.1, .int σ.2.2.2.2.2.2.1, .double σ.2.2.2.2.2.2.2])), (a1, .inl (cI, 6, .inl σ.1)), (a2, .inl (cI, 6, .inl σ.2.1)), (a3, .inl (cI, 6, .inl σ.2.2.1)), (y, .inr (2, [.ref b1, .ref b2, .ref b3, .int η.2.2.2])), (b1, .inl (cI, 512, .inl η.1)), (b2, .inl (cI, 512, .inl η.2.1)), (b3, .inl (cI, 512, .inl η.2.2.1))] ++ wRs cI rows) s.heap := hP
  have hl := lv_entry ([.ref x]) (n := 4) (Nat.le_of_ble_eq_true rfl)
  rw [lg_entry_eq]
  generalize (lg_sl ([.ref x]) ++ List.replicate (4 - (lg_sl ([.ref x])).length) Slot.unset).toArray = ls at hl ⊢
  have hl : lv_has ls 4 [(0, .ref x)] := hl
  have q_0 := hts (.fieldLink RX3 29 "Cascadecourt" "rowsTold" "I") (by decide +kernel)
  have in_X3 : ∀ w ∈ wsX30, w ∈ wsX3_soundRows := by decide +kernel
  refine lv_iconst (v := 0) hx hb dX3_soundRows_0 (by decide) ?_
  refine lv_istore_n (lv' := [(1, .int 0), (0, .ref x)]) hx hb dX3_soundRows_1 rfl hl (by decide) rfl (fun ls hl => ?_)
  refine lv_iconst (v := 0) hx hb dX3_soundRows_2 (by decide) ?_
  refine lv_istore_n (lv' := [(2, .int 0), (1, .int 0), (0, .ref x)]) hx hb dX3_soundRows_3 rfl hl (by decide) rfl (fun ls hl => ?_)
  have loop4 : ∀ (mm k : Nat) (v1_4 : Int32) (ls : Array Slot), k + mm = rows.length → G_X3_soundRows_4 ξ σ η rows mm k v1_4 = S_X3_soundRows ξ σ η rows → lv_has ls 4 [(2, .int (nI k)), (1, .int v1_4), (0, .ref x)] → W p l e (headSpec wsX3_soundRows ({ frames := 1, cells := 0, slots := 0, locals := 21 })).room s m (([.ref x] : List Value).toArray) below meth c s.heap [] 0 0 (MQ below (vp_Si (fun r => r = S_X3_soundRows ξ σ η rows)) (([.ref x] : List Value).toArray) s 0 0 (fun _ => False)) (F0 m 4 ls []) := by
    intro mm
    induction mm with
    | zero =>
      intro k v1_4 ls hk4 hG4 hl
      refine lv_iload_n hx hb dX3_soundRows_4 rfl (lv_at hl 0 rfl) ?_
      refine lv_aload_n hx hb dX3_soundRows_5 rfl (lv_at hl 2 rfl) ?_
      refine va_get (D := (dC, dI)) (ci := 3) (v := .int ξ.2) (C := RX3) (T := TX3) (N := 4) hx hb hts in_X3 hown hK hP 0 rfl rfl 3 (by decide) q_0 (fun _ h9 => h9) rfl dX3_soundRows_6 ?_
      refine lv_icmp_ge (tgt := 38) hx hb dX3_soundRows_9 (by decide) (fun c_9 => ?_) (fun c_9 => ?_)
      · refine lv_iload_n hx hb dX3_soundRows_38 rfl (lv_at hl 1 rfl) ?_
        exact W.iret (v := v1_4) hx hb hr (fun t ht hW => ⟨v1_4, rfl, by rw [← hG4]; simp only [G_X3_soundRows_4], ht⟩) (fun q h => by cases h) dX3_soundRows_39
      · exact absurd (by rw [hCI.2.1]; exact nI_le (by omega) (by have := hCI.1; omega)) c_9
    | succ mm ih4 =>
      intro k v1_4 ls hk4 hG4 hl
      refine lv_iload_n hx hb dX3_soundRows_4 rfl (lv_at hl 0 rfl) ?_
      refine lv_aload_n hx hb dX3_soundRows_5 rfl (lv_at hl 2 rfl) ?_
      refine va_get (D := (dC, dI)) (ci := 3) (v := .int ξ.2) (C := RX3) (T := TX3) (N := 4) hx hb hts in_X3 hown hK hP 0 rfl rfl 3 (by decide) q_0 (fun _ h9 => h9) rfl dX3_soundRows_6 ?_
      refine lv_icmp_ge (tgt := 38) hx hb dX3_soundRows_9 (by decide) (fun c_9 => ?_) (fun c_9 => ?_)
      · exact absurd c_9 (by rw [hCI.2.1]; exact nI_ge (by omega) (by have := hCI.1; omega))
      · refine lv_aload_n hx hb dX3_soundRows_12 rfl (lv_at hl 2 rfl) ?_
        refine lv_iload_n hx hb dX3_soundRows_13 rfl (lv_at hl 0 rfl) ?_
        refine va_csr (va_Run.run (va_runV (As := [.int (nI k)]) (rest := []) ⟨hx, hb, hml, hown, hts⟩ (c_X3_rowNumbered l dC dI cI cR x rw j a1 a2 a3 y b1 b2 b3 ξ σ η rows hCI k (by omega)) (cwV 1 hts gX3_soundRows_X3_rowNumbered rfl rfl rfl (by decide +kernel) ⟨Nat.le_of_ble_eq_true rfl, Nat.le_of_ble_eq_true rfl⟩) ⟨fun a U g mk q => by obtain ⟨q0, qP, qE⟩ := q; exact ⟨q0, qP, cE.same (s := U) rfl qE⟩, va_recv hK hP (ci := 3) (q0 := 0) rfl rfl, fun U hU hW => ⟨rfl, by rw [hU]; exact hP, hE.warm hW⟩⟩ rfl rfl hl.1 rfl (lv_room (Nat.le_of_ble_eq_true rfl)) dX3_soundRows_14 ⟨Nat.zero_le _, Nat.zero_le _⟩)) (fun _ _ => ?_)
        refine lv_astore_n (lv' := [(3, .ref ((rw_ rows k).1.1)), (2, .int (nI k)), (1, .int v1_4), (0, .ref x)]) hx hb dX3_soundRows_17 rfl hl (by decide) rfl (fun ls hl => ?_)
        refine lv_aload_n hx hb dX3_soundRows_18 rfl (lv_at hl 0 rfl) ?_
        refine lv_ifnull hx hb dX3_soundRows_19 ?_
        refine lv_aload_n hx hb dX3_soundRows_22 rfl (lv_at hl 0 rfl) ?_
        refine vp_callSi (va_Run.run (va_runV (As := []) (rest := []) ⟨hx, hb, hml, hown, hts⟩ (c_X1_isSound l dC dI cI cR (((rw_ rows k).1).1) (((rw_ rows k).1).2.1) (((rw_ rows k).1).2.2.1) (((rw_ rows k).1).2.2.2.1) (((rw_ rows k).1).2.2.2.2.1) (((rw_ rows k).1).2.2.2.2.2) (rw_ rows k).2 (hCI.2.2.2 _ (rw_mem (by omega))).2) (cwV 0 hts gX3_soundRows_X1_isSound rfl rfl rfl (by decide +kernel) ⟨Nat.le_of_ble_eq_true rfl, Nat.le_of_ble_eq_true rfl⟩) ⟨fun a U g mk q => by obtain ⟨q0, qP, qE⟩ := q; exact ⟨q0, qP, cE.same (s := U) rfl qE⟩, va_recv hK (p_row hP (rw_mem (by omega))) (ci := 1) (q0 := 0) rfl rfl, fun U hU hW => ⟨rfl, by rw [hU]; exact p_row hP (rw_mem (by omega)), hE.warm hW⟩⟩ rfl rfl hl.1 rfl (lv_room (Nat.le_of_ble_eq_true rfl)) dX3_soundRows_23 ⟨Nat.zero_le _, Nat.zero_le _⟩)) (fun r_23 h_23 => ?_)
        obtain ⟨rfl, hz_23⟩ := h_23
        refine lv_if_eq (tgt := 32) hx hb dX3_soundRows_26 (by decide) (fun c_26 => ?_) (fun c_26 => ?_)
        · refine lv_iinc (v := nI (k + 1)) (lv' := [(2, .int (nI (k + 1))), (3, .ref ((rw_ rows k).1.1)), (1, .int v1_4), (0, .ref x)]) hx hb dX3_soundRows_32 hl (k := 1) rfl ((nI_succ _).symm) (by decide) rfl (fun ls hl => ?_)
          refine lv_goto (tgt := 4) hx hb dX3_soundRows_35 (by decide) ?_
          exact ih4 (k + 1) v1_4 ls (by omega) (by rw [← hG4]; simp only [G_X3_soundRows_4, if_pos c_26]) (lv_sub hl [0, 2, 3] rfl)
        · refine lv_iinc (v := v1_4 + 1) (lv' := [(1, .int (v1_4 + 1)), (3, .ref ((rw_ rows k).1.1)), (2, .int (nI k)), (0, .ref x)]) hx hb dX3_soundRows_29 hl (k := 2) rfl (rfl) (by decide) rfl (fun ls hl => ?_)
          refine lv_iinc (v := nI (k + 1)) (lv' := [(2, .int (nI (k + 1))), (1, .int (v1_4 + 1)), (3, .ref ((rw_ rows k).1.1)), (0, .ref x)]) hx hb dX3_soundRows_32 hl (k := 2) rfl ((nI_succ _).symm) (by decide) rfl (fun ls hl => ?_)
          refine lv_goto (tgt := 4) hx hb dX3_soundRows_35 (by decide) ?_
          exact ih4 (k + 1) (v1_4 + 1) ls (by omega) (by rw [← hG4]; simp only [G_X3_soundRows_4, if_neg c_26]) (lv_sub hl [0, 1, 3] rfl)
  exact loop4 rows.length 0 0 ls (by omega) (by simp only [S_X3_soundRows]) (lv_sub hl [0, 1, 2] rfl)
def S_X3_howMany (ξ : XS) (σ : JS) (η : YS) (rows : List RD) (p0 : Int32) : Int32 := (if p0 = 0 then ξ.2 else (if p0 = 1 then S_X0_props σ else (if p0 = 2 then S_X0_state σ else (if p0 = 3 then S_X0_beat σ else (if p0 = 4 then S_X0_slipsEver σ else (if p0 = 5 then S_X0_droppedProps σ else (if p0 = 6 then S_X0_flightsOfAll σ else (if p0 = 7 then S_X3_soundRows ξ σ η rows else (if p0 = 8 then S_X0_propLandingIn σ 0 else S_X0_beatsEver σ)))))))))
set_option maxHeartbeats 4000000 in
set_option maxRecDepth 100000 in
theorem c_X3_howMany (l : Launch) (dC : Nat → ClassId) (dI : Nat → Nat → Nat) (cI cR : ClassId) (x rw j a1 a2 a3 y b1 b2 b3 : Nat) (ξ : XS) (σ : JS) (η : YS) (rows : List RD) (hCI : p_CI ξ rows) (p0 : Int32)  : Met l yX3_howMany wsX3_howMany ({ frames := 3, cells := 0, slots := 0, locals := 66 }) (va_Pc [.ref x, .int p0] (fun U => va_P (dC, dI) vwCl (wC cI cR x rw j a1 a2 a3 y b1 b2 b3 ξ σ η rows) U.heap ∧ cE (dC, dI) cI cR U)) (vp_Si (fun r => r = S_X3_howMany ξ σ η rows p0)) 0 0 (fun _ => False) := by
  refine Met.ofW (cc := cX3_howMany) (maxL := 2) (ret := (some .int)) (by decide) rfl ?_
  intro p e s m args below meth c s₁ B hml hv
  obtain ⟨rfl, hP, hE⟩ := hv
  have hK := hE.1
  have hx := B.exec
  have hb := B.bytes
  have hr := B.returns
  have hts := atoms_spec (ws := wsX3_howMany) B.pre
  have hown : s.vm.findClass RX3 = some m.cls := findClass_of_methodNamed B.named
  have hlocks := B.notSynchronized
  have hP : va_P (dC, dI) vwCl ([(x, .inr (3, [.ref rw, .ref j, .ref y, .int ξ.2])), (rw, .inl (cR, 8, .inr (.inr (.inr (.inr ξ.1))))), (j, .inr (0, [.ref a1, .ref a2, .ref a3, .int σ.2.2.2.1, .int σ.2.2.2.2.1, .int σ.2.2.2.2.2.1, .int σ.2.2.2.2.2.2.1, .double σ.2.2.2.2.2.2.2])), (a1, .inl (cI, 6, .inl σ.1)), (a2, .inl (cI, 6, .inl σ.2.1)), (a3, .inl (cI, 6, .inl σ.2.2.1)), (y, .inr (2, [.ref b1, .ref b2, .ref b3, .int η.2.2.2])), (b1, .inl (cI, 512, .inl η.1)), (b2, .inl (cI, 512, .inl η.2.1)), (b3, .inl (cI, 512, .inl η.2.2.1))] ++ wRs cI rows) s.heap := hP
  have hl := lv_entry ([.ref x, .int p0]) (n := 2) (Nat.le_of_ble_eq_true rfl)
  rw [lg_entry_eq]
  generalize (lg_sl ([.ref x, .int p0]) ++ List.replicate (2 - (lg_sl ([.ref x, .int p0])).length) Slot.unset).toArray = ls at hl ⊢
  have hl : lv_has ls 2 [(0, .ref x), (1, .int p0)] := hl
  have q_0 := hts (.fieldLink RX3 29 "Cascadecourt" "rowsTold" "I") (by decide +kernel)
  have in_X3 : ∀ w ∈ wsX30, w ∈ wsX3_howMany := by decide +kernel
  have q_1 := hts (.fieldLink RX3 18 "Cascadecourt" "juggler" "LCascadecourt$Juggler;") (by decide +kernel)
  refine lv_iload_n hx hb dX3_howMany_0 rfl (lv_at hl 1 rfl) ?_
  by_cases k_1_0 : p0 = 0
  · refine lv_tableIn (off := 51) (tgt := 52) hx hb dX3_howMany_1 (by rw [k_1_0]; decide) (by rw [k_1_0]; decide) (by rw [k_1_0]; rfl) (by decide) ?_
    refine lv_aload_n hx hb dX3_howMany_52 rfl (lv_at hl 0 rfl) ?_
    refine va_get (D := (dC, dI)) (ci := 3) (v := .int ξ.2) (C := RX3) (T := TX3) (N := 4) hx hb hts in_X3 hown hK hP 0 rfl rfl 3 (by decide) q_0 (fun _ h9 => h9) rfl dX3_howMany_53 ?_
    exact W.iret (v := ξ.2) hx hb hr (fun t ht hW => ⟨ξ.2, rfl, by simp only [S_X3_howMany, if_pos k_1_0], ht⟩) (fun q h => by cases h) dX3_howMany_56
  by_cases k_1_1 : p0 = 1
  · refine lv_tableIn (off := 56) (tgt := 57) hx hb dX3_howMany_1 (by rw [k_1_1]; decide) (by rw [k_1_1]; decide) (by rw [k_1_1]; rfl) (by decide) ?_
    refine lv_aload_n hx hb dX3_howMany_57 rfl (lv_at hl 0 rfl) ?_
    refine va_get (D := (dC, dI)) (ci := 3) (v := .ref j) (C := RX3) (T := TX3) (N := 4) hx hb hts in_X3 hown hK hP 0 rfl rfl 1 (by decide) q_1 (fun _ h9 => h9) rfl dX3_howMany_58 ?_
    refine vp_callSi (va_Run.run (va_runV (As := []) (rest := []) ⟨hx, hb, hml, hown, hts⟩ (c_X0_props l dC dI cI cR j a1 a2 a3 σ) (cwV 0 hts gX3_howMany_X0_props rfl rfl rfl (by decide +kernel) ⟨Nat.le_of_ble_eq_true rfl, Nat.le_of_ble_eq_true rfl⟩) ⟨fun a U g mk q => by obtain ⟨q0, qP, qE⟩ := q; exact ⟨q0, qP, cE.same (s := U) rfl qE⟩, va_recv hK hP (ci := 0) (q0 := 2) rfl rfl, fun U hU hW => ⟨rfl, by rw [hU]; exact hP.sub (ws' := (wJ cI j a1 a2 a3 σ)) [2, 3, 4, 5] rfl, hE.warm hW⟩⟩ rfl rfl hl.1 rfl (lv_room (Nat.le_of_ble_eq_true rfl)) dX3_howMany_61 ⟨Nat.zero_le _, Nat.zero_le _⟩)) (fun r_61 h_61 => ?_)
    subst h_61
    exact W.iret (v := (S_X0_props σ)) hx hb hr (fun t ht hW => ⟨(S_X0_props σ), rfl, by simp only [S_X3_howMany, if_neg k_1_0, if_pos k_1_1], ht⟩) (fun q h => by cases h) dX3_howMany_64
  by_cases k_1_2 : p0 = 2
  · refine lv_tableIn (off := 64) (tgt := 65) hx hb dX3_howMany_1 (by rw [k_1_2]; decide) (by rw [k_1_2]; decide) (by rw [k_1_2]; rfl) (by decide) ?_
    refine lv_aload_n hx hb dX3_howMany_65 rfl (lv_at hl 0 rfl) ?_
    refine va_get (D := (dC, dI)) (ci := 3) (v := .ref j) (C := RX3) (T := TX3) (N := 4) hx hb hts in_X3 hown hK hP 0 rfl rfl 1 (by decide) q_1 (fun _ h9 => h9) rfl dX3_howMany_66 ?_
    refine vp_callSi (va_Run.run (va_runV (As := []) (rest := []) ⟨hx, hb, hml, hown, hts⟩ (c_X0_state l dC dI cI cR j a1 a2 a3 σ) (cwV 0 hts gX3_howMany_X0_state rfl rfl rfl (by decide +kernel) ⟨Nat.le_of_ble_eq_true rfl, Nat.le_of_ble_eq_true rfl⟩) ⟨fun a U g mk q => by obtain ⟨q0, qP, qE⟩ := q; exact ⟨q0, qP, cE.same (s := U) rfl qE⟩, va_recv hK hP (ci := 0) (q0 := 2) rfl rfl, fun U hU hW => ⟨rfl, by rw [hU]; exact hP.sub (ws' := (wJ cI j a1 a2 a3 σ)) [2, 3, 4, 5] rfl, hE.warm hW⟩⟩ rfl rfl hl.1 rfl (lv_room (Nat.le_of_ble_eq_true rfl)) dX3_howMany_69 ⟨Nat.zero_le _, Nat.zero_le _⟩)) (fun r_69 h_69 => ?_)
    subst h_69
    exact W.iret (v := (S_X0_state σ)) hx hb hr (fun t ht hW => ⟨(S_X0_state σ), rfl, by simp only [S_X3_howMany, if_neg k_1_0, if_neg k_1_1, if_pos k_1_2], ht⟩) (fun q h => by cases h) dX3_howMany_72
  by_cases k_1_3 : p0 = 3
  · refine lv_tableIn (off := 72) (tgt := 73) hx hb dX3_howMany_1 (by rw [k_1_3]; decide) (by rw [k_1_3]; decide) (by rw [k_1_3]; rfl) (by decide) ?_
    refine lv_aload_n hx hb dX3_howMany_73 rfl (lv_at hl 0 rfl) ?_
    refine va_get (D := (dC, dI)) (ci := 3) (v := .ref j) (C := RX3) (T := TX3) (N := 4) hx hb hts in_X3 hown hK hP 0 rfl rfl 1 (by decide) q_1 (fun _ h9 => h9) rfl dX3_howMany_74 ?_
    refine vp_callSi (va_Run.run (va_runV (As := []) (rest := []) ⟨hx, hb, hml, hown, hts⟩ (c_X0_beat l dC dI cI cR j a1 a2 a3 σ) (cwV 0 hts gX3_howMany_X0_beat rfl rfl rfl (by decide +kernel) ⟨Nat.le_of_ble_eq_true rfl, Nat.le_of_ble_eq_true rfl⟩) ⟨fun a U g mk q => by obtain ⟨q0, qP, qE⟩ := q; exact ⟨q0, qP, cE.same (s := U) rfl qE⟩, va_recv hK hP (ci := 0) (q0 := 2) rfl rfl, fun U hU hW => ⟨rfl, by rw [hU]; exact hP.sub (ws' := (wJ cI j a1 a2 a3 σ)) [2, 3, 4, 5] rfl, hE.warm hW⟩⟩ rfl rfl hl.1 rfl (lv_room (Nat.le_of_ble_eq_true rfl)) dX3_howMany_77 ⟨Nat.zero_le _, Nat.zero_le _⟩)) (fun r_77 h_77 => ?_)
    subst h_77
    exact W.iret (v := (S_X0_beat σ)) hx hb hr (fun t ht hW => ⟨(S_X0_beat σ), rfl, by simp only [S_X3_howMany, if_neg k_1_0, if_neg k_1_1, if_neg k_1_2, if_pos k_1_3], ht⟩) (fun q h => by cases h) dX3_howMany_80
  by_cases k_1_4 : p0 = 4
  · refine lv_tableIn (off := 80) (tgt := 81) hx hb dX3_howMany_1 (by rw [k_1_4]; decide) (by rw [k_1_4]; decide) (by rw [k_1_4]; rfl) (by decide) ?_
    refine lv_aload_n hx hb dX3_howMany_81 rfl (lv_at hl 0 rfl) ?_
    refine va_get (D := (dC, dI)) (ci := 3) (v := .ref j) (C := RX3) (T := TX3) (N := 4) hx hb hts in_X3 hown hK hP 0 rfl rfl 1 (by decide) q_1 (fun _ h9 => h9) rfl dX3_howMany_82 ?_
    refine vp_callSi (va_Run.run (va_runV (As := []) (rest := []) ⟨hx, hb, hml, hown, hts⟩ (c_X0_slipsEver l dC dI cI cR j a1 a2 a3 σ) (cwV 0 hts gX3_howMany_X0_slipsEver rfl rfl rfl (by decide +kernel) ⟨Nat.le_of_ble_eq_true rfl, Nat.le_of_ble_eq_true rfl⟩) ⟨fun a U g mk q => by obtain ⟨q0, qP, qE⟩ := q; exact ⟨q0, qP, cE.same (s := U) rfl qE⟩, va_recv hK hP (ci := 0) (q0 := 2) rfl rfl, fun U hU hW => ⟨rfl, by rw [hU]; exact hP.sub (ws' := (wJ cI j a1 a2 a3 σ)) [2, 3, 4, 5] rfl, hE.warm hW⟩⟩ rfl rfl hl.1 rfl (lv_room (Nat.le_of_ble_eq_true rfl)) dX3_howMany_85 ⟨Nat.zero_le _, Nat.zero_le _⟩)) (fun r_85 h_85 => ?_)
    subst h_85
    exact W.iret (v := (S_X0_slipsEver σ)) hx hb hr (fun t ht hW => ⟨(S_X0_slipsEver σ), rfl, by simp only [S_X3_howMany, if_neg k_1_0, if_neg k_1_1, if_neg k_1_2, if_neg k_1_3, if_pos k_1_4], ht⟩) (fun q h => by cases h) dX3_howMany_88
  by_cases k_1_5 : p0 = 5
  · refine lv_tableIn (off := 88) (tgt := 89) hx hb dX3_howMany_1 (by rw [k_1_5]; decide) (by rw [k_1_5]; decide) (by rw [k_1_5]; rfl) (by decide) ?_
    refine lv_aload_n hx hb dX3_howMany_89 rfl (lv_at hl 0 rfl) ?_
    refine va_get (D := (dC, dI)) (ci := 3) (v := .ref j) (C := RX3) (T := TX3) (N := 4) hx hb hts in_X3 hown hK hP 0 rfl rfl 1 (by decide) q_1 (fun _ h9 => h9) rfl dX3_howMany_90 ?_
    refine vp_callSi (va_Run.run (va_runV (As := []) (rest := []) ⟨hx, hb, hml, hown, hts⟩ (c_X0_droppedProps l dC dI cI cR j a1 a2 a3 σ) (cwV 0 hts gX3_howMany_X0_droppedProps rfl rfl rfl (by decide +kernel) ⟨Nat.le_of_ble_eq_true rfl, Nat.le_of_ble_eq_true rfl⟩) ⟨fun a U g mk q => by obtain ⟨q0, qP, qE⟩ := q; exact ⟨q0, qP, cE.same (s := U) rfl qE⟩, va_recv hK hP (ci := 0) (q0 := 2) rfl rfl, fun U hU hW => ⟨rfl, by rw [hU]; exact hP.sub (ws' := (wJ cI j a1 a2 a3 σ)) [2, 3, 4, 5] rfl, hE.warm hW⟩⟩ rfl rfl hl.1 rfl (lv_room (Nat.le_of_ble_eq_true rfl)) dX3_howMany_93 ⟨Nat.zero_le _, Nat.zero_le _⟩)) (fun r_93 h_93 => ?_)
    subst h_93
    exact W.iret (v := (S_X0_droppedProps σ)) hx hb hr (fun t ht hW => ⟨(S_X0_droppedProps σ), rfl, by simp only [S_X3_howMany, if_neg k_1_0, if_neg k_1_1, if_neg k_1_2, if_neg k_1_3, if_neg k_1_4, if_pos k_1_5], ht⟩) (fun q h => by cases h) dX3_howMany_96
  by_cases k_1_6 : p0 = 6
  · refine lv_tableIn (off := 96) (tgt := 97) hx hb dX3_howMany_1 (by rw [k_1_6]; decide) (by rw [k_1_6]; decide) (by rw [k_1_6]; rfl) (by decide) ?_
    refine lv_aload_n hx hb dX3_howMany_97 rfl (lv_at hl 0 rfl) ?_
    refine va_get (D := (dC, dI)) (ci := 3) (v := .ref j) (C := RX3) (T := TX3) (N := 4) hx hb hts in_X3 hown hK hP 0 rfl rfl 1 (by decide) q_1 (fun _ h9 => h9) rfl dX3_howMany_98 ?_
    refine vp_callSi (va_Run.run (va_runV (As := []) (rest := []) ⟨hx, hb, hml, hown, hts⟩ (c_X0_flightsOfAll l dC dI cI cR j a1 a2 a3 σ) (cwV 0 hts gX3_howMany_X0_flightsOfAll rfl rfl rfl (by decide +kernel) ⟨Nat.le_of_ble_eq_true rfl, Nat.le_of_ble_eq_true rfl⟩) ⟨fun a U g mk q => by obtain ⟨q0, qP, qE⟩ := q; exact ⟨q0, qP, cE.same (s := U) rfl qE⟩, va_recv hK hP (ci := 0) (q0 := 2) rfl rfl, fun U hU hW => ⟨rfl, by rw [hU]; exact hP.sub (ws' := (wJ cI j a1 a2 a3 σ)) [2, 3, 4, 5] rfl, hE.warm hW⟩⟩ rfl rfl hl.1 rfl (lv_room (Nat.le_of_ble_eq_true rfl)) dX3_howMany_101 ⟨Nat.zero_le _, Nat.zero_le _⟩)) (fun r_101 h_101 => ?_)
    subst h_101
    exact W.iret (v := (S_X0_flightsOfAll σ)) hx hb hr (fun t ht hW => ⟨(S_X0_flightsOfAll σ), rfl, by simp only [S_X3_howMany, if_neg k_1_0, if_neg k_1_1, if_neg k_1_2, if_neg k_1_3, if_neg k_1_4, if_neg k_1_5, if_pos k_1_6], ht⟩) (fun q h => by cases h) dX3_howMany_104
  by_cases k_1_7 : p0 = 7
  · refine lv_tableIn (off := 104) (tgt := 105) hx hb dX3_howMany_1 (by rw [k_1_7]; decide) (by rw [k_1_7]; decide) (by rw [k_1_7]; rfl) (by decide) ?_
    refine lv_aload_n hx hb dX3_howMany_105 rfl (lv_at hl 0 rfl) ?_
    refine vp_callSi (va_Run.run (va_runV (As := []) (rest := []) ⟨hx, hb, hml, hown, hts⟩ (c_X3_soundRows l dC dI cI cR x rw j a1 a2 a3 y b1 b2 b3 ξ σ η rows hCI) (cwV 0 hts gX3_howMany_X3_soundRows rfl rfl rfl (by decide +kernel) ⟨Nat.le_of_ble_eq_true rfl, Nat.le_of_ble_eq_true rfl⟩) ⟨fun a U g mk q => by obtain ⟨q0, qP, qE⟩ := q; exact ⟨q0, qP, cE.same (s := U) rfl qE⟩, va_recv hK hP (ci := 3) (q0 := 0) rfl rfl, fun U hU hW => ⟨rfl, by rw [hU]; exact hP, hE.warm hW⟩⟩ rfl rfl hl.1 rfl (lv_room (Nat.le_of_ble_eq_true rfl)) dX3_howMany_106 ⟨Nat.zero_le _, Nat.zero_le _⟩)) (fun r_106 h_106 => ?_)
    subst h_106
    exact W.iret (v := (S_X3_soundRows ξ σ η rows)) hx hb hr (fun t ht hW => ⟨(S_X3_soundRows ξ σ η rows), rfl, by simp only [S_X3_howMany, if_neg k_1_0, if_neg k_1_1, if_neg k_1_2, if_neg k_1_3, if_neg k_1_4, if_neg k_1_5, if_neg k_1_6, if_pos k_1_7], ht⟩) (fun q h => by cases h) dX3_howMany_109
  by_cases k_1_8 : p0 = 8
  · refine lv_tableIn (off := 109) (tgt := 110) hx hb dX3_howMany_1 (by rw [k_1_8]; decide) (by rw [k_1_8]; decide) (by rw [k_1_8]; rfl) (by decide) ?_
    refine lv_aload_n hx hb dX3_howMany_110 rfl (lv_at hl 0 rfl) ?_
    refine va_get (D := (dC, dI)) (ci := 3) (v := .ref j) (C := RX3) (T := TX3) (N := 4) hx hb hts in_X3 hown hK hP 0 rfl rfl 1 (by decide) q_1 (fun _ h9 => h9) rfl dX3_howMany_111 ?_
    refine lv_iconst (v := 0) hx hb dX3_howMany_114 (by decide) ?_
    refine vp_callSi (va_Run.run (va_runV (As := [.int 0]) (rest := []) ⟨hx, hb, hml, hown, hts⟩ (c_X0_propLandingIn l dC dI cI cR j a1 a2 a3 σ 0) (cwV 1 hts gX3_howMany_X0_propLandingIn rfl rfl rfl (by decide +kernel) ⟨Nat.le_of_ble_eq_true rfl, Nat.le_of_ble_eq_true rfl⟩) ⟨fun a U g mk q => by obtain ⟨q0, qP, qE⟩ := q; exact ⟨q0, qP, cE.same (s := U) rfl qE⟩, va_recv hK hP (ci := 0) (q0 := 2) rfl rfl, fun U hU hW => ⟨rfl, by rw [hU]; exact hP.sub (ws' := (wJ cI j a1 a2 a3 σ)) [2, 3, 4, 5] rfl, hE.warm hW⟩⟩ rfl rfl hl.1 rfl (lv_room (Nat.le_of_ble_eq_true rfl)) dX3_howMany_115 ⟨Nat.zero_le _, Nat.zero_le _⟩)) (fun r_115 h_115 => ?_)
    subst h_115
    exact W.iret (v := (S_X0_propLandingIn σ 0)) hx hb hr (fun t ht hW => ⟨(S_X0_propLandingIn σ 0), rfl, by simp only [S_X3_howMany, if_neg k_1_0, if_neg k_1_1, if_neg k_1_2, if_neg k_1_3, if_neg k_1_4, if_neg k_1_5, if_neg k_1_6, if_neg k_1_7, if_pos k_1_8], ht⟩) (fun q h => by cases h) dX3_howMany_118
  refine lv_tableOut (tgt := 119) hx hb dX3_howMany_1 (p_out9 k_1_0 k_1_1 k_1_2 k_1_3 k_1_4 k_1_5 k_1_6 k_1_7 k_1_8) (by decide) ?_
  refine lv_aload_n hx hb dX3_howMany_119 rfl (lv_at hl 0 rfl) ?_
  refine va_get (D := (dC, dI)) (ci := 3) (v := .ref j) (C := RX3) (T := TX3) (N := 4) hx hb hts in_X3 hown hK hP 0 rfl rfl 1 (by decide) q_1 (fun _ h9 => h9) rfl dX3_howMany_120 ?_
  refine vp_callSi (va_Run.run (va_runV (As := []) (rest := []) ⟨hx, hb, hml, hown, hts⟩ (c_X0_beatsEver l dC dI cI cR j a1 a2 a3 σ) (cwV 0 hts gX3_howMany_X0_beatsEver rfl rfl rfl (by decide +kernel) ⟨Nat.le_of_ble_eq_true rfl, Nat.le_of_ble_eq_true rfl⟩) ⟨fun a U g mk q => by obtain ⟨q0, qP, qE⟩ := q; exact ⟨q0, qP, cE.same (s := U) rfl qE⟩, va_recv hK hP (ci := 0) (q0 := 2) rfl rfl, fun U hU hW => ⟨rfl, by rw [hU]; exact hP.sub (ws' := (wJ cI j a1 a2 a3 σ)) [2, 3, 4, 5] rfl, hE.warm hW⟩⟩ rfl rfl hl.1 rfl (lv_room (Nat.le_of_ble_eq_true rfl)) dX3_howMany_123 ⟨Nat.zero_le _, Nat.zero_le _⟩)) (fun r_123 h_123 => ?_)
  subst h_123
  exact W.iret (v := (S_X0_beatsEver σ)) hx hb hr (fun t ht hW => ⟨(S_X0_beatsEver σ), rfl, by simp only [S_X3_howMany, if_neg k_1_0, if_neg k_1_1, if_neg k_1_2, if_neg k_1_3, if_neg k_1_4, if_neg k_1_5, if_neg k_1_6, if_neg k_1_7, if_neg k_1_8], ht⟩) (fun q h => by cases h) dX3_howMany_126
def S_X3_many (ξ : XS) (σ : JS) (η : YS) (rows : List RD) (p0 : Int32) : Int32 := S_X3_howMany ξ σ η rows p0
set_option maxHeartbeats 4000000 in
set_option maxRecDepth 100000 in
theorem c_X3_many (l : Launch) (dC : Nat → ClassId) (dI : Nat → Nat → Nat) (cI cR : ClassId) (x rw j a1 a2 a3 y b1 b2 b3 : Nat) (ξ : XS) (σ : JS) (η : YS) (rows : List RD) (hCI : p_CI ξ rows) (p0 : Int32) (hw : S_X3_isWithin p0 0 9 = 1) : Met l yX3_many wsX3_many ({ frames := 4, cells := 0, slots := 0, locals := 87 }) (va_Pc [.ref x, .int p0] (fun U => va_P (dC, dI) vwCl (wC cI cR x rw j a1 a2 a3 y b1 b2 b3 ξ σ η rows) U.heap ∧ cE (dC, dI) cI cR U)) (vp_Si (fun r => r = S_X3_many ξ σ η rows p0)) 0 0 (fun _ => False) := by
  refine Met.ofW (cc := cX3_many) (maxL := 2) (ret := (some .int)) (by decide) rfl ?_
  intro p e s m args below meth c s₁ B hml hv
  obtain ⟨rfl, hP, hE⟩ := hv
  have hK := hE.1
  have hx := B.exec
  have hb := B.bytes
  have hr := B.returns
  have hts := atoms_spec (ws := wsX3_many) B.pre
  have hown : s.vm.findClass RX3 = some m.cls := findClass_of_methodNamed B.named
  have hlocks := B.notSynchronized
  have hP : va_P (dC, dI) vwCl ([(x, .inr (3, [.ref rw, .ref j, .ref y, .int ξ.2])), (rw, .inl (cR, 8, .inr (.inr (.inr (.inr ξ.1))))), (j, .inr (0, [.ref a1, .ref a2, .ref a3, .int σ.2.2.2.1, .int σ.2.2.2.2.1, .int σ.2.2.2.2.2.1, .int σ.2.2.2.2.2.2.1, .double σ.2.2.2.2.2.2.2])), (a1, .inl (cI, 6, .inl σ.1)), (a2, .inl (cI, 6, .inl σ.2.1)), (a3, .inl (cI, 6, .inl σ.2.2.1)), (y, .inr (2, [.ref b1, .ref b2, .ref b3, .int η.2.2.2])), (b1, .inl (cI, 512, .inl η.1)), (b2, .inl (cI, 512, .inl η.2.1)), (b3, .inl (cI, 512, .inl η.2.2.1))] ++ wRs cI rows) s.heap := hP
  have hl := lv_entry ([.ref x, .int p0]) (n := 2) (Nat.le_of_ble_eq_true rfl)
  rw [lg_entry_eq]
  generalize (lg_sl ([.ref x, .int p0]) ++ List.replicate (2 - (lg_sl ([.ref x, .int p0])).length) Slot.unset).toArray = ls at hl ⊢
  have hl : lv_has ls 2 [(0, .ref x), (1, .int p0)] := hl
  refine lv_iload_n hx hb dX3_many_0 rfl (lv_at hl 1 rfl) ?_
  refine lv_iconst (v := 0) hx hb dX3_many_1 (by decide) ?_
  refine lv_bipush (v := 9) hx hb dX3_many_2 (by decide) ?_
  refine vp_callSi (va_Run.run (va_runS (As := [.int p0, .int 0, .int 9]) (rest := []) ⟨hx, hb, hml, hown, hts⟩ (c_X3_isWithin l p0 0 9) (va_cwS 3 hts gX3_many_X3_isWithin rfl rfl rfl (by decide +kernel) ⟨Nat.le_of_ble_eq_true rfl, Nat.le_of_ble_eq_true rfl⟩) ⟨fun a U g mk q => q, fun U hU hW => ⟨rfl, trivial⟩⟩ rfl rfl hl.1 rfl (lv_room (Nat.le_of_ble_eq_true rfl)) dX3_many_4 ⟨Nat.zero_le _, Nat.zero_le _⟩)) (fun r_4 h_4 => ?_)
  obtain ⟨rfl, hz_4⟩ := h_4
  refine lv_if_ne (tgt := 20) hx hb dX3_many_7 (by decide) (fun c_7 => ?_) (fun c_7 => ?_)
  · refine lv_aload_n hx hb dX3_many_20 rfl (lv_at hl 0 rfl) ?_
    refine lv_iload_n hx hb dX3_many_21 rfl (lv_at hl 1 rfl) ?_
    refine vp_callSi (va_Run.run (va_runV (As := [.int p0]) (rest := []) ⟨hx, hb, hml, hown, hts⟩ (c_X3_howMany l dC dI cI cR x rw j a1 a2 a3 y b1 b2 b3 ξ σ η rows hCI p0) (cwV 1 hts gX3_many_X3_howMany rfl rfl rfl (by decide +kernel) ⟨Nat.le_of_ble_eq_true rfl, Nat.le_of_ble_eq_true rfl⟩) ⟨fun a U g mk q => by obtain ⟨q0, qP, qE⟩ := q; exact ⟨q0, qP, cE.same (s := U) rfl qE⟩, va_recv hK hP (ci := 3) (q0 := 0) rfl rfl, fun U hU hW => ⟨rfl, by rw [hU]; exact hP, hE.warm hW⟩⟩ rfl rfl hl.1 rfl (lv_room (Nat.le_of_ble_eq_true rfl)) dX3_many_22 ⟨Nat.zero_le _, Nat.zero_le _⟩)) (fun r_22 h_22 => ?_)
    subst h_22
    exact W.iret (v := (S_X3_howMany ξ σ η rows p0)) hx hb hr (fun t ht hW => ⟨(S_X3_howMany ξ σ η rows p0), rfl, by simp only [S_X3_many], ht⟩) (fun q h => by cases h) dX3_many_25
  · exact absurd c_7 (by rw [hw]; decide)
def S_X3_tired (ξ : XS) (σ : JS) (η : YS) (rows : List RD) : UInt64 := S_X0_tiredness σ
set_option maxHeartbeats 4000000 in
set_option maxRecDepth 100000 in
theorem c_X3_tired (l : Launch) (dC : Nat → ClassId) (dI : Nat → Nat → Nat) (cI cR : ClassId) (x rw j a1 a2 a3 y b1 b2 b3 : Nat) (ξ : XS) (σ : JS) (η : YS) (rows : List RD) (hCI : p_CI ξ rows)   : Met l yX3_tired wsX3_tired ({ frames := 1, cells := 0, slots := 0, locals := 20 }) (va_Pc [.ref x] (fun U => va_P (dC, dI) vwCl (wC cI cR x rw j a1 a2 a3 y b1 b2 b3 ξ σ η rows) U.heap ∧ cE (dC, dI) cI cR U)) (vp_Sd (fun r => r = S_X3_tired ξ σ η rows)) 0 0 (fun _ => False) := by
  refine Met.ofW (cc := cX3_tired) (maxL := 1) (ret := (some .double)) (by decide) rfl ?_
  intro p e s m args below meth c s₁ B hml hv
  obtain ⟨rfl, hP, hE⟩ := hv
  have hK := hE.1
  have hx := B.exec
  have hb := B.bytes
  have hr := B.returns
  have hts := atoms_spec (ws := wsX3_tired) B.pre
  have hown : s.vm.findClass RX3 = some m.cls := findClass_of_methodNamed B.named
  have hlocks := B.notSynchronized
  have hP : va_P (dC, dI) vwCl ([(x, .inr (3, [.ref rw, .ref j, .ref y, .int ξ.2])), (rw, .inl (cR, 8, .inr (.inr (.inr (.inr ξ.1))))), (j, .inr (0, [.ref a1, .ref a2, .ref a3, .int σ.2.2.2.1, .int σ.2.2.2.2.1, .int σ.2.2.2.2.2.1, .int σ.2.2.2.2.2.2.1, .double σ.2.2.2.2.2.2.2])), (a1, .inl (cI, 6, .inl σ.1)), (a2, .inl (cI, 6, .inl σ.2.1)), (a3, .inl (cI, 6, .inl σ.2.2.1)), (y, .inr (2, [.ref b1, .ref b2, .ref b3, .int η.2.2.2])), (b1, .inl (cI, 512, .inl η.1)), (b2, .inl (cI, 512, .inl η.2.1)), (b3, .inl (cI, 512, .inl η.2.2.1))] ++ wRs cI rows) s.heap := hP
  have hl := lv_entry ([.ref x]) (n := 1) (Nat.le_of_ble_eq_true rfl)
  rw [lg_entry_eq]
  generalize (lg_sl ([.ref x]) ++ List.replicate (1 - (lg_sl ([.ref x])).length) Slot.unset).toArray = ls at hl ⊢
  have hl : lv_has ls 1 [(0, .ref x)] := hl
  have q_0 := hts (.fieldLink RX3 18 "Cascadecourt" "juggler" "LCascadecourt$Juggler;") (by decide +kernel)
  have in_X3 : ∀ w ∈ wsX30, w ∈ wsX3_tired := by decide +kernel
  refine lv_aload_n hx hb dX3_tired_0 rfl (lv_at hl 0 rfl) ?_
  refine va_get (D := (dC, dI)) (ci := 3) (v := .ref j) (C := RX3) (T := TX3) (N := 4) hx hb hts in_X3 hown hK hP 0 rfl rfl 1 (by decide) q_0 (fun _ h9 => h9) rfl dX3_tired_1 ?_
  refine vp_callSd (va_Run.run (va_runV (As := []) (rest := []) ⟨hx, hb, hml, hown, hts⟩ (c_X0_tiredness l dC dI cI cR j a1 a2 a3 σ) (cwV 0 hts gX3_tired_X0_tiredness rfl rfl rfl (by decide +kernel) ⟨Nat.le_of_ble_eq_true rfl, Nat.le_of_ble_eq_true rfl⟩) ⟨fun a U g mk q => by obtain ⟨q0, qP, qE⟩ := q; exact ⟨q0, qP, cE.same (s := U) rfl qE⟩, va_recv hK hP (ci := 0) (q0 := 2) rfl rfl, fun U hU hW => ⟨rfl, by rw [hU]; exact hP.sub (ws' := (wJ cI j a1 a2 a3 σ)) [2, 3, 4, 5] rfl, hE.warm hW⟩⟩ rfl rfl hl.1 rfl (lv_room (Nat.le_of_ble_eq_true rfl)) dX3_tired_4 ⟨Nat.zero_le _, Nat.zero_le _⟩)) (fun r_4 h_4 => ?_)
  subst h_4
  exact W.dret (v := (S_X0_tiredness σ)) hx hb hr (fun t ht hW => ⟨(S_X0_tiredness σ), rfl, by simp only [S_X3_tired], ht⟩) (fun q h => by cases h) dX3_tired_7
def S_X3_would (ξ : XS) (σ : JS) (η : YS) (rows : List RD) (p0 : Int32) : Int32 := S_X3_stateBehind (S_X0_state σ) p0
set_option maxHeartbeats 4000000 in
set_option maxRecDepth 100000 in
theorem c_X3_would (l : Launch) (dC : Nat → ClassId) (dI : Nat → Nat → Nat) (cI cR : ClassId) (x rw j a1 a2 a3 y b1 b2 b3 : Nat) (ξ : XS) (σ : JS) (η : YS) (rows : List RD) (hCI : p_CI ξ rows) (p0 : Int32) (hw : S_X3_isThrow p0 = 1) : Met l yX3_would wsX3_would ({ frames := 3, cells := 0, slots := 0, locals := 66 }) (va_Pc [.ref x, .int p0] (fun U => va_P (dC, dI) vwCl (wC cI cR x rw j a1 a2 a3 y b1 b2 b3 ξ σ η rows) U.heap ∧ cE (dC, dI) cI cR U)) (vp_Si (fun r => r = S_X3_would ξ σ η rows p0)) 0 0 (fun _ => False) := by
  refine Met.ofW (cc := cX3_would) (maxL := 2) (ret := (some .int)) (by decide) rfl ?_
  intro p e s m args below meth c s₁ B hml hv
  obtain ⟨rfl, hP, hE⟩ := hv
  have hK := hE.1
  have hx := B.exec
  have hb := B.bytes
  have hr := B.returns
  have hts := atoms_spec (ws := wsX3_would) B.pre
  have hown : s.vm.findClass RX3 = some m.cls := findClass_of_methodNamed B.named
  have hlocks := B.notSynchronized
  have hP : va_P (dC, dI) vwCl ([(x, .inr (3, [.ref rw, .ref j, .ref y, .int ξ.2])), (rw, .inl (cR, 8, .inr (.inr (.inr (.inr ξ.1))))), (j, .inr (0, [.ref a1, .ref a2, .ref a3, .int σ.2.2.2.1, .int σ.2.2.2.2.1, .int σ.2.2.2.2.2.1, .int σ.2.2.2.2.2.2.1, .double σ.2.2.2.2.2.2.2])), (a1, .inl (cI, 6, .inl σ.1)), (a2, .inl (cI, 6, .inl σ.2.1)), (a3, .inl (cI, 6, .inl σ.2.2.1)), (y, .inr (2, [.ref b1, .ref b2, .ref b3, .int η.2.2.2])), (b1, .inl (cI, 512, .inl η.1)), (b2, .inl (cI, 512, .inl η.2.1)), (b3, .inl (cI, 512, .inl η.2.2.1))] ++ wRs cI rows) s.heap := hP
  have hl := lv_entry ([.ref x, .int p0]) (n := 2) (Nat.le_of_ble_eq_true rfl)
  rw [lg_entry_eq]
  generalize (lg_sl ([.ref x, .int p0]) ++ List.replicate (2 - (lg_sl ([.ref x, .int p0])).length) Slot.unset).toArray = ls at hl ⊢
  have hl : lv_has ls 2 [(0, .ref x), (1, .int p0)] := hl
  have q_0 := hts (.fieldLink RX3 18 "Cascadecourt" "juggler" "LCascadecourt$Juggler;") (by decide +kernel)
  have in_X3 : ∀ w ∈ wsX30, w ∈ wsX3_would := by decide +kernel
  refine lv_iload_n hx hb dX3_would_0 rfl (lv_at hl 1 rfl) ?_
  refine vp_callSi (va_Run.run (va_runS (As := [.int p0]) (rest := []) ⟨hx, hb, hml, hown, hts⟩ (c_X3_isThrow l p0) (va_cwS 1 hts gX3_would_X3_isThrow rfl rfl rfl (by decide +kernel) ⟨Nat.le_of_ble_eq_true rfl, Nat.le_of_ble_eq_true rfl⟩) ⟨fun a U g mk q => q, fun U hU hW => ⟨rfl, trivial⟩⟩ rfl rfl hl.1 rfl (lv_room (Nat.le_of_ble_eq_true rfl)) dX3_would_1 ⟨Nat.zero_le _, Nat.zero_le _⟩)) (fun r_1 h_1 => ?_)
  obtain ⟨rfl, hz_1⟩ := h_1
  refine lv_if_ne (tgt := 17) hx hb dX3_would_4 (by decide) (fun c_4 => ?_) (fun c_4 => ?_)
  · refine lv_aload_n hx hb dX3_would_17 rfl (lv_at hl 0 rfl) ?_
    refine va_get (D := (dC, dI)) (ci := 3) (v := .ref j) (C := RX3) (T := TX3) (N := 4) hx hb hts in_X3 hown hK hP 0 rfl rfl 1 (by decide) q_0 (fun _ h9 => h9) rfl dX3_would_18 ?_
    refine vp_callSi (va_Run.run (va_runV (As := []) (rest := []) ⟨hx, hb, hml, hown, hts⟩ (c_X0_state l dC dI cI cR j a1 a2 a3 σ) (cwV 0 hts gX3_would_X0_state rfl rfl rfl (by decide +kernel) ⟨Nat.le_of_ble_eq_true rfl, Nat.le_of_ble_eq_true rfl⟩) ⟨fun a U g mk q => by obtain ⟨q0, qP, qE⟩ := q; exact ⟨q0, qP, cE.same (s := U) rfl qE⟩, va_recv hK hP (ci := 0) (q0 := 2) rfl rfl, fun U hU hW => ⟨rfl, by rw [hU]; exact hP.sub (ws' := (wJ cI j a1 a2 a3 σ)) [2, 3, 4, 5] rfl, hE.warm hW⟩⟩ rfl rfl hl.1 rfl (lv_room (Nat.le_of_ble_eq_true rfl)) dX3_would_21 ⟨Nat.zero_le _, Nat.zero_le _⟩)) (fun r_21 h_21 => ?_)
    subst h_21
    refine lv_iload_n hx hb dX3_would_24 rfl (lv_at hl 1 rfl) ?_
    refine vp_callSi (va_Run.run (va_runS (As := [.int (S_X0_state σ), .int p0]) (rest := []) ⟨hx, hb, hml, hown, hts⟩ (c_X3_stateBehind l (S_X0_state σ) p0) (va_cwS 2 hts gX3_would_X3_stateBehind rfl rfl rfl (by decide +kernel) ⟨Nat.le_of_ble_eq_true rfl, Nat.le_of_ble_eq_true rfl⟩) ⟨fun a U g mk q => q, fun U hU hW => ⟨rfl, trivial⟩⟩ rfl rfl hl.1 rfl (lv_room (Nat.le_of_ble_eq_true rfl)) dX3_would_25 ⟨Nat.zero_le _, Nat.zero_le _⟩)) (fun r_25 h_25 => ?_)
    subst h_25
    exact W.iret (v := (S_X3_stateBehind (S_X0_state σ) p0)) hx hb hr (fun t ht hW => ⟨(S_X3_stateBehind (S_X0_state σ) p0), rfl, by simp only [S_X3_would], ht⟩) (fun q h => by cases h) dX3_would_28
  · exact absurd c_4 (by rw [hw]; decide)
def S_X3_ofRow (ξ : XS) (σ : JS) (η : YS) (rows : List RD) (p1 : Int32) (i : Nat) : Int32 := S_X1_answer (rw_ rows i).2 p1
set_option maxHeartbeats 4000000 in
set_option maxRecDepth 100000 in
theorem c_X3_ofRow (l : Launch) (dC : Nat → ClassId) (dI : Nat → Nat → Nat) (cI cR : ClassId) (x rw j a1 a2 a3 y b1 b2 b3 : Nat) (ξ : XS) (σ : JS) (η : YS) (rows : List RD) (hCI : p_CI ξ rows) (p1 : Int32) (i : Nat) (hi : i < rows.length) (hw : S_X3_isWithin p1 0 9 = 1) : Met l yX3_ofRow wsX3_ofRow ({ frames := 6, cells := 0, slots := 0, locals := 129 }) (va_Pc [.ref x, .int (nI i), .int p1] (fun U => va_P (dC, dI) vwCl (wC cI cR x rw j a1 a2 a3 y b1 b2 b3 ξ σ η rows) U.heap ∧ cE (dC, dI) cI cR U)) (vp_Si (fun r => r = S_X3_ofRow ξ σ η rows p1 i)) 0 0 (fun _ => False) := by
  refine Met.ofW (cc := cX3_ofRow) (maxL := 4) (ret := (some .int)) (by decide) rfl ?_
  intro p e s m args below meth c s₁ B hml hv
  obtain ⟨rfl, hP, hE⟩ := hv
  have hK := hE.1
  have hx := B.exec
  have hb := B.bytes
  have hr := B.returns
  have hts := atoms_spec (ws := wsX3_ofRow) B.pre
  have hown : s.vm.findClass RX3 = some m.cls := findClass_of_methodNamed B.named
  have hlocks := B.notSynchronized
  have hP : va_P (dC, dI) vwCl ([(x, .inr (3, [.ref rw, .ref j, .ref y, .int ξ.2])), (rw, .inl (cR, 8, .inr (.inr (.inr (.inr ξ.1))))), (j, .inr (0, [.ref a1, .ref a2, .ref a3, .int σ.2.2.2.1, .int σ.2.2.2.2.1, .int σ.2.2.2.2.2.1, .int σ.2.2.2.2.2.2.1, .double σ.2.2.2.2.2.2.2])), (a1, .inl (cI, 6, .inl σ.1)), (a2, .inl (cI, 6, .inl σ.2.1)), (a3, .inl (cI, 6, .inl σ.2.2.1)), (y, .inr (2, [.ref b1, .ref b2, .ref b3, .int η.2.2.2])), (b1, .inl (cI, 512, .inl η.1)), (b2, .inl (cI, 512, .inl η.2.1)), (b3, .inl (cI, 512, .inl η.2.2.1))] ++ wRs cI rows) s.heap := hP
  have hl := lv_entry ([.ref x, .int (nI i), .int p1]) (n := 4) (Nat.le_of_ble_eq_true rfl)
  rw [lg_entry_eq]
  generalize (lg_sl ([.ref x, .int (nI i), .int p1]) ++ List.replicate (4 - (lg_sl ([.ref x, .int (nI i), .int p1])).length) Slot.unset).toArray = ls at hl ⊢
  have hl : lv_has ls 4 [(0, .ref x), (1, .int (nI i)), (2, .int p1)] := hl
  refine lv_aload_n hx hb dX3_ofRow_0 rfl (lv_at hl 0 rfl) ?_
  refine lv_iload_n hx hb dX3_ofRow_1 rfl (lv_at hl 1 rfl) ?_
  refine va_csr (va_Run.run (va_runV (As := [.int (nI i)]) (rest := []) ⟨hx, hb, hml, hown, hts⟩ (c_X3_rowNumbered l dC dI cI cR x rw j a1 a2 a3 y b1 b2 b3 ξ σ η rows hCI i hi) (cwV 1 hts gX3_ofRow_X3_rowNumbered rfl rfl rfl (by decide +kernel) ⟨Nat.le_of_ble_eq_true rfl, Nat.le_of_ble_eq_true rfl⟩) ⟨fun a U g mk q => by obtain ⟨q0, qP, qE⟩ := q; exact ⟨q0, qP, cE.same (s := U) rfl qE⟩, va_recv hK hP (ci := 3) (q0 := 0) rfl rfl, fun U hU hW => ⟨rfl, by rw [hU]; exact hP, hE.warm hW⟩⟩ rfl rfl hl.1 rfl (lv_room (Nat.le_of_ble_eq_true rfl)) dX3_ofRow_2 ⟨Nat.zero_le _, Nat.zero_le _⟩)) (fun _ _ => ?_)
  refine lv_astore_n (lv' := [(3, .ref ((rw_ rows i).1.1)), (0, .ref x), (1, .int (nI i)), (2, .int p1)]) hx hb dX3_ofRow_5 rfl hl (by decide) rfl (fun ls hl => ?_)
  refine lv_aload_n hx hb dX3_ofRow_6 rfl (lv_at hl 0 rfl) ?_
  refine lv_ifnonnull (tgt := 20) hx hb dX3_ofRow_7 (by decide) ?_
  refine lv_iload_n hx hb dX3_ofRow_20 rfl (lv_at hl 3 rfl) ?_
  refine lv_iconst (v := 0) hx hb dX3_ofRow_21 (by decide) ?_
  refine lv_bipush (v := 9) hx hb dX3_ofRow_22 (by decide) ?_
  refine vp_callSi (va_Run.run (va_runS (As := [.int p1, .int 0, .int 9]) (rest := []) ⟨hx, hb, hml, hown, hts⟩ (c_X3_isWithin l p1 0 9) (va_cwS 3 hts gX3_ofRow_X3_isWithin rfl rfl rfl (by decide +kernel) ⟨Nat.le_of_ble_eq_true rfl, Nat.le_of_ble_eq_true rfl⟩) ⟨fun a U g mk q => q, fun U hU hW => ⟨rfl, trivial⟩⟩ rfl rfl hl.1 rfl (lv_room (Nat.le_of_ble_eq_true rfl)) dX3_ofRow_24 ⟨Nat.zero_le _, Nat.zero_le _⟩)) (fun r_24 h_24 => ?_)
  obtain ⟨rfl, hz_24⟩ := h_24
  refine lv_if_ne (tgt := 40) hx hb dX3_ofRow_27 (by decide) (fun c_27 => ?_) (fun c_27 => ?_)
  · refine lv_aload_n hx hb dX3_ofRow_40 rfl (lv_at hl 0 rfl) ?_
    refine lv_iload_n hx hb dX3_ofRow_41 rfl (lv_at hl 3 rfl) ?_
    refine vp_callSi (va_Run.run (va_runV (As := [.int p1]) (rest := []) ⟨hx, hb, hml, hown, hts⟩ (c_X1_answer l dC dI cI cR (((rw_ rows i).1).1) (((rw_ rows i).1).2.1) (((rw_ rows i).1).2.2.1) (((rw_ rows i).1).2.2.2.1) (((rw_ rows i).1).2.2.2.2.1) (((rw_ rows i).1).2.2.2.2.2) (rw_ rows i).2 p1 (hCI.2.2.2 _ (rw_mem hi)).1) (cwV 1 hts gX3_ofRow_X1_answer rfl rfl rfl (by decide +kernel) ⟨Nat.le_of_ble_eq_true rfl, Nat.le_of_ble_eq_true rfl⟩) ⟨fun a U g mk q => by obtain ⟨q0, qP, qE⟩ := q; exact ⟨q0, qP, cE.same (s := U) rfl qE⟩, va_recv hK (p_row hP (rw_mem hi)) (ci := 1) (q0 := 0) rfl rfl, fun U hU hW => ⟨rfl, by rw [hU]; exact p_row hP (rw_mem hi), hE.warm hW⟩⟩ rfl rfl hl.1 rfl (lv_room (Nat.le_of_ble_eq_true rfl)) dX3_ofRow_42 ⟨Nat.zero_le _, Nat.zero_le _⟩)) (fun r_42 h_42 => ?_)
    subst h_42
    exact W.iret (v := (S_X1_answer (rw_ rows i).2 p1)) hx hb hr (fun t ht hW => ⟨(S_X1_answer (rw_ rows i).2 p1), rfl, by simp only [S_X3_ofRow], ht⟩) (fun q h => by cases h) dX3_ofRow_45
  · exact absurd c_27 (by rw [hw]; decide)
def S_X3_ofSite (ξ : XS) (σ : JS) (η : YS) (rows : List RD) (p1 : Int32) (p2 : Int32) (i : Nat) : Int32 := S_X1_answerAt (rw_ rows i).2 p1 p2
set_option maxHeartbeats 4000000 in
set_option maxRecDepth 100000 in
theorem c_X3_ofSite (l : Launch) (dC : Nat → ClassId) (dI : Nat → Nat → Nat) (cI cR : ClassId) (x rw j a1 a2 a3 y b1 b2 b3 : Nat) (ξ : XS) (σ : JS) (η : YS) (rows : List RD) (hCI : p_CI ξ rows) (p1 : Int32) (p2 : Int32) (i : Nat) (hi : i < rows.length) (hw : S_X1_hasSite (rw_ rows i).2 p1 = 1) (hw2 : S_X3_isWithin p2 0 4 = 1) : Met l yX3_ofSite wsX3_ofSite ({ frames := 3, cells := 0, slots := 0, locals := 64 }) (va_Pc [.ref x, .int (nI i), .int p1, .int p2] (fun U => va_P (dC, dI) vwCl (wC cI cR x rw j a1 a2 a3 y b1 b2 b3 ξ σ η rows) U.heap ∧ cE (dC, dI) cI cR U)) (vp_Si (fun r => r = S_X3_ofSite ξ σ η rows p1 p2 i)) 0 0 (fun _ => False) := by
  refine Met.ofW (cc := cX3_ofSite) (maxL := 5) (ret := (some .int)) (by decide) rfl ?_
  intro p e s m args below meth c s₁ B hml hv
  obtain ⟨rfl, hP, hE⟩ := hv
  have hK := hE.1
  have hx := B.exec
  have hb := B.bytes
  have hr := B.returns
  have hts := atoms_spec (ws := wsX3_ofSite) B.pre
  have hown : s.vm.findClass RX3 = some m.cls := findClass_of_methodNamed B.named
  have hlocks := B.notSynchronized
  have hP : va_P (dC, dI) vwCl ([(x, .inr (3, [.ref rw, .ref j, .ref y, .int ξ.2])), (rw, .inl (cR, 8, .inr (.inr (.inr (.inr ξ.1))))), (j, .inr (0, [.ref a1, .ref a2, .ref a3, .int σ.2.2.2.1, .int σ.2.2.2.2.1, .int σ.2.2.2.2.2.1, .int σ.2.2.2.2.2.2.1, .double σ.2.2.2.2.2.2.2])), (a1, .inl (cI, 6, .inl σ.1)), (a2, .inl (cI, 6, .inl σ.2.1)), (a3, .inl (cI, 6, .inl σ.2.2.1)), (y, .inr (2, [.ref b1, .ref b2, .ref b3, .int η.2.2.2])), (b1, .inl (cI, 512, .inl η.1)), (b2, .inl (cI, 512, .inl η.2.1)), (b3, .inl (cI, 512, .inl η.2.2.1))] ++ wRs cI rows) s.heap := hP
  have hl := lv_entry ([.ref x, .int (nI i), .int p1, .int p2]) (n := 5) (Nat.le_of_ble_eq_true rfl)
  rw [lg_entry_eq]
  generalize (lg_sl ([.ref x, .int (nI i), .int p1, .int p2]) ++ List.replicate (5 - (lg_sl ([.ref x, .int (nI i), .int p1, .int p2])).length) Slot.unset).toArray = ls at hl ⊢
  have hl : lv_has ls 5 [(0, .ref x), (1, .int (nI i)), (2, .int p1), (3, .int p2)] := hl
  refine lv_aload_n hx hb dX3_ofSite_0 rfl (lv_at hl 0 rfl) ?_
  refine lv_iload_n hx hb dX3_ofSite_1 rfl (lv_at hl 1 rfl) ?_
  refine va_csr (va_Run.run (va_runV (As := [.int (nI i)]) (rest := []) ⟨hx, hb, hml, hown, hts⟩ (c_X3_rowNumbered l dC dI cI cR x rw j a1 a2 a3 y b1 b2 b3 ξ σ η rows hCI i hi) (cwV 1 hts gX3_ofSite_X3_rowNumbered rfl rfl rfl (by decide +kernel) ⟨Nat.le_of_ble_eq_true rfl, Nat.le_of_ble_eq_true rfl⟩) ⟨fun a U g mk q => by obtain ⟨q0, qP, qE⟩ := q; exact ⟨q0, qP, cE.same (s := U) rfl qE⟩, va_recv hK hP (ci := 3) (q0 := 0) rfl rfl, fun U hU hW => ⟨rfl, by rw [hU]; exact hP, hE.warm hW⟩⟩ rfl rfl hl.1 rfl (lv_room (Nat.le_of_ble_eq_true rfl)) dX3_ofSite_2 ⟨Nat.zero_le _, Nat.zero_le _⟩)) (fun _ _ => ?_)
  refine lv_astore (lv' := [(4, .ref ((rw_ rows i).1.1)), (0, .ref x), (1, .int (nI i)), (2, .int p1), (3, .int p2)]) hx hb dX3_ofSite_5 hl (by decide) rfl (fun ls hl => ?_)
  refine lv_aload hx hb dX3_ofSite_7 (lv_at hl 0 rfl) ?_
  refine lv_ifnull hx hb dX3_ofSite_9 ?_
  refine lv_aload hx hb dX3_ofSite_12 (lv_at hl 0 rfl) ?_
  refine lv_iload_n hx hb dX3_ofSite_14 rfl (lv_at hl 3 rfl) ?_
  refine vp_callSi (va_Run.run (va_runV (As := [.int p1]) (rest := []) ⟨hx, hb, hml, hown, hts⟩ (c_X1_hasSite l dC dI cI cR (((rw_ rows i).1).1) (((rw_ rows i).1).2.1) (((rw_ rows i).1).2.2.1) (((rw_ rows i).1).2.2.2.1) (((rw_ rows i).1).2.2.2.2.1) (((rw_ rows i).1).2.2.2.2.2) (rw_ rows i).2 p1) (cwV 1 hts gX3_ofSite_X1_hasSite rfl rfl rfl (by decide +kernel) ⟨Nat.le_of_ble_eq_true rfl, Nat.le_of_ble_eq_true rfl⟩) ⟨fun a U g mk q => by obtain ⟨q0, qP, qE⟩ := q; exact ⟨q0, qP, cE.same (s := U) rfl qE⟩, va_recv hK (p_row hP (rw_mem hi)) (ci := 1) (q0 := 0) rfl rfl, fun U hU hW => ⟨rfl, by rw [hU]; exact p_row hP (rw_mem hi), hE.warm hW⟩⟩ rfl rfl hl.1 rfl (lv_room (Nat.le_of_ble_eq_true rfl)) dX3_ofSite_15 ⟨Nat.zero_le _, Nat.zero_le _⟩)) (fun r_15 h_15 => ?_)
  obtain ⟨rfl, hz_15⟩ := h_15
  refine lv_if_ne (tgt := 31) hx hb dX3_ofSite_18 (by decide) (fun c_18 => ?_) (fun c_18 => ?_)
  · refine lv_iload_n hx hb dX3_ofSite_31 rfl (lv_at hl 4 rfl) ?_
    refine lv_iconst (v := 0) hx hb dX3_ofSite_32 (by decide) ?_
    refine lv_iconst (v := 4) hx hb dX3_ofSite_33 (by decide) ?_
    refine vp_callSi (va_Run.run (va_runS (As := [.int p2, .int 0, .int 4]) (rest := []) ⟨hx, hb, hml, hown, hts⟩ (c_X3_isWithin l p2 0 4) (va_cwS 3 hts gX3_ofSite_X3_isWithin rfl rfl rfl (by decide +kernel) ⟨Nat.le_of_ble_eq_true rfl, Nat.le_of_ble_eq_true rfl⟩) ⟨fun a U g mk q => q, fun U hU hW => ⟨rfl, trivial⟩⟩ rfl rfl hl.1 rfl (lv_room (Nat.le_of_ble_eq_true rfl)) dX3_ofSite_34 ⟨Nat.zero_le _, Nat.zero_le _⟩)) (fun r_34 h_34 => ?_)
    obtain ⟨rfl, hz_34⟩ := h_34
    refine lv_if_ne (tgt := 50) hx hb dX3_ofSite_37 (by decide) (fun c_37 => ?_) (fun c_37 => ?_)
    · refine lv_aload hx hb dX3_ofSite_50 (lv_at hl 0 rfl) ?_
      refine lv_iload_n hx hb dX3_ofSite_52 rfl (lv_at hl 3 rfl) ?_
      refine lv_iload_n hx hb dX3_ofSite_53 rfl (lv_at hl 4 rfl) ?_
      refine vp_callSi (va_Run.run (va_runV (As := [.int p1, .int p2]) (rest := []) ⟨hx, hb, hml, hown, hts⟩ (c_X1_answerAt l dC dI cI cR (((rw_ rows i).1).1) (((rw_ rows i).1).2.1) (((rw_ rows i).1).2.2.1) (((rw_ rows i).1).2.2.2.1) (((rw_ rows i).1).2.2.2.2.1) (((rw_ rows i).1).2.2.2.2.2) (rw_ rows i).2 p1 p2) (cwV 2 hts gX3_ofSite_X1_answerAt rfl rfl rfl (by decide +kernel) ⟨Nat.le_of_ble_eq_true rfl, Nat.le_of_ble_eq_true rfl⟩) ⟨fun a U g mk q => by obtain ⟨q0, qP, qE⟩ := q; exact ⟨q0, qP, cE.same (s := U) rfl qE⟩, va_recv hK (p_row hP (rw_mem hi)) (ci := 1) (q0 := 0) rfl rfl, fun U hU hW => ⟨rfl, by rw [hU]; exact p_row hP (rw_mem hi), hE.warm hW⟩⟩ rfl rfl hl.1 rfl (lv_room (Nat.le_of_ble_eq_true rfl)) dX3_ofSite_54 ⟨Nat.zero_le _, Nat.zero_le _⟩)) (fun r_54 h_54 => ?_)
      subst h_54
      exact W.iret (v := (S_X1_answerAt (rw_ rows i).2 p1 p2)) hx hb hr (fun t ht hW => ⟨(S_X1_answerAt (rw_ rows i).2 p1 p2), rfl, by simp only [S_X3_ofSite], ht⟩) (fun q h => by cases h) dX3_ofSite_57
    · exact absurd c_37 (by rw [hw2]; decide)
  · exact absurd c_18 (by rw [hw]; decide)
def S_X3_high (ξ : XS) (σ : JS) (η : YS) (rows : List RD) (i : Nat) : UInt64 := S_X3_metresOf (S_X1_highestThrow (rw_ rows i).2)
set_option maxHeartbeats 4000000 in
set_option maxRecDepth 100000 in
theorem c_X3_high (l : Launch) (dC : Nat → ClassId) (dI : Nat → Nat → Nat) (cI cR : ClassId) (x rw j a1 a2 a3 y b1 b2 b3 : Nat) (ξ : XS) (σ : JS) (η : YS) (rows : List RD) (hCI : p_CI ξ rows) (i : Nat) (hi : i < rows.length) (hq : mOK (S_X1_highestThrow (rw_ rows i).2)) : Met l yX3_high wsX3_high ({ frames := 2, cells := 0, slots := 0, locals := 48 }) (va_Pc [.ref x, .int (nI i)] (fun U => va_P (dC, dI) vwCl (wC cI cR x rw j a1 a2 a3 y b1 b2 b3 ξ σ η rows) U.heap ∧ cE (dC, dI) cI cR U)) (vp_Sd (fun r => r = S_X3_high ξ σ η rows i)) 0 0 (fun _ => False) := by
  refine Met.ofW (cc := cX3_high) (maxL := 3) (ret := (some .double)) (by decide) rfl ?_
  intro p e s m args below meth c s₁ B hml hv
  obtain ⟨rfl, hP, hE⟩ := hv
  have hK := hE.1
  have hx := B.exec
  have hb := B.bytes
  have hr := B.returns
  have hts := atoms_spec (ws := wsX3_high) B.pre
  have hown : s.vm.findClass RX3 = some m.cls := findClass_of_methodNamed B.named
  have hlocks := B.notSynchronized
  have hP : va_P (dC, dI) vwCl ([(x, .inr (3, [.ref rw, .ref j, .ref y, .int ξ.2])), (rw, .inl (cR, 8, .inr (.inr (.inr (.inr ξ.1))))), (j, .inr (0, [.ref a1, .ref a2, .ref a3, .int σ.2.2.2.1, .int σ.2.2.2.2.1, .int σ.2.2.2.2.2.1, .int σ.2.2.2.2.2.2.1, .double σ.2.2.2.2.2.2.2])), (a1, .inl (cI, 6, .inl σ.1)), (a2, .inl (cI, 6, .inl σ.2.1)), (a3, .inl (cI, 6, .inl σ.2.2.1)), (y, .inr (2, [.ref b1, .ref b2, .ref b3, .int η.2.2.2])), (b1, .inl (cI, 512, .inl η.1)), (b2, .inl (cI, 512, .inl η.2.1)), (b3, .inl (cI, 512, .inl η.2.2.1))] ++ wRs cI rows) s.heap := hP
  have hl := lv_entry ([.ref x, .int (nI i)]) (n := 3) (Nat.le_of_ble_eq_true rfl)
  rw [lg_entry_eq]
  generalize (lg_sl ([.ref x, .int (nI i)]) ++ List.replicate (3 - (lg_sl ([.ref x, .int (nI i)])).length) Slot.unset).toArray = ls at hl ⊢
  have hl : lv_has ls 3 [(0, .ref x), (1, .int (nI i))] := hl
  refine lv_aload_n hx hb dX3_high_0 rfl (lv_at hl 0 rfl) ?_
  refine lv_iload_n hx hb dX3_high_1 rfl (lv_at hl 1 rfl) ?_
  refine va_csr (va_Run.run (va_runV (As := [.int (nI i)]) (rest := []) ⟨hx, hb, hml, hown, hts⟩ (c_X3_rowNumbered l dC dI cI cR x rw j a1 a2 a3 y b1 b2 b3 ξ σ η rows hCI i hi) (cwV 1 hts gX3_high_X3_rowNumbered rfl rfl rfl (by decide +kernel) ⟨Nat.le_of_ble_eq_true rfl, Nat.le_of_ble_eq_true rfl⟩) ⟨fun a U g mk q => by obtain ⟨q0, qP, qE⟩ := q; exact ⟨q0, qP, cE.same (s := U) rfl qE⟩, va_recv hK hP (ci := 3) (q0 := 0) rfl rfl, fun U hU hW => ⟨rfl, by rw [hU]; exact hP, hE.warm hW⟩⟩ rfl rfl hl.1 rfl (lv_room (Nat.le_of_ble_eq_true rfl)) dX3_high_2 ⟨Nat.zero_le _, Nat.zero_le _⟩)) (fun _ _ => ?_)
  refine lv_astore_n (lv' := [(2, .ref ((rw_ rows i).1.1)), (0, .ref x), (1, .int (nI i))]) hx hb dX3_high_5 rfl hl (by decide) rfl (fun ls hl => ?_)
  refine lv_aload_n hx hb dX3_high_6 rfl (lv_at hl 0 rfl) ?_
  refine lv_ifnonnull (tgt := 20) hx hb dX3_high_7 (by decide) ?_
  refine lv_aload_n hx hb dX3_high_20 rfl (lv_at hl 0 rfl) ?_
  refine vp_callSi (va_Run.run (va_runV (As := []) (rest := []) ⟨hx, hb, hml, hown, hts⟩ (c_X1_highestThrow l dC dI cI cR (((rw_ rows i).1).1) (((rw_ rows i).1).2.1) (((rw_ rows i).1).2.2.1) (((rw_ rows i).1).2.2.2.1) (((rw_ rows i).1).2.2.2.2.1) (((rw_ rows i).1).2.2.2.2.2) (rw_ rows i).2) (cwV 0 hts gX3_high_X1_highestThrow rfl rfl rfl (by decide +kernel) ⟨Nat.le_of_ble_eq_true rfl, Nat.le_of_ble_eq_true rfl⟩) ⟨fun a U g mk q => by obtain ⟨q0, qP, qE⟩ := q; exact ⟨q0, qP, cE.same (s := U) rfl qE⟩, va_recv hK (p_row hP (rw_mem hi)) (ci := 1) (q0 := 0) rfl rfl, fun U hU hW => ⟨rfl, by rw [hU]; exact p_row hP (rw_mem hi), hE.warm hW⟩⟩ rfl rfl hl.1 rfl (lv_room (Nat.le_of_ble_eq_true rfl)) dX3_high_21 ⟨Nat.zero_le _, Nat.zero_le _⟩)) (fun r_21 h_21 => ?_)
  subst h_21
  refine vp_callSd (va_Run.run (va_runS (As := [.int (S_X1_highestThrow (rw_ rows i).2)]) (rest := []) ⟨hx, hb, hml, hown, hts⟩ (c_X3_metresOf l (S_X1_highestThrow (rw_ rows i).2) hq.1 hq.2.1 hq.2.2.1 hq.2.2.2.1 hq.2.2.2.2.1 hq.2.2.2.2.2.1 hq.2.2.2.2.2.2.1 hq.2.2.2.2.2.2.2.1 hq.2.2.2.2.2.2.2.2) (va_cwS 1 hts gX3_high_X3_metresOf rfl rfl rfl (by decide +kernel) ⟨Nat.le_of_ble_eq_true rfl, Nat.le_of_ble_eq_true rfl⟩) ⟨fun a U g mk q => q, fun U hU hW => ⟨rfl, trivial⟩⟩ rfl rfl hl.1 rfl (lv_room (Nat.le_of_ble_eq_true rfl)) dX3_high_24 ⟨Nat.zero_le _, Nat.zero_le _⟩)) (fun r_24 h_24 => ?_)
  subst h_24
  exact W.dret (v := (S_X3_metresOf (S_X1_highestThrow (rw_ rows i).2))) hx hb hr (fun t ht hW => ⟨(S_X3_metresOf (S_X1_highestThrow (rw_ rows i).2)), rfl, by simp only [S_X3_high], ht⟩) (fun q h => by cases h) dX3_high_27
def G_X3_alike_35 (ξ : XS) (σ : JS) (η : YS) (rows : List RD) (i : Nat) (q : Nat) : Nat → Nat → Int32
  | 0, k => (-1)
  | mm + 1, k => (if (S_X1_isShiftedTo (rw_ rows i).2 (rw_ rows q).2 (nI k)) = 0 then G_X3_alike_35 ξ σ η rows i q mm (k + 1) else nI k)
def S_X3_alike (ξ : XS) (σ : JS) (η : YS) (rows : List RD) (i : Nat) (q : Nat) : Int32 := G_X3_alike_35 ξ σ η rows i q 8 0
set_option maxHeartbeats 4000000 in
set_option maxRecDepth 100000 in
theorem c_X3_alike (l : Launch) (dC : Nat → ClassId) (dI : Nat → Nat → Nat) (cI cR : ClassId) (x rw j a1 a2 a3 y b1 b2 b3 : Nat) (ξ : XS) (σ : JS) (η : YS) (rows : List RD) (hCI : p_CI ξ rows) (i : Nat) (q : Nat) (hi : i < rows.length) (hj : q < rows.length) : Met l yX3_alike wsX3_alike ({ frames := 4, cells := 0, slots := 0, locals := 87 }) (va_Pc [.ref x, .int (nI i), .int (nI q)] (fun U => va_P (dC, dI) vwCl (wC cI cR x rw j a1 a2 a3 y b1 b2 b3 ξ σ η rows) U.heap ∧ cE (dC, dI) cI cR U)) (vp_Si (fun r => r = S_X3_alike ξ σ η rows i q)) 0 0 (fun _ => False) := by
  refine Met.ofW (cc := cX3_alike) (maxL := 6) (ret := (some .int)) (by decide) rfl ?_
  intro p e s m args below meth c s₁ B hml hv
  obtain ⟨rfl, hP, hE⟩ := hv
  have hK := hE.1
  have hx := B.exec
  have hb := B.bytes
  have hr := B.returns
  have hts := atoms_spec (ws := wsX3_alike) B.pre
  have hown : s.vm.findClass RX3 = some m.cls := findClass_of_methodNamed B.named
  have hlocks := B.notSynchronized
  have hP : va_P (dC, dI) vwCl ([(x, .inr (3, [.ref rw, .ref j, .ref y, .int ξ.2])), (rw, .inl (cR, 8, .inr (.inr (.inr (.inr ξ.1))))), (j, .inr (0, [.ref a1, .ref a2, .ref a3, .int σ.2.2.2.1, .int σ.2.2.2.2.1, .int σ.2.2.2.2.2.1, .int σ.2.2.2.2.2.2.1, .double σ.2.2.2.2.2.2.2])), (a1, .inl (cI, 6, .inl σ.1)), (a2, .inl (cI, 6, .inl σ.2.1)), (a3, .inl (cI, 6, .inl σ.2.2.1)), (y, .inr (2, [.ref b1, .ref b2, .ref b3, .int η.2.2.2])), (b1, .inl (cI, 512, .inl η.1)), (b2, .inl (cI, 512, .inl η.2.1)), (b3, .inl (cI, 512, .inl η.2.2.1))] ++ wRs cI rows) s.heap := hP
  have hl := lv_entry ([.ref x, .int (nI i), .int (nI q)]) (n := 6) (Nat.le_of_ble_eq_true rfl)
  rw [lg_entry_eq]
  generalize (lg_sl ([.ref x, .int (nI i), .int (nI q)]) ++ List.replicate (6 - (lg_sl ([.ref x, .int (nI i), .int (nI q)])).length) Slot.unset).toArray = ls at hl ⊢
  have hl : lv_has ls 6 [(0, .ref x), (1, .int (nI i)), (2, .int (nI q))] := hl
  refine lv_aload_n hx hb dX3_alike_0 rfl (lv_at hl 0 rfl) ?_
  refine lv_iload_n hx hb dX3_alike_1 rfl (lv_at hl 1 rfl) ?_
  refine va_csr (va_Run.run (va_runV (As := [.int (nI i)]) (rest := []) ⟨hx, hb, hml, hown, hts⟩ (c_X3_rowNumbered l dC dI cI cR x rw j a1 a2 a3 y b1 b2 b3 ξ σ η rows hCI i hi) (cwV 1 hts gX3_alike_X3_rowNumbered rfl rfl rfl (by decide +kernel) ⟨Nat.le_of_ble_eq_true rfl, Nat.le_of_ble_eq_true rfl⟩) ⟨fun a U g mk q => by obtain ⟨q0, qP, qE⟩ := q; exact ⟨q0, qP, cE.same (s := U) rfl qE⟩, va_recv hK hP (ci := 3) (q0 := 0) rfl rfl, fun U hU hW => ⟨rfl, by rw [hU]; exact hP, hE.warm hW⟩⟩ rfl rfl hl.1 rfl (lv_room (Nat.le_of_ble_eq_true rfl)) dX3_alike_2 ⟨Nat.zero_le _, Nat.zero_le _⟩)) (fun _ _ => ?_)
  refine lv_astore_n (lv' := [(3, .ref ((rw_ rows i).1.1)), (0, .ref x), (1, .int (nI i)), (2, .int (nI q))]) hx hb dX3_alike_5 rfl hl (by decide) rfl (fun ls hl => ?_)
  refine lv_aload_n hx hb dX3_alike_6 rfl (lv_at hl 1 rfl) ?_
  refine lv_iload_n hx hb dX3_alike_7 rfl (lv_at hl 3 rfl) ?_
  refine va_csr (va_Run.run (va_runV (As := [.int (nI q)]) (rest := []) ⟨hx, hb, hml, hown, hts⟩ (c_X3_rowNumbered l dC dI cI cR x rw j a1 a2 a3 y b1 b2 b3 ξ σ η rows hCI q hj) (cwV 1 hts gX3_alike_X3_rowNumbered rfl rfl rfl (by decide +kernel) ⟨Nat.le_of_ble_eq_true rfl, Nat.le_of_ble_eq_true rfl⟩) ⟨fun a U g mk q => by obtain ⟨q0, qP, qE⟩ := q; exact ⟨q0, qP, cE.same (s := U) rfl qE⟩, va_recv hK hP (ci := 3) (q0 := 0) rfl rfl, fun U hU hW => ⟨rfl, by rw [hU]; exact hP, hE.warm hW⟩⟩ rfl rfl hl.1 rfl (lv_room (Nat.le_of_ble_eq_true rfl)) dX3_alike_8 ⟨Nat.zero_le _, Nat.zero_le _⟩)) (fun _ _ => ?_)
  refine lv_astore (lv' := [(4, .ref ((rw_ rows q).1.1)), (3, .ref ((rw_ rows i).1.1)), (0, .ref x), (1, .int (nI i)), (2, .int (nI q))]) hx hb dX3_alike_11 hl (by decide) rfl (fun ls hl => ?_)
  refine lv_aload_n hx hb dX3_alike_13 rfl (lv_at hl 1 rfl) ?_
  refine lv_ifnull hx hb dX3_alike_14 ?_
  refine lv_aload hx hb dX3_alike_17 (lv_at hl 0 rfl) ?_
  refine lv_ifnonnull (tgt := 32) hx hb dX3_alike_19 (by decide) ?_
  refine lv_iconst (v := 0) hx hb dX3_alike_32 (by decide) ?_
  refine lv_istore (lv' := [(5, .int 0), (4, .ref ((rw_ rows q).1.1)), (3, .ref ((rw_ rows i).1.1)), (0, .ref x), (1, .int (nI i)), (2, .int (nI q))]) hx hb dX3_alike_33 hl (by decide) rfl (fun ls hl => ?_)
  have loop35 : ∀ (mm k : Nat) (ls : Array Slot), k + mm = 8 → G_X3_alike_35 ξ σ η rows i q mm k = S_X3_alike ξ σ η rows i q → lv_has ls 6 [(5, .int (nI k)), (4, .ref ((rw_ rows q).1.1)), (3, .ref ((rw_ rows i).1.1)), (0, .ref x), (1, .int (nI i)), (2, .int (nI q))] → W p l e (headSpec wsX3_alike ({ frames := 4, cells := 0, slots := 0, locals := 87 })).room s m (([.ref x, .int (nI i), .int (nI q)] : List Value).toArray) below meth c s.heap [] 0 0 (MQ below (vp_Si (fun r => r = S_X3_alike ξ σ η rows i q)) (([.ref x, .int (nI i), .int (nI q)] : List Value).toArray) s 0 0 (fun _ => False)) (F0 m 35 ls []) := by
    intro mm
    induction mm with
    | zero =>
      intro k ls hk35 hG35 hl
      refine lv_iload hx hb dX3_alike_35 (lv_at hl 0 rfl) ?_
      refine lv_bipush (v := 8) hx hb dX3_alike_37 (by decide) ?_
      refine lv_icmp_ge (tgt := 62) hx hb dX3_alike_39 (by decide) (fun c_39 => ?_) (fun c_39 => ?_)
      · refine lv_iconst (v := (-1)) hx hb dX3_alike_62 (by decide) ?_
        exact W.iret (v := (-1)) hx hb hr (fun t ht hW => ⟨(-1), rfl, by rw [← hG35]; simp only [G_X3_alike_35], ht⟩) (fun q h => by cases h) dX3_alike_63
      · exact absurd (nI_le (a := 8) (by omega) (by omega)) c_39
    | succ mm ih35 =>
      intro k ls hk35 hG35 hl
      refine lv_iload hx hb dX3_alike_35 (lv_at hl 0 rfl) ?_
      refine lv_bipush (v := 8) hx hb dX3_alike_37 (by decide) ?_
      refine lv_icmp_ge (tgt := 62) hx hb dX3_alike_39 (by decide) (fun c_39 => ?_) (fun c_39 => ?_)
      · exact absurd c_39 (nI_ge (b := 8) (by omega) (by decide))
      · refine lv_aload_n hx hb dX3_alike_42 rfl (lv_at hl 2 rfl) ?_
        refine lv_aload hx hb dX3_alike_43 (lv_at hl 1 rfl) ?_
        refine lv_iload hx hb dX3_alike_45 (lv_at hl 0 rfl) ?_
        refine vp_callSi (va_Run.run (va_runV (As := [.ref ((rw_ rows q).1.1), .int (nI k)]) (rest := []) ⟨hx, hb, hml, hown, hts⟩ (c_X1_isShiftedTo l dC dI cI cR (((rw_ rows i).1).1) (((rw_ rows i).1).2.1) (((rw_ rows i).1).2.2.1) (((rw_ rows i).1).2.2.2.1) (((rw_ rows i).1).2.2.2.2.1) (((rw_ rows i).1).2.2.2.2.2) (rw_ rows i).2 (((rw_ rows q).1).1) (((rw_ rows q).1).2.1) (((rw_ rows q).1).2.2.1) (((rw_ rows q).1).2.2.2.1) (((rw_ rows q).1).2.2.2.2.1) (((rw_ rows q).1).2.2.2.2.2) (rw_ rows q).2 (nI k)) (cwV 2 hts gX3_alike_X1_isShiftedTo rfl rfl rfl (by decide +kernel) ⟨Nat.le_of_ble_eq_true rfl, Nat.le_of_ble_eq_true rfl⟩) ⟨fun a U g mk q => by obtain ⟨q0, qP, qE⟩ := q; exact ⟨q0, qP, cE.same (s := U) rfl qE⟩, va_recv hK (p_row hP (rw_mem hi)) (ci := 1) (q0 := 0) rfl rfl, fun U hU hW => ⟨rfl, by rw [hU]; exact va_P.app (p_row hP (rw_mem hi)) (p_row hP (rw_mem hj)), hE.warm hW⟩⟩ rfl rfl hl.1 rfl (lv_room (Nat.le_of_ble_eq_true rfl)) dX3_alike_47 ⟨Nat.zero_le _, Nat.zero_le _⟩)) (fun r_47 h_47 => ?_)
        obtain ⟨rfl, hz_47⟩ := h_47
        refine lv_if_eq (tgt := 56) hx hb dX3_alike_50 (by decide) (fun c_50 => ?_) (fun c_50 => ?_)
        · refine lv_iinc (v := nI (k + 1)) (lv' := [(5, .int (nI (k + 1))), (4, .ref ((rw_ rows q).1.1)), (3, .ref ((rw_ rows i).1.1)), (0, .ref x), (1, .int (nI i)), (2, .int (nI q))]) hx hb dX3_alike_56 hl (k := 0) rfl ((nI_succ _).symm) (by decide) rfl (fun ls hl => ?_)
          refine lv_goto (tgt := 35) hx hb dX3_alike_59 (by decide) ?_
          exact ih35 (k + 1) ls (by omega) (by rw [← hG35]; simp only [G_X3_alike_35, if_pos c_50]) (lv_sub hl [0, 1, 2, 3, 4, 5] rfl)
        · refine lv_iload hx hb dX3_alike_53 (lv_at hl 0 rfl) ?_
          exact W.iret (v := (nI k)) hx hb hr (fun t ht hW => ⟨(nI k), rfl, by rw [← hG35]; simp only [G_X3_alike_35, if_neg c_50], ht⟩) (fun q h => by cases h) dX3_alike_55
  exact loop35 8 0 ls (by omega) (by simp only [S_X3_alike]) (lv_sub hl [0, 1, 2, 3, 4, 5] rfl)
