/-! LAID BY MY PROGRAM wip/gen/p26.py: contracts, method by method -/
def S_L_below (p0 : Int32) (p1 : Int32) : Int32 := (p0 &&& 2147483647) - (p0 &&& 2147483647) / p1 * p1
set_option maxHeartbeats 4000000 in
set_option maxRecDepth 100000 in
theorem c_L_below (l : Launch)  (p0 : Int32) (p1 : Int32) (hn : ¬ p1 = 0) : Met l yL_below wsL_below ({ frames := 0, cells := 0, slots := 0, locals := 0 }) (va_Pc [.int p0, .int p1] (fun _ => True)) (vp_Si (fun r => r = S_L_below p0 p1)) 0 0 (fun _ => False) := by
  refine Met.ofW (cc := cL_below) (maxL := 2) (ret := (some .int)) (by decide) rfl ?_
  intro p e s m args below meth c s₁ B hml hv
  obtain ⟨rfl, -⟩ := hv
  have hx := B.exec
  have hb := B.bytes
  have hr := B.returns
  have hts := atoms_spec (ws := wsL_below) B.pre
  have hown : s.vm.findClass RL = some m.cls := findClass_of_methodNamed B.named
  have hlocks := B.notSynchronized
  have hl := lv_entry ([.int p0, .int p1]) (n := 2) (Nat.le_of_ble_eq_true rfl)
  rw [lg_entry_eq]
  generalize (lg_sl ([.int p0, .int p1]) ++ List.replicate (2 - (lg_sl ([.int p0, .int p1])).length) Slot.unset).toArray = ls at hl ⊢
  have hl : lv_has ls 2 [(0, .int p0), (1, .int p1)] := hl
  have q_0 := hts (.constant RL 7 (2147483647)) (by decide +kernel)
  refine lv_iload_n hx hb dL_below_0 rfl (lv_at hl 0 rfl) ?_
  refine lv_ldc hx hb hown q_0 dL_below_1 ?_
  refine lv_iand hx hb dL_below_3 ?_
  refine lv_iload_n hx hb dL_below_4 rfl (lv_at hl 1 rfl) ?_
  refine lv_irem hx hb dL_below_5 hn ?_
  exact W.iret (v := ((p0 &&& 2147483647) - (p0 &&& 2147483647) / p1 * p1)) hx hb hr (fun t ht hW => ⟨((p0 &&& 2147483647) - (p0 &&& 2147483647) / p1 * p1), rfl, by simp only [S_L_below], ht⟩) (fun q h => by cases h) dL_below_6
def S_L_cell (n : Nat) (f : Nat → Int32) (p1 : Int32) : Int32 := (if (nI n) ≤ p1 then 790386105 * (p1 + 3) else f p1.toNatClampNeg)
set_option maxHeartbeats 4000000 in
set_option maxRecDepth 100000 in
theorem c_L_cell (l : Launch) (dC : Nat → ClassId) (dI : Nat → Nat → Nat) (cI cR : ClassId) (a n : Nat) (f : Nat → Int32) (hn : n < 2 ^ 31) (p1 : Int32) (h0 : ¬ p1 < 0) : Met l yL_cell wsL_cell ({ frames := 0, cells := 0, slots := 0, locals := 0 }) (va_Pc [.ref a, .int p1] (fun U => va_P (dC, dI) vwCl [(a, .inl (cI, n, .inl f))] U.heap ∧ cE (dC, dI) cI cR U)) (vp_Si (fun r => r = S_L_cell n f p1)) 0 0 (fun _ => False) := by
  refine Met.ofW (cc := cL_cell) (maxL := 2) (ret := (some .int)) (by decide) rfl ?_
  intro p e s m args below meth c s₁ B hml hv
  obtain ⟨rfl, hP, hE⟩ := hv
  have hK := hE.1
  have hx := B.exec
  have hb := B.bytes
  have hr := B.returns
  have hts := atoms_spec (ws := wsL_cell) B.pre
  have hown : s.vm.findClass RL = some m.cls := findClass_of_methodNamed B.named
  have hlocks := B.notSynchronized
  have hP : va_P (dC, dI) vwCl [(a, .inl (cI, n, .inl f))] s.heap := hP
  have hl := lv_entry ([.ref a, .int p1]) (n := 2) (Nat.le_of_ble_eq_true rfl)
  rw [lg_entry_eq]
  generalize (lg_sl ([.ref a, .int p1]) ++ List.replicate (2 - (lg_sl ([.ref a, .int p1])).length) Slot.unset).toArray = ls at hl ⊢
  have hl : lv_has ls 2 [(0, .ref a), (1, .int p1)] := hl
  have q_0 := hts (.constant RL 8 (790386105)) (by decide +kernel)
  refine lv_iload_n hx hb dL_cell_0 rfl (lv_at hl 1 rfl) ?_
  refine lv_aload_n hx hb dL_cell_1 rfl (lv_at hl 0 rfl) ?_
  refine va_alen (v := nI n) hx hb hK hP 0 0 rfl rfl rfl dL_cell_2 ?_
  refine lv_icmp_ge (tgt := 12) hx hb dL_cell_3 (by decide) (fun c_3 => ?_) (fun c_3 => ?_)
  · refine lv_ldc hx hb hown q_0 dL_cell_12 ?_
    refine lv_iload_n hx hb dL_cell_14 rfl (lv_at hl 1 rfl) ?_
    refine lv_iconst (v := 3) hx hb dL_cell_15 (by decide) ?_
    refine lv_iadd hx hb dL_cell_16 ?_
    refine lv_imul hx hb dL_cell_17 ?_
    exact W.iret (v := (790386105 * (p1 + 3))) hx hb hr (fun t ht hW => ⟨(790386105 * (p1 + 3)), rfl, by simp only [S_L_cell, if_pos c_3], ht⟩) (fun q h => by cases h) dL_cell_18
  · refine lv_aload_n hx hb dL_cell_6 rfl (lv_at hl 0 rfl) ?_
    refine lv_iload_n hx hb dL_cell_7 rfl (lv_at hl 1 rfl) ?_
    refine va_iald hx hb hK hP 0 0 rfl rfl (p_vp hn h0 c_3) dL_cell_8 ?_
    refine lv_goto (tgt := 18) hx hb dL_cell_9 (by decide) ?_
    exact W.iret (v := (f p1.toNatClampNeg)) hx hb hr (fun t ht hW => ⟨(f p1.toNatClampNeg), rfl, by simp only [S_L_cell, if_neg c_3], ht⟩) (fun q h => by cases h) dL_cell_18
def G_L_number_10 (n : Nat) (f : Nat → Int32) : Nat → Nat → Int32 → Int32
  | 0, k, v1_10 => v1_10
  | mm + 1, k, v1_10 => G_L_number_10 n f mm (k + 1) ((10 * v1_10) + (f (nI k).toNatClampNeg))
def S_L_number (n : Nat) (f : Nat → Int32) : Int32 := G_L_number_10 n f n 0 0
set_option maxHeartbeats 4000000 in
set_option maxRecDepth 100000 in
theorem c_L_number (l : Launch) (dC : Nat → ClassId) (dI : Nat → Nat → Nat) (cI cR : ClassId) (a n : Nat) (f : Nat → Int32) (hn : n < 2 ^ 31)   : Met l yL_number wsL_number ({ frames := 0, cells := 0, slots := 0, locals := 0 }) (va_Pc [.ref a] (fun U => va_P (dC, dI) vwCl [(a, .inl (cI, n, .inl f))] U.heap ∧ cE (dC, dI) cI cR U)) (vp_Si (fun r => r = S_L_number n f)) 0 0 (fun _ => False) := by
  refine Met.ofW (cc := cL_number) (maxL := 6) (ret := (some .int)) (by decide) rfl ?_
  intro p e s m args below meth c s₁ B hml hv
  obtain ⟨rfl, hP, hE⟩ := hv
  have hK := hE.1
  have hx := B.exec
  have hb := B.bytes
  have hr := B.returns
  have hlocks := B.notSynchronized
  have hP : va_P (dC, dI) vwCl [(a, .inl (cI, n, .inl f))] s.heap := hP
  have hl := lv_entry ([.ref a]) (n := 6) (Nat.le_of_ble_eq_true rfl)
  rw [lg_entry_eq]
  generalize (lg_sl ([.ref a]) ++ List.replicate (6 - (lg_sl ([.ref a])).length) Slot.unset).toArray = ls at hl ⊢
  have hl : lv_has ls 6 [(0, .ref a)] := hl
  refine lv_iconst (v := 0) hx hb dL_number_0 (by decide) ?_
  refine lv_istore_n (lv' := [(1, .int 0), (0, .ref a)]) hx hb dL_number_1 rfl hl (by decide) rfl (fun ls hl => ?_)
  refine lv_aload_n hx hb dL_number_2 rfl (lv_at hl 1 rfl) ?_
  refine lv_astore_n (lv' := [(2, .ref a), (1, .int 0), (0, .ref a)]) hx hb dL_number_3 rfl hl (by decide) rfl (fun ls hl => ?_)
  refine lv_aload_n hx hb dL_number_4 rfl (lv_at hl 0 rfl) ?_
  refine va_alen (v := nI n) hx hb hK hP 0 0 rfl rfl rfl dL_number_5 ?_
  refine lv_istore_n (lv' := [(3, .int (nI n)), (2, .ref a), (1, .int 0), (0, .ref a)]) hx hb dL_number_6 rfl hl (by decide) rfl (fun ls hl => ?_)
  refine lv_iconst (v := 0) hx hb dL_number_7 (by decide) ?_
  refine lv_istore (lv' := [(4, .int 0), (3, .int (nI n)), (2, .ref a), (1, .int 0), (0, .ref a)]) hx hb dL_number_8 hl (by decide) rfl (fun ls hl => ?_)
  have loop10 : ∀ (mm k : Nat) (v1_10 : Int32) (ls : Array Slot), k + mm = n → G_L_number_10 n f mm k v1_10 = S_L_number n f → lv_has ls 6 [(4, .int (nI k)), (3, .int (nI n)), (2, .ref a), (1, .int v1_10), (0, .ref a)] → W p l e (headSpec wsL_number ({ frames := 0, cells := 0, slots := 0, locals := 0 })).room s m (([.ref a] : List Value).toArray) below meth c s.heap [] 0 0 (MQ below (vp_Si (fun r => r = S_L_number n f)) (([.ref a] : List Value).toArray) s 0 0 (fun _ => False)) (F0 m 10 ls []) := by
    intro mm
    induction mm with
    | zero =>
      intro k v1_10 ls hk10 hG10 hl
      refine lv_iload hx hb dL_number_10 (lv_at hl 0 rfl) ?_
      refine lv_iload_n hx hb dL_number_12 rfl (lv_at hl 1 rfl) ?_
      refine lv_icmp_ge (tgt := 36) hx hb dL_number_13 (by decide) (fun c_13 => ?_) (fun c_13 => ?_)
      · refine lv_iload_n hx hb dL_number_36 rfl (lv_at hl 3 rfl) ?_
        exact W.iret (v := v1_10) hx hb hr (fun t ht hW => ⟨v1_10, rfl, by rw [← hG10]; simp only [G_L_number_10], ht⟩) (fun q h => by cases h) dL_number_37
      · exact absurd (nI_le (by omega) (by omega)) c_13
    | succ mm ih10 =>
      intro k v1_10 ls hk10 hG10 hl
      refine lv_iload hx hb dL_number_10 (lv_at hl 0 rfl) ?_
      refine lv_iload_n hx hb dL_number_12 rfl (lv_at hl 1 rfl) ?_
      refine lv_icmp_ge (tgt := 36) hx hb dL_number_13 (by decide) (fun c_13 => ?_) (fun c_13 => ?_)
      · exact absurd c_13 (nI_ge (by omega) (by omega))
      · refine lv_aload_n hx hb dL_number_16 rfl (lv_at hl 2 rfl) ?_
        refine lv_iload hx hb dL_number_17 (lv_at hl 0 rfl) ?_
        refine va_iald hx hb hK hP 0 0 rfl rfl (vp_in_nI (by omega) (by omega)) dL_number_19 ?_
        refine lv_istore (lv' := [(5, .int (f (nI k).toNatClampNeg)), (4, .int (nI k)), (3, .int (nI n)), (2, .ref a), (1, .int v1_10), (0, .ref a)]) hx hb dL_number_20 hl (by decide) rfl (fun ls hl => ?_)
        refine lv_bipush (v := 10) hx hb dL_number_22 (by decide) ?_
        refine lv_iload_n hx hb dL_number_24 rfl (lv_at hl 4 rfl) ?_
        refine lv_imul hx hb dL_number_25 ?_
        refine lv_iload hx hb dL_number_26 (lv_at hl 0 rfl) ?_
        refine lv_iadd hx hb dL_number_28 ?_
        refine lv_istore_n (lv' := [(1, .int ((10 * v1_10) + (f (nI k).toNatClampNeg))), (5, .int (f (nI k).toNatClampNeg)), (4, .int (nI k)), (3, .int (nI n)), (2, .ref a), (0, .ref a)]) hx hb dL_number_29 rfl hl (by decide) rfl (fun ls hl => ?_)
        refine lv_iinc (v := nI (k + 1)) (lv' := [(4, .int (nI (k + 1))), (1, .int ((10 * v1_10) + (f (nI k).toNatClampNeg))), (5, .int (f (nI k).toNatClampNeg)), (3, .int (nI n)), (2, .ref a), (0, .ref a)]) hx hb dL_number_30 hl (k := 2) rfl ((nI_succ _).symm) (by decide) rfl (fun ls hl => ?_)
        refine lv_goto (tgt := 10) hx hb dL_number_33 (by decide) ?_
        exact ih10 (k + 1) ((10 * v1_10) + (f (nI k).toNatClampNeg)) ls (by omega) (by rw [← hG10]; simp only [G_L_number_10]) (lv_sub hl [0, 3, 4, 1, 5] rfl)
  exact loop10 n 0 0 ls (by omega) (by simp only [S_L_number]) (lv_sub hl [0, 1, 2, 3, 4] rfl)
