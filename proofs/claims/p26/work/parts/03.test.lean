set_option maxHeartbeats 4000000 in
set_option maxRecDepth 100000 in
theorem c_X3_cell (l : Launch) (dC : Nat → ClassId) (dI : Nat → Nat → Nat) (cI cR : ClassId) (a n : Nat) (f : Nat → Int32) (hn : n < 2 ^ 31) (p1 : Int32) : Met l yX3_cell wsX3_cell ({ frames := 0, cells := 0, slots := 0, locals := 0 }) (va_Pc [.ref a, .int p1] (fun U => va_P (dC, dI) vwCl [(a, .inl (cI, n, .inl f))] U.heap ∧ cE (dC, dI) cI cR U)) (vp_Si (fun r => r = p_cell (nI n) f p1)) 0 0 (fun _ => False) := by
  refine Met.ofW (cc := cX3_cell) (maxL := 2) (ret := (some .int)) (by decide) rfl ?_
  intro p e s m args below meth c s₁ B hml hv
  obtain ⟨rfl, hP, hE⟩ := hv
  have hK := hE.1
  have hx := B.exec
  have hb := B.bytes
  have hr := B.returns
  have hlocks := B.notSynchronized
  have hl := lv_entry ([.ref a, .int p1]) (n := 2) (Nat.le_of_ble_eq_true rfl)
  rw [lg_entry_eq]
  generalize (lg_sl ([.ref a, .int p1]) ++ List.replicate (2 - (lg_sl ([.ref a, .int p1])).length) Slot.unset).toArray = ls at hl ⊢
  have hl : lv_has ls 2 [(0, .ref a), (1, .int p1)] := hl
  refine lv_iload_n hx hb dX3_cell_0 rfl (lv_at hl 1 rfl) ?_
  refine lv_if_lt (tgt := 16) hx hb dX3_cell_1 (by decide) (fun c_1 => ?_) (fun c_1 => ?_)
  · refine lv_iconst (v := 0) hx hb dX3_cell_16 (by decide) ?_
    exact W.iret (v := 0) hx hb hr (fun t ht hW => ⟨0, rfl, by simp only [p_cell, if_pos c_1], ht⟩) (fun q h => by cases h) dX3_cell_17
  · refine lv_iload_n hx hb dX3_cell_4 rfl (lv_at hl 1 rfl) ?_
    refine lv_aload_n hx hb dX3_cell_5 rfl (lv_at hl 0 rfl) ?_
    refine va_alen (v := nI n) hx hb hK hP 0 0 rfl rfl rfl dX3_cell_6 ?_
    refine lv_icmp_ge (tgt := 16) hx hb dX3_cell_7 (by decide) (fun c_7 => ?_) (fun c_7 => ?_)
    · refine lv_iconst (v := 0) hx hb dX3_cell_16 (by decide) ?_
      exact W.iret (v := 0) hx hb hr (fun t ht hW => ⟨0, rfl, by simp only [p_cell, if_neg c_1, if_pos c_7], ht⟩) (fun q h => by cases h) dX3_cell_17
    · refine lv_aload_n hx hb dX3_cell_10 rfl (lv_at hl 0 rfl) ?_
      refine lv_iload_n hx hb dX3_cell_11 rfl (lv_at hl 1 rfl) ?_
      refine va_iald hx hb hK hP 0 0 rfl rfl (p_vp hn c_1 c_7) dX3_cell_12 ?_
      refine lv_goto (tgt := 17) hx hb dX3_cell_13 (by decide) ?_
      exact W.iret (v := f p1.toNatClampNeg) hx hb hr (fun t ht hW => ⟨_, rfl, by simp only [p_cell, if_neg c_1, if_neg c_7], ht⟩) (fun q h => by cases h) dX3_cell_17
