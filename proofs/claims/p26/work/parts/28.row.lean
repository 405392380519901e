/-! a row of the law, by cells: written by wip/p26/mk28.py -/
def PG (g : Nat → Int32) (d : Nat) : Prop := ∀ i, i < d → ∃ e, e ≤ 9 ∧ g i = nI e
theorem PG.set {g : Nat → Int32} {d k e : Nat} (h : PG g d) (he : e ≤ 9) (hk : k < 2 ^ 31) : PG (upd g (nI k).toNatClampNeg (nI e)) d := by
  intro i hi
  rw [nI_clamp hk]
  by_cases hik : i = k
  · exact ⟨e, he, by rw [hik]; exact upd_same⟩
  · obtain ⟨e2, h2, h3⟩ := h i hi
    exact ⟨e2, h2, by rw [upd_other hik]; exact h3⟩
def cntB (b : Nat → Int32) : Nat → Nat
  | 0 => 0
  | m + 1 => cntB b m + (if b m = 0 then 0 else 1)
theorem cntB_0 : ∀ m, cntB (fun _ => 0) m = 0
  | 0 => rfl
  | m + 1 => by
    show cntB (fun _ => 0) m + (if (0 : Int32) = 0 then 0 else 1) = 0
    rw [cntB_0 m, if_pos rfl]
theorem cntB_upd {b : Nat → Int32} {v : Nat} {x : Int32} : ∀ m, cntB (upd b v x) m ≤ cntB b m + (if v < m then 1 else 0)
  | 0 => Nat.zero_le _
  | m + 1 => by
    have ih := cntB_upd (b := b) (v := v) (x := x) m
    show cntB (upd b v x) m + (if upd b v x m = 0 then 0 else 1) ≤ cntB b m + (if b m = 0 then 0 else 1) + (if v < m + 1 then 1 else 0)
    by_cases h1 : m = v
    · rw [if_neg (show ¬ v < m by omega)] at ih
      rw [if_pos (show v < m + 1 by omega)]
      split <;> split <;> omega
    · rw [upd_other h1]
      by_cases h2 : v < m
      · rw [if_pos h2] at ih
        rw [if_pos (show v < m + 1 by omega)]
        omega
      · rw [if_neg h2] at ih
        rw [if_neg (show ¬ v < m + 1 by omega)]
        omega
theorem cntB_free {b : Nat → Int32} : ∀ m, cntB b m < m → ∃ j, j < m ∧ b j = 0
  | 0, h => absurd h (Nat.not_lt_zero _)
  | m + 1, h => by
    by_cases h1 : b m = 0
    · exact ⟨m, by omega, h1⟩
    · have h2 : cntB b m + (if b m = 0 then 0 else 1) < m + 1 := h
      rw [if_neg h1] at h2
      obtain ⟨j, h3, h4⟩ := cntB_free (b := b) m (by omega)
      exact ⟨j, by omega, h4⟩
theorem va_nA {sz a : Nat} (h : a < sz) : ¬ va_A [] sz a := by
  rintro (⟨k, e, h2⟩ | h2)
  · simp at h2
  · omega
theorem va_X.same {b L : Nat} {xs : Nat → Int32} {u U : State} {H : Heap} (hv : u.vm = U.vm) (h : va_X b L xs u H) : va_X b L xs U H := va_X.moved (by rw [hv]; exact Vm.Alike.refl _) h
set_option maxHeartbeats 4000000 in
set_option maxRecDepth 100000 in
/-- a cell of the script, or what stands for one behind its end -/
theorem c_L_cellX (l : Launch) (a n : Nat) (f : Nat → Int32) (hn : n < 2 ^ 31) (p1 : Int32) (h0 : ¬ p1 < 0) : Met l yL_cell wsL_cell ({ frames := 0, cells := 0, slots := 0, locals := 0 }) (va_Pc [.ref a, .int p1] (fun U => va_X a n f U U.heap ∧ a < U.heap.size)) (vp_Si (fun r => r = S_L_cell n f p1)) 0 0 (fun _ => False) := by
  refine Met.ofW (cc := cL_cell) (maxL := 2) (ret := (some .int)) (by decide) rfl ?_
  intro p e s m args below meth c s₁ B hml hv
  obtain ⟨rfl, hX, hbl⟩ := hv
  have hx := B.exec
  have hb := B.bytes
  have hr := B.returns
  have hts := atoms_spec (ws := wsL_cell) B.pre
  have hown : s.vm.findClass RL = some m.cls := findClass_of_methodNamed B.named
  have hlocks := B.notSynchronized
  have hS : va_S (fun _ => False) s.heap s.heap [] := va_S.rf
  have hl := lv_entry ([.ref a, .int p1]) (n := 2) (Nat.le_of_ble_eq_true rfl)
  rw [lg_entry_eq]
  generalize (lg_sl ([.ref a, .int p1]) ++ List.replicate (2 - (lg_sl ([.ref a, .int p1])).length) Slot.unset).toArray = ls at hl ⊢
  have hl : lv_has ls 2 [(0, .ref a), (1, .int p1)] := hl
  have q_0 := hts (.constant RL 8 (790386105)) (by decide +kernel)
  refine lv_iload_n hx hb dL_cell_0 rfl (lv_at hl 1 rfl) ?_
  refine lv_aload_n hx hb dL_cell_1 rfl (lv_at hl 0 rfl) ?_
  refine va_slen hx hb hX hbl (fun h => h) hS dL_cell_2 ?_
  refine lv_icmp_ge (tgt := 12) hx hb dL_cell_3 (by decide) (fun c_3 => ?_) (fun c_3 => ?_)
  · refine lv_ldc hx hb hown q_0 dL_cell_12 ?_
    refine lv_iload_n hx hb dL_cell_14 rfl (lv_at hl 1 rfl) ?_
    refine lv_iconst (v := 3) hx hb dL_cell_15 (by decide) ?_
    refine lv_iadd hx hb dL_cell_16 ?_
    refine lv_imul hx hb dL_cell_17 ?_
    exact W.iret (v := (790386105 * (p1 + 3))) hx hb hr (fun t ht hW => ⟨(790386105 * (p1 + 3)), rfl, (by unfold S_L_cell; exact (if_pos c_3).symm), ht⟩) (fun q h => by cases h) dL_cell_18
  · refine lv_aload_n hx hb dL_cell_6 rfl (lv_at hl 0 rfl) ?_
    refine lv_iload_n hx hb dL_cell_7 rfl (lv_at hl 1 rfl) ?_
    refine va_sld hx hb hX hbl (fun h => h) hS (p_vp hn h0 c_3) dL_cell_8 ?_
    refine lv_goto (tgt := 18) hx hb dL_cell_9 (by decide) ?_
    exact W.iret (v := (f p1.toNatClampNeg)) hx hb hr (fun t ht hW => ⟨(f p1.toNatClampNeg), rfl, (by unfold S_L_cell; exact (if_neg c_3).symm), ht⟩) (fun q h => by cases h) dL_cell_18
set_option maxHeartbeats 4000000 in
set_option maxRecDepth 100000 in
/-- a row by cells: at least one place and at most eight, none above nine; the script stays -/
theorem c_L_row (l : Launch) (dC : Nat → ClassId) (dI : Nat → Nat → Nat) (cI cR : ClassId) (sz a n : Nat) (f : Nat → Int32) (hn : n < 2 ^ 31) (r : Nat) (hr9 : r < 1000) : Met l yL_row wsL_row ({ frames := 1, cells := 2, slots := 16, locals := 40 }) (va_Pc [.ref a, .int (nI r)] (fun U => U.heap.size = sz ∧ va_X a n f U U.heap ∧ a < U.heap.size ∧ cE (dC, dI) cI cR U)) (va_Qr (fun u : Nat × (Nat → Int32) => 1 ≤ u.1 ∧ u.1 ≤ 8 ∧ PG u.2 u.1) (fun (u : Nat × (Nat → Int32)) (q : Nat) (t : State) => va_P (dC, dI) vwCl [(q, .inl (cI, u.1, .inl u.2))] t.heap ∧ va_D (va_A [] sz) [(q, .inl (cI, u.1, .inl u.2))]) (va_A [] sz)) 2 16 (va_A [] sz) := by
  refine Met.ofW (cc := cL_row) (maxL := 8) (ret := (some (.array .int))) (by decide) rfl ?_
  intro p e s m args below meth c s₁ B hml hv
  obtain ⟨rfl, hsz, hX, hal, hE⟩ := hv
  have hK := hE.1
  have hx := B.exec
  have hb := B.bytes
  have hr := B.returns
  have hts := atoms_spec (ws := wsL_row) B.pre
  have hown : s.vm.findClass RL = some m.cls := findClass_of_methodNamed B.named
  have hlocks := B.notSynchronized
  subst hsz
  have hA : ∀ q : Nat, s.heap.size ≤ q → va_A [] s.heap.size q := fun q h => Or.inr h
  have hnA : ¬ va_A [] s.heap.size a := va_nA hal
  have hS : va_S (va_A [] s.heap.size) s.heap s.heap [] := va_S.rf
  have hP : va_P (dC, dI) vwCl [] s.heap := fun k q h => by simp at h
  have hD : va_D (va_A [] s.heap.size) [] := ⟨fun i j p q h => by simp at h, fun k q h => by simp at h⟩
  have hl := lv_entry ([.ref a, .int (nI r)]) (n := 8) (Nat.le_of_ble_eq_true rfl)
  rw [lg_entry_eq]
  generalize (lg_sl ([.ref a, .int (nI r)]) ++ List.replicate (8 - (lg_sl ([.ref a, .int (nI r)])).length) Slot.unset).toArray = ls at hl ⊢
  have hl : lv_has ls 8 [(0, .ref a), (1, .int (nI r))] := hl
  have q_i := hts (.arrayClass .int) (by decide +kernel)
  have q_z := hts (.arrayClass .boolean) (by decide +kernel)
  refine lv_aload_n hx hb dL_row_0 rfl (lv_at hl 0 rfl) ?_
  refine lv_iload_n hx hb dL_row_1 rfl (lv_at hl 1 rfl) ?_
  refine vp_callSi (va_Run.run (va_runS (As := [.ref a, .int (nI r)]) (rest := []) ⟨hx, hb, hml, hown, hts⟩ (c_L_cellX l a n f hn (nI r) (nI_pos (by omega))) (va_cwS 2 hts gL_row_L_cell rfl rfl rfl (by decide +kernel) ⟨Nat.le_of_ble_eq_true rfl, Nat.le_of_ble_eq_true rfl⟩) ⟨fun a U g mk q => by obtain ⟨q0, qX, qL⟩ := q; exact ⟨q0, va_X.same (u := U) rfl qX, qL⟩, fun U hU hW => ⟨rfl, by rw [hU]; exact (hX.kept (hS.2.1 a hal hnA)).moved hW.alike, by rw [hU]; exact Nat.lt_of_lt_of_le hal hS.1⟩⟩ rfl rfl hl.1 rfl (lv_room (Nat.le_of_ble_eq_true rfl)) dL_row_2 ⟨Nat.le_of_ble_eq_true rfl, Nat.le_of_ble_eq_true rfl⟩)) (fun r_2 h_2 => ?_)
  subst h_2
  generalize S_L_cell n f (nI r) = X
  refine lv_istore_n (lv' := [(2, .int X), (0, .ref a), (1, .int (nI r))]) hx hb dL_row_5 rfl hl (by decide) rfl (fun ls hl => ?_)
  refine lv_iconst (v := 1) hx hb dL_row_6 (by decide) ?_
  refine lv_iload_n hx hb dL_row_7 rfl (lv_at hl 0 rfl) ?_
  refine lv_bipush (v := 8) hx hb dL_row_8 (by decide) ?_
  refine vp_callSi (va_Run.run (va_runS (As := [.int X, .int 8]) (rest := [.int 1]) ⟨hx, hb, hml, hown, hts⟩ (c_L_below l X 8 (by decide)) (va_cwS 2 hts gL_row_L_below rfl rfl rfl (by decide +kernel) ⟨Nat.le_of_ble_eq_true rfl, Nat.le_of_ble_eq_true rfl⟩) ⟨fun a U g mk q => q, fun U hU hW => ⟨rfl, trivial⟩⟩ rfl rfl hl.1 rfl (lv_room (Nat.le_of_ble_eq_true rfl)) dL_row_10 ⟨Nat.le_of_ble_eq_true rfl, Nat.le_of_ble_eq_true rfl⟩)) (fun r_10 h_10 => ?_)
  subst h_10
  refine lv_iadd hx hb dL_row_13 ?_
  obtain ⟨d, hd1, hd8, hd⟩ : ∃ d, 1 ≤ d ∧ d ≤ 8 ∧ 1 + S_L_below X 8 = nI d := by
    obtain ⟨b0, hb0, e0⟩ := p_below (v := X) (n := 8) (by decide) (by decide)
    have e1 : S_L_below X 8 = nI b0 := e0
    refine ⟨1 + b0, by omega, by omega, ?_⟩
    rw [e1]
    exact nI_add 1 b0
  rw [hd]
  refine va_newa (atype := .int) (ty := .int) (N' := d) (a0 := (d, .inl (fun _ => 0))) hx hb q_i rfl hK hP hD hS hA (fun _ => rfl) (nI_pos (by omega)) (nI_clamp (by omega)) (by show d * 4 ≤ 536870912; omega) (Nat.le_of_ble_eq_true rfl) (by show 0 + d ≤ 16; omega) dL_row_14 (fun q cA H hK9 hP hD hS => ?_)
  obtain rfl : cI = cA := (p_sameI hK hK9).symm
  clear hK9
  have hP : va_P (dC, dI) vwCl [(q, .inl (cI, d, .inl (fun _ => 0)))] H := hP
  have hD : va_D (va_A [] s.heap.size) [(q, .inl (cI, d, .inl (fun _ => 0)))] := hD
  refine W.widen (k := 1) (n := 8) (by omega) (by omega) ?_
  refine lv_astore_n (lv' := [(3, .ref q), (2, .int X), (0, .ref a), (1, .int (nI r))]) hx hb dL_row_16 rfl hl (by decide) rfl (fun ls hl => ?_)
  refine lv_iconst (v := 0) hx hb dL_row_17 (by decide) ?_
  refine lv_istore (lv' := [(4, .int 0), (3, .ref q), (2, .int X), (0, .ref a), (1, .int (nI r))]) hx hb dL_row_18 hl (by decide) rfl (fun ls hl => ?_)
  have fin : ∀ (pc : Nat) (g : Nat → Int32) (H : Heap) (locs : List Loc) (ls : Array Slot), decode cL_row pc = .ok (.areturn, 1) → PG g d → va_P (dC, dI) vwCl [(q, .inl (cI, d, .inl g))] H → va_D (va_A [] s.heap.size) [(q, .inl (cI, d, .inl g))] → va_S (va_A [] s.heap.size) s.heap H locs → W p l e (headSpec wsL_row ({ frames := 1, cells := 2, slots := 16, locals := 40 })).room s m (([.ref a, .int (nI r)] : List Value).toArray) below meth c H locs 2 16 (MQ below (va_Qr (fun u : Nat × (Nat → Int32) => 1 ≤ u.1 ∧ u.1 ≤ 8 ∧ PG u.2 u.1) (fun (u : Nat × (Nat → Int32)) (q : Nat) (t : State) => va_P (dC, dI) vwCl [(q, .inl (cI, u.1, .inl u.2))] t.heap ∧ va_D (va_A [] s.heap.size) [(q, .inl (cI, u.1, .inl u.2))]) (va_A [] s.heap.size)) (([.ref a, .int (nI r)] : List Value).toArray) s 2 16 (va_A [] s.heap.size)) (F0 m pc ls [.ref q]) := by
    intro pc g H locs ls hdg hg hP hD hS
    exact W.aret (v := .ref q) hx hb hr (Or.inr ⟨_, rfl⟩) (Or.inr ⟨_, rfl⟩) (fun t ht hW => ⟨⟨(d, g), q, rfl, ⟨hd1, hd8, hg⟩, by rw [ht]; exact hP, hD⟩, hS.F ht⟩) hS.2.2 hdg
  have loop78 : ∀ (z : Nat) (cB : ClassId), va_K (dC, dI) vwCl (cT cI cR ++ [(cB, .boolean)]) s → ∀ (mm k : Nat) (g b : Nat → Int32) (H : Heap) (locs : List Loc) (ls : Array Slot), k + mm = d → PG g d → cntB b d ≤ k → va_P (dC, dI) vwCl [(q, .inl (cI, d, .inl g)), (z, .inl (cB, d, .inl b))] H → va_D (va_A [] s.heap.size) [(q, .inl (cI, d, .inl g)), (z, .inl (cB, d, .inl b))] → va_S (va_A [] s.heap.size) s.heap H locs → lv_has ls 8 [(5, .int (nI k)), (4, .ref z), (3, .ref q), (2, .int X), (0, .ref a), (1, .int (nI r))] → W p l e (headSpec wsL_row ({ frames := 1, cells := 2, slots := 16, locals := 40 })).room s m (([.ref a, .int (nI r)] : List Value).toArray) below meth c H locs 2 16 (MQ below (va_Qr (fun u : Nat × (Nat → Int32) => 1 ≤ u.1 ∧ u.1 ≤ 8 ∧ PG u.2 u.1) (fun (u : Nat × (Nat → Int32)) (q : Nat) (t : State) => va_P (dC, dI) vwCl [(q, .inl (cI, u.1, .inl u.2))] t.heap ∧ va_D (va_A [] s.heap.size) [(q, .inl (cI, u.1, .inl u.2))]) (va_A [] s.heap.size)) (([.ref a, .int (nI r)] : List Value).toArray) s 2 16 (va_A [] s.heap.size)) (F0 m 78 ls []) := by
    intro z cB hK2 mm
    induction mm with
    | zero =>
      intro k g b H locs ls hk hg hc hP hD hS hl
      refine lv_iload hx hb dL_row_78 (lv_at hl 0 rfl) ?_
      refine lv_aload_n hx hb dL_row_80 rfl (lv_at hl 2 rfl) ?_
      refine va_alen (v := nI d) hx hb hK hP 0 0 rfl rfl rfl dL_row_81 ?_
      refine lv_icmp_ge (tgt := 172) hx hb dL_row_82 (by decide) (fun c_82 => ?_) (fun c_82 => ?_)
      · refine lv_aload_n hx hb dL_row_172 rfl (lv_at hl 2 rfl) ?_
        exact fin 173 g H locs ls dL_row_173 hg (hP.sub [0] rfl) (hD.sub [0] (by decide) rfl) hS
      · exact absurd (nI_le (by omega) (by omega)) c_82
    | succ mm ih =>
      intro k g b H locs ls hk hg hc hP hD hS hl
      refine lv_iload hx hb dL_row_78 (lv_at hl 0 rfl) ?_
      refine lv_aload_n hx hb dL_row_80 rfl (lv_at hl 2 rfl) ?_
      refine va_alen (v := nI d) hx hb hK hP 0 0 rfl rfl rfl dL_row_81 ?_
      refine lv_icmp_ge (tgt := 172) hx hb dL_row_82 (by decide) (fun c_82 => ?_) (fun c_82 => ?_)
      · exact absurd c_82 (nI_ge (by omega) (by omega))
      · obtain ⟨ek, hek, egk⟩ := hg k (by omega)
        refine lv_iload hx hb dL_row_85 (lv_at hl 0 rfl) ?_
        refine lv_aload_n hx hb dL_row_87 rfl (lv_at hl 2 rfl) ?_
        refine lv_iload hx hb dL_row_88 (lv_at hl 0 rfl) ?_
        refine va_iald hx hb hK hP 0 0 rfl rfl (vp_in_nI (by omega) (by omega)) dL_row_90 ?_
        refine lv_iadd hx hb dL_row_91 ?_
        refine lv_aload_n hx hb dL_row_92 rfl (lv_at hl 2 rfl) ?_
        refine va_alen (v := nI d) hx hb hK hP 0 0 rfl rfl rfl dL_row_93 ?_
        refine lv_irem hx hb dL_row_94 (nI_ne0 (by omega) (by omega)) ?_
        rw [nI_clamp (show k < 2 ^ 31 by omega), egk, nI_add, nI_rem (by omega) (by omega)]
        refine lv_istore (lv' := [(6, .int (nI ((k + ek) % d))), (5, .int (nI k)), (4, .ref z), (3, .ref q), (2, .int X), (0, .ref a), (1, .int (nI r))]) hx hb dL_row_95 hl (by decide) rfl (fun ls hl => ?_)
        have K117 : ∀ (v : Nat) (ls : Array Slot), v < d → b v = 0 → lv_has ls 8 [(6, .int (nI v)), (5, .int (nI k)), (4, .ref z), (3, .ref q), (2, .int X), (0, .ref a), (1, .int (nI r))] → W p l e (headSpec wsL_row ({ frames := 1, cells := 2, slots := 16, locals := 40 })).room s m (([.ref a, .int (nI r)] : List Value).toArray) below meth c H locs 2 16 (MQ below (va_Qr (fun u : Nat × (Nat → Int32) => 1 ≤ u.1 ∧ u.1 ≤ 8 ∧ PG u.2 u.1) (fun (u : Nat × (Nat → Int32)) (q : Nat) (t : State) => va_P (dC, dI) vwCl [(q, .inl (cI, u.1, .inl u.2))] t.heap ∧ va_D (va_A [] s.heap.size) [(q, .inl (cI, u.1, .inl u.2))]) (va_A [] s.heap.size)) (([.ref a, .int (nI r)] : List Value).toArray) s 2 16 (va_A [] s.heap.size)) (F0 m 117 ls []) := by
          intro v ls hv hbv hl
          refine lv_aload hx hb dL_row_117 (lv_at hl 2 rfl) ?_
          refine lv_iload hx hb dL_row_119 (lv_at hl 0 rfl) ?_
          refine lv_iconst (v := 1) hx hb dL_row_121 (by decide) ?_
          refine va_zast hx hb hK2 hP hD hS 1 2 rfl rfl (vp_in_nI (by omega) (by omega)) dL_row_122 (fun H locs hP hD hS => ?_)
          have en : vp_nar .boolean 1 = 1 := by first | rfl | decide +kernel
          rw [en, nI_clamp (show v < 2 ^ 31 by omega)] at hP hD
          have hP : va_P (dC, dI) vwCl [(q, .inl (cI, d, .inl g)), (z, .inl (cB, d, .inl (upd b v 1)))] H := hP
          have hD : va_D (va_A [] s.heap.size) [(q, .inl (cI, d, .inl g)), (z, .inl (cB, d, .inl (upd b v 1)))] := hD
          refine lv_iload hx hb dL_row_123 (lv_at hl 0 rfl) ?_
          refine lv_iload hx hb dL_row_125 (lv_at hl 1 rfl) ?_
          refine lv_isub hx hb dL_row_127 ?_
          refine lv_aload_n hx hb dL_row_128 rfl (lv_at hl 3 rfl) ?_
          refine va_alen (v := nI d) hx hb hK hP 0 0 rfl rfl rfl dL_row_129 ?_
          refine vp_callSi (va_Run.run (va_runS (As := [.int (nI v - nI k), .int (nI d)]) (rest := []) ⟨hx, hb, hml, hown, hts⟩ (c_J9_floorMod_7cf53 l (nI v - nI k) (nI d) (nI_ne0 (by omega) (by omega))) (va_cwS 2 hts gL_row_J9_floorMod_7cf53 rfl rfl rfl (by decide +kernel) ⟨Nat.le_of_ble_eq_true rfl, Nat.le_of_ble_eq_true rfl⟩) ⟨fun a U g mk q => q, fun U hU hW => ⟨rfl, trivial⟩⟩ rfl rfl hl.1 rfl (lv_room (Nat.le_of_ble_eq_true rfl)) dL_row_130 ⟨Nat.le_of_ble_eq_true rfl, Nat.le_of_ble_eq_true rfl⟩)) (fun r_130 h_130 => ?_)
          subst h_130
          obtain ⟨w, hw, ew⟩ : ∃ w, w < d ∧ S_J9_floorMod_7cf53 (nI v - nI k) (nI d) = nI w := ⟨_, Nat.mod_lt _ (by omega), p_fmB ⟨d, by omega⟩ ⟨v, by omega⟩ ⟨k, by omega⟩ (show d ≠ 0 by omega)⟩
          rw [ew]
          refine lv_istore (lv' := [(7, .int (nI w)), (6, .int (nI v)), (5, .int (nI k)), (4, .ref z), (3, .ref q), (2, .int X), (0, .ref a), (1, .int (nI r))]) hx hb dL_row_133 hl (by decide) rfl (fun ls hl => ?_)
          refine lv_aload_n hx hb dL_row_135 rfl (lv_at hl 4 rfl) ?_
          refine lv_iload hx hb dL_row_136 (lv_at hl 2 rfl) ?_
          refine lv_iload hx hb dL_row_138 (lv_at hl 0 rfl) ?_
          refine lv_aload_n hx hb dL_row_140 rfl (lv_at hl 4 rfl) ?_
          refine va_alen (v := nI d) hx hb hK hP 0 0 rfl rfl rfl dL_row_141 ?_
          refine lv_aload_n hx hb dL_row_142 rfl (lv_at hl 4 rfl) ?_
          refine lv_iload hx hb dL_row_143 (lv_at hl 2 rfl) ?_
          refine va_iald hx hb hK hP 0 0 rfl rfl (vp_in_nI (by omega) (by omega)) dL_row_145 ?_
          refine lv_iload_n hx hb dL_row_146 rfl (lv_at hl 5 rfl) ?_
          refine lv_iconst (v := 5) hx hb dL_row_147 (by decide) ?_
          refine lv_ishr hx hb dL_row_148 ?_
          refine lv_iadd hx hb dL_row_149 ?_
          refine lv_bipush (v := 9) hx hb dL_row_150 (by decide) ?_
          refine lv_iload hx hb dL_row_152 (lv_at hl 0 rfl) ?_
          refine lv_isub hx hb dL_row_154 ?_
          refine lv_aload_n hx hb dL_row_155 rfl (lv_at hl 4 rfl) ?_
          refine va_alen (v := nI d) hx hb hK hP 0 0 rfl rfl rfl dL_row_156 ?_
          refine lv_idiv hx hb dL_row_157 (nI_ne0 (by omega) (by omega)) ?_
          refine lv_iconst (v := 1) hx hb dL_row_158 (by decide) ?_
          refine lv_iadd hx hb dL_row_159 ?_
          have e9 : (9 : Int32) - nI w = nI (9 - w) := nI_sub (a := 9) (b := w) (by omega)
          have hq9 : (9 - w) / d < 100 := Nat.lt_of_le_of_lt (Nat.div_le_self _ _) (by omega)
          have hy1 : (9 - w) / d + 1 < 2 ^ 31 := by generalize (9 - w) / d = z9 at hq9 ⊢; omega
          have ey : (9 - nI w) / nI d + 1 = nI ((9 - w) / d + 1) := by rw [e9, nI_div (by omega) (by omega)]; exact nI_1 _
          rw [ey]
          generalize hy : g (nI k).toNatClampNeg + X >>> (5 &&& 31) = Y
          refine vp_callSi (va_Run.run (va_runS (As := [.int Y, .int (nI ((9 - w) / d + 1))]) (rest := [.int (nI d), .int (nI w), .int (nI k), .ref q]) ⟨hx, hb, hml, hown, hts⟩ (c_L_below l Y (nI ((9 - w) / d + 1)) (nI_ne0 (Nat.succ_pos _) hy1)) (va_cwS 2 hts gL_row_L_below rfl rfl rfl (by decide +kernel) ⟨Nat.le_of_ble_eq_true rfl, Nat.le_of_ble_eq_true rfl⟩) ⟨fun a U g mk q => q, fun U hU hW => ⟨rfl, trivial⟩⟩ rfl rfl hl.1 rfl (lv_room (Nat.le_of_ble_eq_true rfl)) dL_row_160 ⟨Nat.le_of_ble_eq_true rfl, Nat.le_of_ble_eq_true rfl⟩)) (fun r_160 h_160 => ?_)
          subst h_160
          refine lv_imul hx hb dL_row_163 ?_
          refine lv_iadd hx hb dL_row_164 ?_
          obtain ⟨u, hu, eu⟩ := p_below (v := Y) (n := (9 - w) / d + 1) (Nat.succ_pos _) hy1
          have hm := p_made (l := w) (d := d) (b := u) (by omega) hu
          rw [eu, nI_mul, nI_add]
          refine va_iast hx hb hK hP hD hS 0 0 rfl rfl (vp_in_nI (by omega) (by omega)) dL_row_165 (fun H locs hP hD hS => ?_)
          refine lv_iinc (v := nI (k + 1)) (lv' := [(5, .int (nI (k + 1))), (7, .int (nI w)), (6, .int (nI v)), (4, .ref z), (3, .ref q), (2, .int X), (0, .ref a), (1, .int (nI r))]) hx hb dL_row_166 hl (k := 2) rfl ((nI_succ _).symm) (by decide) rfl (fun ls hl => ?_)
          refine lv_goto (tgt := 78) hx hb dL_row_169 (by decide) ?_
          have hcu := cntB_upd (b := b) (v := v) (x := 1) d
          rw [if_pos hv] at hcu
          exact ih (k + 1) _ (upd b v 1) H locs ls (by omega) (hg.set hm (by omega)) (by omega) hP hD hS (lv_sub hl [0, 3, 4, 5, 6, 7] rfl)
        have loop97 : ∀ (j : Nat), j < d → b j = 0 → ∀ (nn v : Nat) (ls : Array Slot), v < d → (v + nn) % d = j → lv_has ls 8 [(6, .int (nI v)), (5, .int (nI k)), (4, .ref z), (3, .ref q), (2, .int X), (0, .ref a), (1, .int (nI r))] → W p l e (headSpec wsL_row ({ frames := 1, cells := 2, slots := 16, locals := 40 })).room s m (([.ref a, .int (nI r)] : List Value).toArray) below meth c H locs 2 16 (MQ below (va_Qr (fun u : Nat × (Nat → Int32) => 1 ≤ u.1 ∧ u.1 ≤ 8 ∧ PG u.2 u.1) (fun (u : Nat × (Nat → Int32)) (q : Nat) (t : State) => va_P (dC, dI) vwCl [(q, .inl (cI, u.1, .inl u.2))] t.heap ∧ va_D (va_A [] s.heap.size) [(q, .inl (cI, u.1, .inl u.2))]) (va_A [] s.heap.size)) (([.ref a, .int (nI r)] : List Value).toArray) s 2 16 (va_A [] s.heap.size)) (F0 m 97 ls []) := by
          intro j hj hbj nn
          induction nn with
          | zero =>
            intro v ls hv hvj hl
            refine lv_aload hx hb dL_row_97 (lv_at hl 2 rfl) ?_
            refine lv_iload hx hb dL_row_99 (lv_at hl 0 rfl) ?_
            refine va_zald hx hb hK2 hP 1 2 rfl rfl (vp_in_nI (by omega) (by omega)) dL_row_101 ?_
            refine lv_if_eq (tgt := 117) hx hb dL_row_102 (by decide) (fun c_102 => ?_) (fun c_102 => ?_)
            · exact K117 v ls hv (by rw [nI_clamp (show v < 2 ^ 31 by omega)] at c_102; exact c_102) hl
            · exfalso
              rw [nI_clamp (show v < 2 ^ 31 by omega)] at c_102
              rw [Nat.add_zero, Nat.mod_eq_of_lt hv] at hvj
              exact c_102 (by rw [hvj]; exact hbj)
          | succ nn ih97 =>
            intro v ls hv hvj hl
            refine lv_aload hx hb dL_row_97 (lv_at hl 2 rfl) ?_
            refine lv_iload hx hb dL_row_99 (lv_at hl 0 rfl) ?_
            refine va_zald hx hb hK2 hP 1 2 rfl rfl (vp_in_nI (by omega) (by omega)) dL_row_101 ?_
            refine lv_if_eq (tgt := 117) hx hb dL_row_102 (by decide) (fun c_102 => ?_) (fun c_102 => ?_)
            · exact K117 v ls hv (by rw [nI_clamp (show v < 2 ^ 31 by omega)] at c_102; exact c_102) hl
            · refine lv_iload hx hb dL_row_105 (lv_at hl 0 rfl) ?_
              refine lv_iconst (v := 1) hx hb dL_row_107 (by decide) ?_
              refine lv_iadd hx hb dL_row_108 ?_
              refine lv_aload_n hx hb dL_row_109 rfl (lv_at hl 3 rfl) ?_
              refine va_alen (v := nI d) hx hb hK hP 0 0 rfl rfl rfl dL_row_110 ?_
              refine lv_irem hx hb dL_row_111 (nI_ne0 (by omega) (by omega)) ?_
              rw [nI_1, nI_rem (by omega) (by omega)]
              refine lv_istore (lv' := [(6, .int (nI ((v + 1) % d))), (5, .int (nI k)), (4, .ref z), (3, .ref q), (2, .int X), (0, .ref a), (1, .int (nI r))]) hx hb dL_row_112 hl (by decide) rfl (fun ls hl => ?_)
              refine lv_goto (tgt := 97) hx hb dL_row_114 (by decide) ?_
              exact ih97 ((v + 1) % d) ls (Nat.mod_lt _ (by omega)) (by rw [Nat.mod_add_mod, show v + 1 + nn = v + (nn + 1) by omega]; exact hvj) hl
        obtain ⟨j, hj, hbj⟩ := cntB_free (b := b) d (by omega)
        have hv0 : (k + ek) % d < d := Nat.mod_lt _ (by omega)
        exact loop97 j hj hbj (j + d - (k + ek) % d) _ ls hv0 (by rw [show (k + ek) % d + (j + d - (k + ek) % d) = j + d by omega, Nat.add_mod_right]; exact Nat.mod_eq_of_lt hj) hl
  have K57 : ∀ (g : Nat → Int32) (H : Heap) (locs : List Loc) (ls : Array Slot), PG g d → va_P (dC, dI) vwCl [(q, .inl (cI, d, .inl g))] H → va_D (va_A [] s.heap.size) [(q, .inl (cI, d, .inl g))] → va_S (va_A [] s.heap.size) s.heap H locs → lv_has ls 8 [(3, .ref q), (2, .int X), (0, .ref a), (1, .int (nI r))] → W p l e (headSpec wsL_row ({ frames := 1, cells := 2, slots := 16, locals := 40 })).room s m (([.ref a, .int (nI r)] : List Value).toArray) below meth c H locs 1 8 (MQ below (va_Qr (fun u : Nat × (Nat → Int32) => 1 ≤ u.1 ∧ u.1 ≤ 8 ∧ PG u.2 u.1) (fun (u : Nat × (Nat → Int32)) (q : Nat) (t : State) => va_P (dC, dI) vwCl [(q, .inl (cI, u.1, .inl u.2))] t.heap ∧ va_D (va_A [] s.heap.size) [(q, .inl (cI, u.1, .inl u.2))]) (va_A [] s.heap.size)) (([.ref a, .int (nI r)] : List Value).toArray) s 2 16 (va_A [] s.heap.size)) (F0 m 57 ls []) := by
    intro g H locs ls hg hP hD hS hl
    refine lv_iload_n hx hb dL_row_57 rfl (lv_at hl 1 rfl) ?_
    refine lv_iconst (v := 3) hx hb dL_row_58 (by decide) ?_
    refine lv_ishr hx hb dL_row_59 ?_
    refine lv_iconst (v := 4) hx hb dL_row_60 (by decide) ?_
    generalize X >>> (3 &&& 31) = Y
    refine vp_callSi (va_Run.run (va_runS (As := [.int Y, .int 4]) (rest := []) ⟨hx, hb, hml, hown, hts⟩ (c_L_below l Y 4 (by decide)) (va_cwS 2 hts gL_row_L_below rfl rfl rfl (by decide +kernel) ⟨Nat.le_of_ble_eq_true rfl, Nat.le_of_ble_eq_true rfl⟩) ⟨fun a U g mk q => q, fun U hU hW => ⟨rfl, trivial⟩⟩ rfl rfl hl.1 rfl (lv_room (Nat.le_of_ble_eq_true rfl)) dL_row_61 ⟨Nat.le_of_ble_eq_true rfl, Nat.le_of_ble_eq_true rfl⟩)) (fun r_61 h_61 => ?_)
    subst h_61
    refine lv_if_ne (tgt := 69) hx hb dL_row_64 (by decide) (fun c_64 => ?_) (fun c_64 => ?_)
    · refine lv_aload_n hx hb dL_row_69 rfl (lv_at hl 0 rfl) ?_
      refine va_alen (v := nI d) hx hb hK hP 0 0 rfl rfl rfl dL_row_70 ?_
      refine va_newa (atype := .boolean) (ty := .boolean) (N' := d) (a0 := (d, .inl (fun _ => 0))) hx hb q_z rfl hK hP hD hS hA (fun _ => rfl) (nI_pos (by omega)) (nI_clamp (by omega)) (by show d * 1 ≤ 536870912; omega) (Nat.le_of_ble_eq_true rfl) (by show 8 + d ≤ 16; omega) dL_row_71 (fun z cB H hK2 hP hD hS => ?_)
      have hP : va_P (dC, dI) vwCl [(q, .inl (cI, d, .inl g)), (z, .inl (cB, d, .inl (fun _ => 0)))] H := hP
      have hD : va_D (va_A [] s.heap.size) [(q, .inl (cI, d, .inl g)), (z, .inl (cB, d, .inl (fun _ => 0)))] := hD
      refine W.widen (k := 2) (n := 16) (by omega) (by omega) ?_
      refine lv_astore (lv' := [(4, .ref z), (3, .ref q), (2, .int X), (0, .ref a), (1, .int (nI r))]) hx hb dL_row_73 hl (by decide) rfl (fun ls hl => ?_)
      refine lv_iconst (v := 0) hx hb dL_row_75 (by decide) ?_
      refine lv_istore (lv' := [(5, .int 0), (4, .ref z), (3, .ref q), (2, .int X), (0, .ref a), (1, .int (nI r))]) hx hb dL_row_76 hl (by decide) rfl (fun ls hl => ?_)
      exact loop78 z cB hK2 d 0 g (fun _ => 0) H _ ls (by omega) hg (by rw [cntB_0]; exact Nat.zero_le _) hP hD hS hl
    · refine lv_aload_n hx hb dL_row_67 rfl (lv_at hl 0 rfl) ?_
      refine W.widen (k := 2) (n := 16) (by omega) (by omega) ?_
      exact fin 68 g H locs ls dL_row_68 hg hP hD hS
  have loop20 : ∀ (mm k : Nat) (g : Nat → Int32) (H : Heap) (locs : List Loc) (ls : Array Slot), k + mm = d → PG g d → va_P (dC, dI) vwCl [(q, .inl (cI, d, .inl g))] H → va_D (va_A [] s.heap.size) [(q, .inl (cI, d, .inl g))] → va_S (va_A [] s.heap.size) s.heap H locs → lv_has ls 8 [(4, .int (nI k)), (3, .ref q), (2, .int X), (0, .ref a), (1, .int (nI r))] → W p l e (headSpec wsL_row ({ frames := 1, cells := 2, slots := 16, locals := 40 })).room s m (([.ref a, .int (nI r)] : List Value).toArray) below meth c H locs 1 8 (MQ below (va_Qr (fun u : Nat × (Nat → Int32) => 1 ≤ u.1 ∧ u.1 ≤ 8 ∧ PG u.2 u.1) (fun (u : Nat × (Nat → Int32)) (q : Nat) (t : State) => va_P (dC, dI) vwCl [(q, .inl (cI, u.1, .inl u.2))] t.heap ∧ va_D (va_A [] s.heap.size) [(q, .inl (cI, u.1, .inl u.2))]) (va_A [] s.heap.size)) (([.ref a, .int (nI r)] : List Value).toArray) s 2 16 (va_A [] s.heap.size)) (F0 m 20 ls []) := by
    intro mm
    induction mm with
    | zero =>
      intro k g H locs ls hk hg hP hD hS hl
      refine lv_iload hx hb dL_row_20 (lv_at hl 0 rfl) ?_
      refine lv_aload_n hx hb dL_row_22 rfl (lv_at hl 1 rfl) ?_
      refine va_alen (v := nI d) hx hb hK hP 0 0 rfl rfl rfl dL_row_23 ?_
      refine lv_icmp_ge (tgt := 57) hx hb dL_row_24 (by decide) (fun c_24 => ?_) (fun c_24 => ?_)
      · exact K57 g H locs ls hg hP hD hS (lv_sub hl [1, 2, 3, 4] rfl)
      · exact absurd (nI_le (by omega) (by omega)) c_24
    | succ mm ih =>
      intro k g H locs ls hk hg hP hD hS hl
      refine lv_iload hx hb dL_row_20 (lv_at hl 0 rfl) ?_
      refine lv_aload_n hx hb dL_row_22 rfl (lv_at hl 1 rfl) ?_
      refine va_alen (v := nI d) hx hb hK hP 0 0 rfl rfl rfl dL_row_23 ?_
      refine lv_icmp_ge (tgt := 57) hx hb dL_row_24 (by decide) (fun c_24 => ?_) (fun c_24 => ?_)
      · exact absurd c_24 (nI_ge (by omega) (by omega))
      · refine lv_aload_n hx hb dL_row_27 rfl (lv_at hl 1 rfl) ?_
        refine lv_iload hx hb dL_row_28 (lv_at hl 0 rfl) ?_
        refine lv_aload_n hx hb dL_row_30 rfl (lv_at hl 3 rfl) ?_
        refine lv_iload_n hx hb dL_row_31 rfl (lv_at hl 4 rfl) ?_
        refine lv_iload hx hb dL_row_32 (lv_at hl 0 rfl) ?_
        refine lv_iadd hx hb dL_row_34 ?_
        refine lv_iconst (v := 1) hx hb dL_row_35 (by decide) ?_
        refine lv_iadd hx hb dL_row_36 ?_
        rw [nI_add, nI_1]
        refine vp_callSi (va_Run.run (va_runS (As := [.ref a, .int (nI (r + k + 1))]) (rest := [.int (nI k), .ref q]) ⟨hx, hb, hml, hown, hts⟩ (c_L_cellX l a n f hn (nI (r + k + 1)) (nI_pos (by omega))) (va_cwS 2 hts gL_row_L_cell rfl rfl rfl (by decide +kernel) ⟨Nat.le_of_ble_eq_true rfl, Nat.le_of_ble_eq_true rfl⟩) ⟨fun a U g mk q => by obtain ⟨q0, qX, qL⟩ := q; exact ⟨q0, va_X.same (u := U) rfl qX, qL⟩, fun U hU hW => ⟨rfl, by rw [hU]; exact (hX.kept (hS.2.1 a hal hnA)).moved hW.alike, by rw [hU]; exact Nat.lt_of_lt_of_le hal hS.1⟩⟩ rfl rfl hl.1 rfl (lv_room (Nat.le_of_ble_eq_true rfl)) dL_row_37 ⟨Nat.le_of_ble_eq_true rfl, Nat.le_of_ble_eq_true rfl⟩)) (fun r_37 h_37 => ?_)
        subst h_37
        refine lv_iconst (v := 3) hx hb dL_row_40 (by decide) ?_
        refine lv_iload hx hb dL_row_41 (lv_at hl 0 rfl) ?_
        refine lv_imul hx hb dL_row_43 ?_
        refine lv_iadd hx hb dL_row_44 ?_
        refine lv_bipush (v := 10) hx hb dL_row_45 (by decide) ?_
        generalize S_L_cell n f (nI (r + k + 1)) + 3 * nI k = Y
        refine vp_callSi (va_Run.run (va_runS (As := [.int Y, .int 10]) (rest := [.int (nI k), .ref q]) ⟨hx, hb, hml, hown, hts⟩ (c_L_below l Y 10 (by decide)) (va_cwS 2 hts gL_row_L_below rfl rfl rfl (by decide +kernel) ⟨Nat.le_of_ble_eq_true rfl, Nat.le_of_ble_eq_true rfl⟩) ⟨fun a U g mk q => q, fun U hU hW => ⟨rfl, trivial⟩⟩ rfl rfl hl.1 rfl (lv_room (Nat.le_of_ble_eq_true rfl)) dL_row_47 ⟨Nat.le_of_ble_eq_true rfl, Nat.le_of_ble_eq_true rfl⟩)) (fun r_47 h_47 => ?_)
        subst h_47
        obtain ⟨u, hu, eu⟩ := p_below (v := Y) (n := 10) (by decide) (by decide)
        have eu : S_L_below Y 10 = nI u := eu
        rw [eu]
        refine va_iast hx hb hK hP hD hS 0 0 rfl rfl (vp_in_nI (by omega) (by omega)) dL_row_50 (fun H locs hP hD hS => ?_)
        refine lv_iinc (v := nI (k + 1)) (lv' := [(4, .int (nI (k + 1))), (3, .ref q), (2, .int X), (0, .ref a), (1, .int (nI r))]) hx hb dL_row_51 hl (k := 0) rfl ((nI_succ _).symm) (by decide) rfl (fun ls hl => ?_)
        refine lv_goto (tgt := 20) hx hb dL_row_54 (by decide) ?_
        exact ih (k + 1) _ H locs ls (by omega) (hg.set (show u ≤ 9 by omega) (by omega)) hP hD hS hl
  exact loop20 d 0 (fun _ => 0) H _ ls (by omega) (fun i hi => ⟨0, by omega, rfl⟩) hP hD hS hl
