/-! LAID BY MY PROGRAM wip/gen/p26.py: contracts, method by method -/
def G_J7_fill_53178_5 (n : Nat) (f : Nat → Int32) (p1 : Int32) : Nat → Nat → (Nat → Int32) → (Nat → Int32)
  | 0, k, g0_0_5 => g0_0_5
  | mm + 1, k, g0_0_5 => G_J7_fill_53178_5 n f p1 mm (k + 1) (upd g0_0_5 (nI k).toNatClampNeg p1)
def S_J7_fill_53178 (n : Nat) (f : Nat → Int32) (p1 : Int32) : (Nat → Int32) := G_J7_fill_53178_5 n f p1 n 0 f
set_option maxHeartbeats 4000000 in
set_option maxRecDepth 100000 in
theorem c_J7_fill_53178 (l : Launch) (dC : Nat → ClassId) (dI : Nat → Nat → Nat) (cI cR : ClassId) (sz : Nat) (a n : Nat) (f : Nat → Int32) (hn : n < 2 ^ 31) (p1 : Int32)  : Met l yJ7_fill_53178 wsJ7_fill_53178 ({ frames := 0, cells := 0, slots := 0, locals := 0 }) (va_Pc [.ref a, .int p1] (fun U => U.heap.size = sz ∧ va_P (dC, dI) vwCl [(a, .inl (cI, n, .inl f))] U.heap ∧ cE (dC, dI) cI cR U ∧ va_D (fun _ => True) [(a, .inl (cI, n, .inl f))])) (va_Qv (fun _ : Unit => True) (fun (_ : Unit) t => va_P (dC, dI) vwCl [(a, .inl (cI, n, .inl (S_J7_fill_53178 n f p1)))] t.heap ∧ cE (dC, dI) cI cR t ∧ va_D (va_A [(a, .inl (cI, n, .inl f))] sz) [(a, .inl (cI, n, .inl (S_J7_fill_53178 n f p1)))]) (va_A [(a, .inl (cI, n, .inl f))] sz)) 0 0 (va_A [(a, .inl (cI, n, .inl f))] sz) := by
  refine va_MetF (cc := cJ7_fill_53178) (maxL := 4) (ret := none) (by decide +kernel) rfl ?_
  intro p e s m args below meth c s₁ B hml hv
  obtain ⟨rfl, hsz, hP, hE, hD0⟩ := hv
  have hK := hE.1
  have hx := B.exec
  have hb := B.bytes
  have hr := B.returns
  have hlocks := B.notSynchronized
  subst hsz
  have hD := hD0.self (sz := s.heap.size)
  generalize hAe : va_A [(a, .inl (cI, n, .inl f))] s.heap.size = A at hD ⊢
  have hA : ∀ q : Nat, s.heap.size ≤ q → A q := fun q h => by rw [← hAe]; exact Or.inr h
  have hS : va_S A s.heap s.heap [] := va_S.rf
  have hP : va_P (dC, dI) vwCl [(a, .inl (cI, n, .inl f))] s.heap := hP
  have hD : va_D A [(a, .inl (cI, n, .inl f))] := hD
  have hl := lv_entry ([.ref a, .int p1]) (n := 4) (Nat.le_of_ble_eq_true rfl)
  rw [lg_entry_eq]
  generalize (lg_sl ([.ref a, .int p1]) ++ List.replicate (4 - (lg_sl ([.ref a, .int p1])).length) Slot.unset).toArray = ls at hl ⊢
  have hl : lv_has ls 4 [(0, .ref a), (1, .int p1)] := hl
  refine lv_iconst (v := 0) hx hb dJ7_fill_53178_0 (by decide) ?_
  refine lv_istore_n (lv' := [(2, .int 0), (0, .ref a), (1, .int p1)]) hx hb dJ7_fill_53178_1 rfl hl (by decide) rfl (fun ls hl => ?_)
  refine lv_aload_n hx hb dJ7_fill_53178_2 rfl (lv_at hl 1 rfl) ?_
  refine va_alen (v := nI n) hx hb hK hP 0 0 rfl rfl rfl dJ7_fill_53178_3 ?_
  refine lv_istore_n (lv' := [(3, .int (nI n)), (2, .int 0), (0, .ref a), (1, .int p1)]) hx hb dJ7_fill_53178_4 rfl hl (by decide) rfl (fun ls hl => ?_)
  have loop5 : ∀ (mm k : Nat) (g0_0_5 : Nat → Int32) (H : Heap) (locs : List Loc) (ls : Array Slot), k + mm = n → G_J7_fill_53178_5 n f p1 mm k g0_0_5 = S_J7_fill_53178 n f p1 → lv_has ls 4 [(3, .int (nI n)), (2, .int (nI k)), (0, .ref a), (1, .int p1)] → va_P (dC, dI) vwCl [(a, .inl (cI, n, .inl g0_0_5))] H → va_D A [(a, .inl (cI, n, .inl g0_0_5))] → va_S A s.heap H locs → W p l e (headSpec wsJ7_fill_53178 ({ frames := 0, cells := 0, slots := 0, locals := 0 })).room s m (([.ref a, .int p1] : List Value).toArray) below meth c H locs 0 0 (MQ below (va_Qv (fun _ : Unit => True) (fun (_ : Unit) t => va_P (dC, dI) vwCl [(a, .inl (cI, n, .inl (S_J7_fill_53178 n f p1)))] t.heap ∧ cE (dC, dI) cI cR t ∧ va_D A [(a, .inl (cI, n, .inl (S_J7_fill_53178 n f p1)))]) A) (([.ref a, .int p1] : List Value).toArray) s 0 0 A) (F0 m 5 ls []) := by
    intro mm
    induction mm with
    | zero =>
      intro k g0_0_5 H locs ls hk5 hG5 hl hP hD hS
      refine lv_iload_n hx hb dJ7_fill_53178_5 rfl (lv_at hl 1 rfl) ?_
      refine lv_iload_n hx hb dJ7_fill_53178_6 rfl (lv_at hl 0 rfl) ?_
      refine lv_icmp_ge (tgt := 20) hx hb dJ7_fill_53178_7 (by decide) (fun c_7 => ?_) (fun c_7 => ?_)
      · have e9 : S_J7_fill_53178 n f p1 = g0_0_5 := by rw [← hG5]; simp only [G_J7_fill_53178_5]
        exact W.vret hx hb hr (fun t ht hW => ⟨⟨(), rfl, trivial, by rw [ht, e9]; exact hP, hE.warm hW, by rw [e9]; exact hD⟩, hS.F ht⟩) hS.2.2 dJ7_fill_53178_20
      · exact absurd (nI_le (by omega) (by omega)) c_7
    | succ mm ih5 =>
      intro k g0_0_5 H locs ls hk5 hG5 hl hP hD hS
      refine lv_iload_n hx hb dJ7_fill_53178_5 rfl (lv_at hl 1 rfl) ?_
      refine lv_iload_n hx hb dJ7_fill_53178_6 rfl (lv_at hl 0 rfl) ?_
      refine lv_icmp_ge (tgt := 20) hx hb dJ7_fill_53178_7 (by decide) (fun c_7 => ?_) (fun c_7 => ?_)
      · exact absurd c_7 (nI_ge (by omega) (by omega))
      · refine lv_aload_n hx hb dJ7_fill_53178_10 rfl (lv_at hl 2 rfl) ?_
        refine lv_iload_n hx hb dJ7_fill_53178_11 rfl (lv_at hl 1 rfl) ?_
        refine lv_iload_n hx hb dJ7_fill_53178_12 rfl (lv_at hl 3 rfl) ?_
        refine va_iast hx hb hK hP hD hS 0 0 rfl rfl (vp_in_nI (by omega) (by omega)) dJ7_fill_53178_13 (fun H locs hP hD hS => ?_)
        have hP : va_P (dC, dI) vwCl [(a, .inl (cI, n, .inl (upd g0_0_5 (nI k).toNatClampNeg p1)))] H := hP
        have hD : va_D A [(a, .inl (cI, n, .inl (upd g0_0_5 (nI k).toNatClampNeg p1)))] := hD
        refine lv_iinc (v := nI (k + 1)) (lv' := [(2, .int (nI (k + 1))), (3, .int (nI n)), (0, .ref a), (1, .int p1)]) hx hb dJ7_fill_53178_14 hl (k := 1) rfl ((nI_succ _).symm) (by decide) rfl (fun ls hl => ?_)
        refine lv_goto (tgt := 5) hx hb dJ7_fill_53178_17 (by decide) ?_
        exact ih5 (k + 1) (upd g0_0_5 (nI k).toNatClampNeg p1) _ _ ls (by omega) (by rw [← hG5]; simp only [G_J7_fill_53178_5]) (lv_sub hl [1, 0, 2, 3] rfl) hP hD hS
  exact loop5 n 0 f _ _ ls (by omega) (by simp only [S_J7_fill_53178]) (lv_sub hl [0, 1, 2, 3] rfl) hP hD hS
def S_X2_stepsTo (η : YS) (p0 : Int32) : Int32 := S_X3_cell 512 η.1 p0
set_option maxHeartbeats 4000000 in
set_option maxRecDepth 100000 in
theorem c_X2_stepsTo (l : Launch) (dC : Nat → ClassId) (dI : Nat → Nat → Nat) (cI cR : ClassId) (y b1 b2 b3 : Nat) (η : YS) (p0 : Int32)  : Met l yX2_stepsTo wsX2_stepsTo ({ frames := 1, cells := 0, slots := 0, locals := 21 }) (va_Pc [.ref y, .int p0] (fun U => va_P (dC, dI) vwCl (wY cI y b1 b2 b3 η) U.heap ∧ cE (dC, dI) cI cR U)) (vp_Si (fun r => r = S_X2_stepsTo η p0)) 0 0 (fun _ => False) := by
  refine Met.ofW (cc := cX2_stepsTo) (maxL := 2) (ret := (some .int)) (by decide) rfl ?_
  intro p e s m args below meth c s₁ B hml hv
  obtain ⟨rfl, hP, hE⟩ := hv
  have hK := hE.1
  have hx := B.exec
  have hb := B.bytes
  have hr := B.returns
  have hts := atoms_spec (ws := wsX2_stepsTo) B.pre
  have hown : s.vm.findClass RX2 = some m.cls := findClass_of_methodNamed B.named
  have hlocks := B.notSynchronized
  have hP : va_P (dC, dI) vwCl [(y, .inr (2, [.ref b1, .ref b2, .ref b3, .int η.2.2.2])), (b1, .inl (cI, 512, .inl η.1)), (b2, .inl (cI, 512, .inl η.2.1)), (b3, .inl (cI, 512, .inl η.2.2.1))] s.heap := hP
  have hl := lv_entry ([.ref y, .int p0]) (n := 2) (Nat.le_of_ble_eq_true rfl)
  rw [lg_entry_eq]
  generalize (lg_sl ([.ref y, .int p0]) ++ List.replicate (2 - (lg_sl ([.ref y, .int p0])).length) Slot.unset).toArray = ls at hl ⊢
  have hl : lv_has ls 2 [(0, .ref y), (1, .int p0)] := hl
  have q_0 := hts (.fieldLink RX2 9 "Cascadecourt$Ways" "steps" "[I") (by decide +kernel)
  have in_X2 : ∀ w ∈ wsX20, w ∈ wsX2_stepsTo := by decide +kernel
  have q_1 := hts (.initialized RX3) (by decide +kernel)
  have q_2 := hts (.static yX3_cell) (by decide +kernel)
  refine lv_aload_n hx hb dX2_stepsTo_0 rfl (lv_at hl 0 rfl) ?_
  refine va_get (D := (dC, dI)) (ci := 2) (v := .ref b1) (C := RX2) (T := TX2) (N := 4) hx hb hts in_X2 hown hK hP 0 rfl rfl 0 (by decide) q_0 (fun _ h9 => h9) rfl dX2_stepsTo_1 ?_
  refine lv_iload_n hx hb dX2_stepsTo_4 rfl (lv_at hl 1 rfl) ?_
  refine vp_callSi (va_Run.run (va_runSN (As := [.ref b1, .int p0]) (rest := []) ⟨hx, hb, hml, hown, hts⟩ (c_X3_cell l dC dI cI cR b1 512 η.1 (by decide) p0) ⟨va_cnB 2 hts gX2_stepsTo_X3_cell_n25 rfl rfl rfl (hE.2 (.methodLinkNest RX2 25 yX3_cell "Cascadecourt") (by decide +kernel)) q_1 (by decide +kernel) ⟨Nat.le_of_ble_eq_true rfl, Nat.le_of_ble_eq_true rfl⟩, q_2, trivial⟩ ⟨fun a U g mk q => by obtain ⟨q0, qP, qE⟩ := q; exact ⟨q0, qP, cE.same (s := U) rfl qE⟩, fun U hU hW => ⟨rfl, by rw [hU]; exact hP.sub (ws' := [(b1, .inl (cI, 512, .inl η.1))]) [1] rfl, hE.warm hW⟩⟩ rfl rfl hl.1 rfl (lv_room (Nat.le_of_ble_eq_true rfl)) dX2_stepsTo_5 ⟨Nat.zero_le _, Nat.zero_le _⟩)) (fun r_5 h_5 => ?_)
  subst h_5
  exact W.iret (v := (S_X3_cell 512 η.1 p0)) hx hb hr (fun t ht hW => ⟨(S_X3_cell 512 η.1 p0), rfl, by simp only [S_X2_stepsTo], ht⟩) (fun q h => by cases h) dX2_stepsTo_8
def S_X2_firstThrowTo (η : YS) (p0 : Int32) : Int32 := S_X3_cell 512 η.2.1 p0
set_option maxHeartbeats 4000000 in
set_option maxRecDepth 100000 in
theorem c_X2_firstThrowTo (l : Launch) (dC : Nat → ClassId) (dI : Nat → Nat → Nat) (cI cR : ClassId) (y b1 b2 b3 : Nat) (η : YS) (p0 : Int32)  : Met l yX2_firstThrowTo wsX2_firstThrowTo ({ frames := 1, cells := 0, slots := 0, locals := 21 }) (va_Pc [.ref y, .int p0] (fun U => va_P (dC, dI) vwCl (wY cI y b1 b2 b3 η) U.heap ∧ cE (dC, dI) cI cR U)) (vp_Si (fun r => r = S_X2_firstThrowTo η p0)) 0 0 (fun _ => False) := by
  refine Met.ofW (cc := cX2_firstThrowTo) (maxL := 2) (ret := (some .int)) (by decide) rfl ?_
  intro p e s m args below meth c s₁ B hml hv
  obtain ⟨rfl, hP, hE⟩ := hv
  have hK := hE.1
  have hx := B.exec
  have hb := B.bytes
  have hr := B.returns
  have hts := atoms_spec (ws := wsX2_firstThrowTo) B.pre
  have hown : s.vm.findClass RX2 = some m.cls := findClass_of_methodNamed B.named
  have hlocks := B.notSynchronized
  have hP : va_P (dC, dI) vwCl [(y, .inr (2, [.ref b1, .ref b2, .ref b3, .int η.2.2.2])), (b1, .inl (cI, 512, .inl η.1)), (b2, .inl (cI, 512, .inl η.2.1)), (b3, .inl (cI, 512, .inl η.2.2.1))] s.heap := hP
  have hl := lv_entry ([.ref y, .int p0]) (n := 2) (Nat.le_of_ble_eq_true rfl)
  rw [lg_entry_eq]
  generalize (lg_sl ([.ref y, .int p0]) ++ List.replicate (2 - (lg_sl ([.ref y, .int p0])).length) Slot.unset).toArray = ls at hl ⊢
  have hl : lv_has ls 2 [(0, .ref y), (1, .int p0)] := hl
  have q_0 := hts (.fieldLink RX2 15 "Cascadecourt$Ways" "firstThrows" "[I") (by decide +kernel)
  have in_X2 : ∀ w ∈ wsX20, w ∈ wsX2_firstThrowTo := by decide +kernel
  have q_1 := hts (.initialized RX3) (by decide +kernel)
  have q_2 := hts (.static yX3_cell) (by decide +kernel)
  refine lv_aload_n hx hb dX2_firstThrowTo_0 rfl (lv_at hl 0 rfl) ?_
  refine va_get (D := (dC, dI)) (ci := 2) (v := .ref b2) (C := RX2) (T := TX2) (N := 4) hx hb hts in_X2 hown hK hP 0 rfl rfl 1 (by decide) q_0 (fun _ h9 => h9) rfl dX2_firstThrowTo_1 ?_
  refine lv_iload_n hx hb dX2_firstThrowTo_4 rfl (lv_at hl 1 rfl) ?_
  refine vp_callSi (va_Run.run (va_runSN (As := [.ref b2, .int p0]) (rest := []) ⟨hx, hb, hml, hown, hts⟩ (c_X3_cell l dC dI cI cR b2 512 η.2.1 (by decide) p0) ⟨va_cnB 2 hts gX2_firstThrowTo_X3_cell_n25 rfl rfl rfl (hE.2 (.methodLinkNest RX2 25 yX3_cell "Cascadecourt") (by decide +kernel)) q_1 (by decide +kernel) ⟨Nat.le_of_ble_eq_true rfl, Nat.le_of_ble_eq_true rfl⟩, q_2, trivial⟩ ⟨fun a U g mk q => by obtain ⟨q0, qP, qE⟩ := q; exact ⟨q0, qP, cE.same (s := U) rfl qE⟩, fun U hU hW => ⟨rfl, by rw [hU]; exact hP.sub (ws' := [(b2, .inl (cI, 512, .inl η.2.1))]) [2] rfl, hE.warm hW⟩⟩ rfl rfl hl.1 rfl (lv_room (Nat.le_of_ble_eq_true rfl)) dX2_firstThrowTo_5 ⟨Nat.zero_le _, Nat.zero_le _⟩)) (fun r_5 h_5 => ?_)
  subst h_5
  exact W.iret (v := (S_X3_cell 512 η.2.1 p0)) hx hb hr (fun t ht hW => ⟨(S_X3_cell 512 η.2.1 p0), rfl, by simp only [S_X2_firstThrowTo], ht⟩) (fun q h => by cases h) dX2_firstThrowTo_8
def G_X2_lookOnFrom_5 (η : YS) (p0 : Int32) (p1 : Int32) : Nat → Nat → Int32 → (Nat → Int32) → (Nat → Int32) → (Nat → Int32) → Int32 × YS
  | 0, k, v3_5, g0_0_5, g0_1_5, g0_2_5 => (v3_5, (g0_0_5, g0_1_5, g0_2_5, η.2.2.2))
  | mm + 1, k, v3_5, g0_0_5, g0_1_5, g0_2_5 => (if (S_X3_stateBehind p0 (nI k)) = (-1) then G_X2_lookOnFrom_5 η p0 p1 mm (k + 1) v3_5 g0_0_5 g0_1_5 g0_2_5 else (if (S_X3_cell 512 g0_0_5 (S_X3_stateBehind p0 (nI k))) = (-1) then (if p0 = η.2.2.2 then G_X2_lookOnFrom_5 η p0 p1 mm (k + 1) (v3_5 + 1) (S_X3_setCell 512 g0_0_5 (S_X3_stateBehind p0 (nI k)) ((S_X3_cell 512 g0_0_5 p0) + 1)) (S_X3_setCell 512 g0_1_5 (S_X3_stateBehind p0 (nI k)) (nI k)) (S_X3_setCell 512 g0_2_5 v3_5 (S_X3_stateBehind p0 (nI k))) else G_X2_lookOnFrom_5 η p0 p1 mm (k + 1) (v3_5 + 1) (S_X3_setCell 512 g0_0_5 (S_X3_stateBehind p0 (nI k)) ((S_X3_cell 512 g0_0_5 p0) + 1)) (S_X3_setCell 512 g0_1_5 (S_X3_stateBehind p0 (nI k)) (S_X3_cell 512 g0_1_5 p0)) (S_X3_setCell 512 g0_2_5 v3_5 (S_X3_stateBehind p0 (nI k)))) else G_X2_lookOnFrom_5 η p0 p1 mm (k + 1) v3_5 g0_0_5 g0_1_5 g0_2_5))
def S_X2_lookOnFrom (η : YS) (p0 : Int32) (p1 : Int32) : Int32 × YS := G_X2_lookOnFrom_5 η p0 p1 10 0 p1 η.1 η.2.1 η.2.2.1
set_option maxHeartbeats 4000000 in
set_option maxRecDepth 100000 in
theorem c_X2_lookOnFrom (l : Launch) (dC : Nat → ClassId) (dI : Nat → Nat → Nat) (cI cR : ClassId) (sz : Nat) (y b1 b2 b3 : Nat) (η : YS) (p0 : Int32) (p1 : Int32)  : Met l yX2_lookOnFrom wsX2_lookOnFrom ({ frames := 1, cells := 0, slots := 0, locals := 23 }) (va_Pc [.ref y, .int p0, .int p1] (fun U => U.heap.size = sz ∧ va_P (dC, dI) vwCl (wY cI y b1 b2 b3 η) U.heap ∧ cE (dC, dI) cI cR U ∧ va_D (fun _ => True) (wY cI y b1 b2 b3 η))) (va_Qi (fun (r : Int32) (_ : Unit) => r = (S_X2_lookOnFrom η p0 p1).1) (fun (_ : Unit) t => va_P (dC, dI) vwCl (wY cI y b1 b2 b3 ((S_X2_lookOnFrom η p0 p1).2)) t.heap ∧ cE (dC, dI) cI cR t ∧ va_D (va_A (wY cI y b1 b2 b3 η) sz) (wY cI y b1 b2 b3 ((S_X2_lookOnFrom η p0 p1).2))) (va_A (wY cI y b1 b2 b3 η) sz)) 0 0 (va_A (wY cI y b1 b2 b3 η) sz) := by
  refine Met.ofW (cc := cX2_lookOnFrom) (maxL := 6) (ret := (some .int)) (by decide) rfl ?_
  intro p e s m args below meth c s₁ B hml hv
  obtain ⟨rfl, hsz, hP, hE, hD0⟩ := hv
  have hK := hE.1
  have hx := B.exec
  have hb := B.bytes
  have hr := B.returns
  have hts := atoms_spec (ws := wsX2_lookOnFrom) B.pre
  have hown : s.vm.findClass RX2 = some m.cls := findClass_of_methodNamed B.named
  have hlocks := B.notSynchronized
  subst hsz
  have hD := hD0.self (sz := s.heap.size)
  generalize hAe : va_A (wY cI y b1 b2 b3 η) s.heap.size = A at hD ⊢
  have hA : ∀ q : Nat, s.heap.size ≤ q → A q := fun q h => by rw [← hAe]; exact Or.inr h
  have hS : va_S A s.heap s.heap [] := va_S.rf
  have hP : va_P (dC, dI) vwCl [(y, .inr (2, [.ref b1, .ref b2, .ref b3, .int η.2.2.2])), (b1, .inl (cI, 512, .inl η.1)), (b2, .inl (cI, 512, .inl η.2.1)), (b3, .inl (cI, 512, .inl η.2.2.1))] s.heap := hP
  have hD : va_D A [(y, .inr (2, [.ref b1, .ref b2, .ref b3, .int η.2.2.2])), (b1, .inl (cI, 512, .inl η.1)), (b2, .inl (cI, 512, .inl η.2.1)), (b3, .inl (cI, 512, .inl η.2.2.1))] := hD
  have hl := lv_entry ([.ref y, .int p0, .int p1]) (n := 6) (Nat.le_of_ble_eq_true rfl)
  rw [lg_entry_eq]
  generalize (lg_sl ([.ref y, .int p0, .int p1]) ++ List.replicate (6 - (lg_sl ([.ref y, .int p0, .int p1])).length) Slot.unset).toArray = ls at hl ⊢
  have hl : lv_has ls 6 [(0, .ref y), (1, .int p0), (2, .int p1)] := hl
  have q_0 := hts (.initialized RX3) (by decide +kernel)
  have q_1 := hts (.static yX3_stateBehind) (by decide +kernel)
  have q_2 := hts (.fieldLink RX2 9 "Cascadecourt$Ways" "steps" "[I") (by decide +kernel)
  have in_X2 : ∀ w ∈ wsX20, w ∈ wsX2_lookOnFrom := by decide +kernel
  have q_3 := hts (.static yX3_cell) (by decide +kernel)
  have q_4 := hts (.static yX3_setCell) (by decide +kernel)
  have q_5 := hts (.fieldLink RX2 15 "Cascadecourt$Ways" "firstThrows" "[I") (by decide +kernel)
  have q_6 := hts (.fieldLink RX2 21 "Cascadecourt$Ways" "start" "I") (by decide +kernel)
  have q_7 := hts (.fieldLink RX2 18 "Cascadecourt$Ways" "waiting" "[I") (by decide +kernel)
  refine lv_iload_n hx hb dX2_lookOnFrom_0 rfl (lv_at hl 2 rfl) ?_
  refine lv_istore_n (lv' := [(3, .int p1), (0, .ref y), (1, .int p0), (2, .int p1)]) hx hb dX2_lookOnFrom_1 rfl hl (by decide) rfl (fun ls hl => ?_)
  refine lv_iconst (v := 0) hx hb dX2_lookOnFrom_2 (by decide) ?_
  refine lv_istore (lv' := [(4, .int 0), (3, .int p1), (0, .ref y), (1, .int p0), (2, .int p1)]) hx hb dX2_lookOnFrom_3 hl (by decide) rfl (fun ls hl => ?_)
  have loop5 : ∀ (mm k : Nat) (v3_5 : Int32) (g0_0_5 : Nat → Int32) (g0_1_5 : Nat → Int32) (g0_2_5 : Nat → Int32) (H : Heap) (locs : List Loc) (ls : Array Slot), k + mm = 10 → G_X2_lookOnFrom_5 η p0 p1 mm k v3_5 g0_0_5 g0_1_5 g0_2_5 = S_X2_lookOnFrom η p0 p1 → lv_has ls 6 [(4, .int (nI k)), (3, .int v3_5), (0, .ref y), (1, .int p0), (2, .int p1)] → va_P (dC, dI) vwCl [(y, .inr (2, [.ref b1, .ref b2, .ref b3, .int η.2.2.2])), (b1, .inl (cI, 512, .inl g0_0_5)), (b2, .inl (cI, 512, .inl g0_1_5)), (b3, .inl (cI, 512, .inl g0_2_5))] H → va_D A [(y, .inr (2, [.ref b1, .ref b2, .ref b3, .int η.2.2.2])), (b1, .inl (cI, 512, .inl g0_0_5)), (b2, .inl (cI, 512, .inl g0_1_5)), (b3, .inl (cI, 512, .inl g0_2_5))] → va_S A s.heap H locs → W p l e (headSpec wsX2_lookOnFrom ({ frames := 1, cells := 0, slots := 0, locals := 23 })).room s m (([.ref y, .int p0, .int p1] : List Value).toArray) below meth c H locs 0 0 (MQ below (va_Qi (fun (r : Int32) (_ : Unit) => r = (S_X2_lookOnFrom η p0 p1).1) (fun (_ : Unit) t => va_P (dC, dI) vwCl (wY cI y b1 b2 b3 ((S_X2_lookOnFrom η p0 p1).2)) t.heap ∧ cE (dC, dI) cI cR t ∧ va_D A (wY cI y b1 b2 b3 ((S_X2_lookOnFrom η p0 p1).2))) A) (([.ref y, .int p0, .int p1] : List Value).toArray) s 0 0 A) (F0 m 5 ls []) := by
    intro mm
    induction mm with
    | zero =>
      intro k v3_5 g0_0_5 g0_1_5 g0_2_5 H locs ls hk5 hG5 hl hP hD hS
      refine lv_iload hx hb dX2_lookOnFrom_5 (lv_at hl 0 rfl) ?_
      refine lv_bipush (v := 9) hx hb dX2_lookOnFrom_7 (by decide) ?_
      refine lv_icmp_gt (tgt := 107) hx hb dX2_lookOnFrom_9 (by decide) (fun c_9 => ?_) (fun c_9 => ?_)
      · refine lv_iload_n hx hb dX2_lookOnFrom_107 rfl (lv_at hl 1 rfl) ?_
        have e9 : S_X2_lookOnFrom η p0 p1 = (v3_5, (g0_0_5, g0_1_5, g0_2_5, η.2.2.2)) := by rw [← hG5]; simp only [G_X2_lookOnFrom_5]
        exact W.iret (v := v3_5) hx hb hr (fun t ht hW => ⟨⟨v3_5, (), rfl, by rw [e9], by rw [ht, e9]; exact hP, hE.warm hW, by rw [e9]; exact hD⟩, hS.F ht⟩) hS.2.2 dX2_lookOnFrom_108
      · exact absurd (p_9 (by omega) (by omega)) c_9
    | succ mm ih5 =>
      intro k v3_5 g0_0_5 g0_1_5 g0_2_5 H locs ls hk5 hG5 hl hP hD hS
      refine lv_iload hx hb dX2_lookOnFrom_5 (lv_at hl 0 rfl) ?_
      refine lv_bipush (v := 9) hx hb dX2_lookOnFrom_7 (by decide) ?_
      refine lv_icmp_gt (tgt := 107) hx hb dX2_lookOnFrom_9 (by decide) (fun c_9 => ?_) (fun c_9 => ?_)
      · exact absurd c_9 (p_9n (by omega))
      · refine lv_iload_n hx hb dX2_lookOnFrom_12 rfl (lv_at hl 3 rfl) ?_
        refine lv_iload hx hb dX2_lookOnFrom_13 (lv_at hl 0 rfl) ?_
        refine vp_callSi (va_Run.run (va_runSN (As := [.int p0, .int (nI k)]) (rest := []) ⟨hx, hb, hml, hown, hts⟩ (c_X3_stateBehind l p0 (nI k)) ⟨va_cnB 2 hts gX2_lookOnFrom_X3_stateBehind_n43 rfl rfl rfl (hE.2 (.methodLinkNest RX2 43 yX3_stateBehind "Cascadecourt") (by decide +kernel)) q_0 (by decide +kernel) ⟨Nat.le_of_ble_eq_true rfl, Nat.le_of_ble_eq_true rfl⟩, q_1, trivial⟩ ⟨fun a U g mk q => q, fun U hU hW => ⟨rfl, trivial⟩⟩ rfl rfl hl.1 rfl (lv_room (Nat.le_of_ble_eq_true rfl)) dX2_lookOnFrom_15 ⟨Nat.zero_le _, Nat.zero_le _⟩)) (fun r_15 h_15 => ?_)
        subst h_15
        refine lv_istore (lv' := [(5, .int (S_X3_stateBehind p0 (nI k))), (4, .int (nI k)), (3, .int v3_5), (0, .ref y), (1, .int p0), (2, .int p1)]) hx hb dX2_lookOnFrom_18 hl (by decide) rfl (fun ls hl => ?_)
        refine lv_iload hx hb dX2_lookOnFrom_20 (lv_at hl 0 rfl) ?_
        refine lv_iconst (v := (-1)) hx hb dX2_lookOnFrom_22 (by decide) ?_
        refine lv_icmp_eq (tgt := 101) hx hb dX2_lookOnFrom_23 (by decide) (fun c_23 => ?_) (fun c_23 => ?_)
        · refine lv_iinc (v := nI (k + 1)) (lv' := [(4, .int (nI (k + 1))), (5, .int (S_X3_stateBehind p0 (nI k))), (3, .int v3_5), (0, .ref y), (1, .int p0), (2, .int p1)]) hx hb dX2_lookOnFrom_101 hl (k := 1) rfl ((nI_succ _).symm) (by decide) rfl (fun ls hl => ?_)
          refine lv_goto (tgt := 5) hx hb dX2_lookOnFrom_104 (by decide) ?_
          exact ih5 (k + 1) v3_5 g0_0_5 g0_1_5 g0_2_5 _ _ ls (by omega) (by rw [← hG5]; simp only [G_X2_lookOnFrom_5, if_pos c_23]) (lv_sub hl [0, 2, 3, 4, 5] rfl) hP hD hS
        · refine lv_aload_n hx hb dX2_lookOnFrom_26 rfl (lv_at hl 3 rfl) ?_
          refine va_get (D := (dC, dI)) (ci := 2) (v := .ref b1) (C := RX2) (T := TX2) (N := 4) hx hb hts in_X2 hown hK hP 0 rfl rfl 0 (by decide) q_2 (fun _ h9 => h9) rfl dX2_lookOnFrom_27 ?_
          refine lv_iload hx hb dX2_lookOnFrom_30 (lv_at hl 0 rfl) ?_
          refine vp_callSi (va_Run.run (va_runSN (As := [.ref b1, .int (S_X3_stateBehind p0 (nI k))]) (rest := []) ⟨hx, hb, hml, hown, hts⟩ (c_X3_cell l dC dI cI cR b1 512 g0_0_5 (by decide) (S_X3_stateBehind p0 (nI k))) ⟨va_cnB 2 hts gX2_lookOnFrom_X3_cell_n25 rfl rfl rfl (hE.2 (.methodLinkNest RX2 25 yX3_cell "Cascadecourt") (by decide +kernel)) q_0 (by decide +kernel) ⟨Nat.le_of_ble_eq_true rfl, Nat.le_of_ble_eq_true rfl⟩, q_3, trivial⟩ ⟨fun a U g mk q => by obtain ⟨q0, qP, qE⟩ := q; exact ⟨q0, qP, cE.same (s := U) rfl qE⟩, fun U hU hW => ⟨rfl, by rw [hU]; exact hP.sub (ws' := [(b1, .inl (cI, 512, .inl g0_0_5))]) [1] rfl, hE.warm hW⟩⟩ rfl rfl hl.1 rfl (lv_room (Nat.le_of_ble_eq_true rfl)) dX2_lookOnFrom_32 ⟨Nat.zero_le _, Nat.zero_le _⟩)) (fun r_32 h_32 => ?_)
          subst h_32
          refine lv_iconst (v := (-1)) hx hb dX2_lookOnFrom_35 (by decide) ?_
          refine lv_icmp_ne (tgt := 101) hx hb dX2_lookOnFrom_36 (by decide) (fun c_36 => ?_) (fun c_36 => ?_)
          · refine lv_iinc (v := nI (k + 1)) (lv' := [(4, .int (nI (k + 1))), (5, .int (S_X3_stateBehind p0 (nI k))), (3, .int v3_5), (0, .ref y), (1, .int p0), (2, .int p1)]) hx hb dX2_lookOnFrom_101 hl (k := 1) rfl ((nI_succ _).symm) (by decide) rfl (fun ls hl => ?_)
            refine lv_goto (tgt := 5) hx hb dX2_lookOnFrom_104 (by decide) ?_
            exact ih5 (k + 1) v3_5 g0_0_5 g0_1_5 g0_2_5 _ _ ls (by omega) (by rw [← hG5]; simp only [G_X2_lookOnFrom_5, if_neg c_23, if_neg c_36]) (lv_sub hl [0, 2, 3, 4, 5] rfl) hP hD hS
          · refine lv_aload_n hx hb dX2_lookOnFrom_39 rfl (lv_at hl 3 rfl) ?_
            refine va_get (D := (dC, dI)) (ci := 2) (v := .ref b1) (C := RX2) (T := TX2) (N := 4) hx hb hts in_X2 hown hK hP 0 rfl rfl 0 (by decide) q_2 (fun _ h9 => h9) rfl dX2_lookOnFrom_40 ?_
            refine lv_iload hx hb dX2_lookOnFrom_43 (lv_at hl 0 rfl) ?_
            refine lv_aload_n hx hb dX2_lookOnFrom_45 rfl (lv_at hl 3 rfl) ?_
            refine va_get (D := (dC, dI)) (ci := 2) (v := .ref b1) (C := RX2) (T := TX2) (N := 4) hx hb hts in_X2 hown hK hP 0 rfl rfl 0 (by decide) q_2 (fun _ h9 => h9) rfl dX2_lookOnFrom_46 ?_
            refine lv_iload_n hx hb dX2_lookOnFrom_49 rfl (lv_at hl 4 rfl) ?_
            refine vp_callSi (va_Run.run (va_runSN (As := [.ref b1, .int p0]) (rest := [.int (S_X3_stateBehind p0 (nI k)), .ref b1]) ⟨hx, hb, hml, hown, hts⟩ (c_X3_cell l dC dI cI cR b1 512 g0_0_5 (by decide) p0) ⟨va_cnB 2 hts gX2_lookOnFrom_X3_cell_n25 rfl rfl rfl (hE.2 (.methodLinkNest RX2 25 yX3_cell "Cascadecourt") (by decide +kernel)) q_0 (by decide +kernel) ⟨Nat.le_of_ble_eq_true rfl, Nat.le_of_ble_eq_true rfl⟩, q_3, trivial⟩ ⟨fun a U g mk q => by obtain ⟨q0, qP, qE⟩ := q; exact ⟨q0, qP, cE.same (s := U) rfl qE⟩, fun U hU hW => ⟨rfl, by rw [hU]; exact hP.sub (ws' := [(b1, .inl (cI, 512, .inl g0_0_5))]) [1] rfl, hE.warm hW⟩⟩ rfl rfl hl.1 rfl (lv_room (Nat.le_of_ble_eq_true rfl)) dX2_lookOnFrom_50 ⟨Nat.zero_le _, Nat.zero_le _⟩)) (fun r_50 h_50 => ?_)
            subst h_50
            refine lv_iconst (v := 1) hx hb dX2_lookOnFrom_53 (by decide) ?_
            refine lv_iadd hx hb dX2_lookOnFrom_54 ?_
            have hPc := hP.sub (ws' := [(b1, .inl (cI, 512, .inl g0_0_5))]) [1] rfl
            have hDc := hD.sub (ws' := [(b1, .inl (cI, 512, .inl g0_0_5))]) [1] (by decide) rfl
            have hFc := va_free (wc := [(b1, .inl (cI, 512, .inl g0_0_5))]) hD hS hA [1] rfl
            refine va_callv (va_runSN (As := [.ref b1, .int (S_X3_stateBehind p0 (nI k)), .int ((S_X3_cell 512 g0_0_5 p0) + 1)]) (rest := []) ⟨hx, hb, hml, hown, hts⟩ (c_X3_setCell l dC dI cI cR _ b1 512 g0_0_5 (by decide) (S_X3_stateBehind p0 (nI k)) ((S_X3_cell 512 g0_0_5 p0) + 1)) ⟨va_cnB 3 hts gX2_lookOnFrom_X3_setCell_n35 rfl rfl rfl (hE.2 (.methodLinkNest RX2 35 yX3_setCell "Cascadecourt") (by decide +kernel)) q_0 (by decide +kernel) ⟨Nat.le_of_ble_eq_true rfl, Nat.le_of_ble_eq_true rfl⟩, q_4, trivial⟩ ⟨fun a U g mk q => by obtain ⟨q0, q1, qP, qE, qD⟩ := q; exact ⟨q0, q1, qP, cE.same (s := U) rfl qE, qD⟩, fun U hU hW => ⟨rfl, by rw [hU], by rw [hU]; exact hPc, hE.warm hW, hDc.weaken (fun _ _ _ _ => trivial)⟩⟩ rfl rfl hl.1 rfl (lv_room (Nat.le_of_ble_eq_true rfl)) dX2_lookOnFrom_55 ⟨Nat.zero_le _, Nat.zero_le _⟩) hS (fun q _ h => hFc q h) hFc (fun u t H1 locs ht hvm h_55 hB hz1 hk1 hS => ?_)
            obtain ⟨hP1, -, hD1⟩ := hB
            rw [ht] at hP1
            obtain ⟨hP, hD⟩ := va_join (wr := [(y, .inr (2, [.ref b1, .ref b2, .ref b3, .int η.2.2.2])), (b2, .inl (cI, 512, .inl g0_1_5)), (b3, .inl (cI, 512, .inl g0_2_5))]) (w1 := [(b1, .inl (cI, 512, .inl (S_X3_setCell 512 g0_0_5 (S_X3_stateBehind p0 (nI k)) ((S_X3_cell 512 g0_0_5 p0) + 1))))]) hP hD [1] [0, 2, 3] rfl rfl (by decide) (by decide) hk1 hFc hP1 hD1
            have hP := hP.sub (ws' := [(y, .inr (2, [.ref b1, .ref b2, .ref b3, .int η.2.2.2])), (b1, .inl (cI, 512, .inl (S_X3_setCell 512 g0_0_5 (S_X3_stateBehind p0 (nI k)) ((S_X3_cell 512 g0_0_5 p0) + 1)))), (b2, .inl (cI, 512, .inl g0_1_5)), (b3, .inl (cI, 512, .inl g0_2_5))]) [0, 3, 1, 2] rfl
            have hD := hD.sub (ws' := [(y, .inr (2, [.ref b1, .ref b2, .ref b3, .int η.2.2.2])), (b1, .inl (cI, 512, .inl (S_X3_setCell 512 g0_0_5 (S_X3_stateBehind p0 (nI k)) ((S_X3_cell 512 g0_0_5 p0) + 1)))), (b2, .inl (cI, 512, .inl g0_1_5)), (b3, .inl (cI, 512, .inl g0_2_5))]) [0, 3, 1, 2] (by decide) rfl
            clear hPc hDc hP1 hD1 hk1 hFc hz1 ht hvm
            generalize H1 = H at hP hS ⊢
            refine lv_aload_n hx hb dX2_lookOnFrom_58 rfl (lv_at hl 3 rfl) ?_
            refine va_get (D := (dC, dI)) (ci := 2) (v := .ref b2) (C := RX2) (T := TX2) (N := 4) hx hb hts in_X2 hown hK hP 0 rfl rfl 1 (by decide) q_5 (fun _ h9 => h9) rfl dX2_lookOnFrom_59 ?_
            refine lv_iload hx hb dX2_lookOnFrom_62 (lv_at hl 0 rfl) ?_
            refine lv_iload_n hx hb dX2_lookOnFrom_64 rfl (lv_at hl 4 rfl) ?_
            refine lv_aload_n hx hb dX2_lookOnFrom_65 rfl (lv_at hl 3 rfl) ?_
            refine va_get (D := (dC, dI)) (ci := 2) (v := .int η.2.2.2) (C := RX2) (T := TX2) (N := 4) hx hb hts in_X2 hown hK hP 0 rfl rfl 3 (by decide) q_6 (fun _ h9 => h9) rfl dX2_lookOnFrom_66 ?_
            refine lv_icmp_ne (tgt := 77) hx hb dX2_lookOnFrom_69 (by decide) (fun c_69 => ?_) (fun c_69 => ?_)
            · refine lv_aload_n hx hb dX2_lookOnFrom_77 rfl (lv_at hl 3 rfl) ?_
              refine va_get (D := (dC, dI)) (ci := 2) (v := .ref b2) (C := RX2) (T := TX2) (N := 4) hx hb hts in_X2 hown hK hP 0 rfl rfl 1 (by decide) q_5 (fun _ h9 => h9) rfl dX2_lookOnFrom_78 ?_
              refine lv_iload_n hx hb dX2_lookOnFrom_81 rfl (lv_at hl 4 rfl) ?_
              refine vp_callSi (va_Run.run (va_runSN (As := [.ref b2, .int p0]) (rest := [.int (S_X3_stateBehind p0 (nI k)), .ref b2]) ⟨hx, hb, hml, hown, hts⟩ (c_X3_cell l dC dI cI cR b2 512 g0_1_5 (by decide) p0) ⟨va_cnB 2 hts gX2_lookOnFrom_X3_cell_n25 rfl rfl rfl (hE.2 (.methodLinkNest RX2 25 yX3_cell "Cascadecourt") (by decide +kernel)) q_0 (by decide +kernel) ⟨Nat.le_of_ble_eq_true rfl, Nat.le_of_ble_eq_true rfl⟩, q_3, trivial⟩ ⟨fun a U g mk q => by obtain ⟨q0, qP, qE⟩ := q; exact ⟨q0, qP, cE.same (s := U) rfl qE⟩, fun U hU hW => ⟨rfl, by rw [hU]; exact hP.sub (ws' := [(b2, .inl (cI, 512, .inl g0_1_5))]) [2] rfl, hE.warm hW⟩⟩ rfl rfl hl.1 rfl (lv_room (Nat.le_of_ble_eq_true rfl)) dX2_lookOnFrom_82 ⟨Nat.zero_le _, Nat.zero_le _⟩)) (fun r_82 h_82 => ?_)
              subst h_82
              have hPc := hP.sub (ws' := [(b2, .inl (cI, 512, .inl g0_1_5))]) [2] rfl
              have hDc := hD.sub (ws' := [(b2, .inl (cI, 512, .inl g0_1_5))]) [2] (by decide) rfl
              have hFc := va_free (wc := [(b2, .inl (cI, 512, .inl g0_1_5))]) hD hS hA [2] rfl
              refine va_callv (va_runSN (As := [.ref b2, .int (S_X3_stateBehind p0 (nI k)), .int (S_X3_cell 512 g0_1_5 p0)]) (rest := []) ⟨hx, hb, hml, hown, hts⟩ (c_X3_setCell l dC dI cI cR _ b2 512 g0_1_5 (by decide) (S_X3_stateBehind p0 (nI k)) (S_X3_cell 512 g0_1_5 p0)) ⟨va_cnB 3 hts gX2_lookOnFrom_X3_setCell_n35 rfl rfl rfl (hE.2 (.methodLinkNest RX2 35 yX3_setCell "Cascadecourt") (by decide +kernel)) q_0 (by decide +kernel) ⟨Nat.le_of_ble_eq_true rfl, Nat.le_of_ble_eq_true rfl⟩, q_4, trivial⟩ ⟨fun a U g mk q => by obtain ⟨q0, q1, qP, qE, qD⟩ := q; exact ⟨q0, q1, qP, cE.same (s := U) rfl qE, qD⟩, fun U hU hW => ⟨rfl, by rw [hU], by rw [hU]; exact hPc, hE.warm hW, hDc.weaken (fun _ _ _ _ => trivial)⟩⟩ rfl rfl hl.1 rfl (lv_room (Nat.le_of_ble_eq_true rfl)) dX2_lookOnFrom_85 ⟨Nat.zero_le _, Nat.zero_le _⟩) hS (fun q _ h => hFc q h) hFc (fun u t H1 locs ht hvm h_85 hB hz1 hk1 hS => ?_)
              obtain ⟨hP1, -, hD1⟩ := hB
              rw [ht] at hP1
              obtain ⟨hP, hD⟩ := va_join (wr := [(y, .inr (2, [.ref b1, .ref b2, .ref b3, .int η.2.2.2])), (b1, .inl (cI, 512, .inl (S_X3_setCell 512 g0_0_5 (S_X3_stateBehind p0 (nI k)) ((S_X3_cell 512 g0_0_5 p0) + 1)))), (b3, .inl (cI, 512, .inl g0_2_5))]) (w1 := [(b2, .inl (cI, 512, .inl (S_X3_setCell 512 g0_1_5 (S_X3_stateBehind p0 (nI k)) (S_X3_cell 512 g0_1_5 p0))))]) hP hD [2] [0, 1, 3] rfl rfl (by decide) (by decide) hk1 hFc hP1 hD1
              have hP := hP.sub (ws' := [(y, .inr (2, [.ref b1, .ref b2, .ref b3, .int η.2.2.2])), (b1, .inl (cI, 512, .inl (S_X3_setCell 512 g0_0_5 (S_X3_stateBehind p0 (nI k)) ((S_X3_cell 512 g0_0_5 p0) + 1)))), (b2, .inl (cI, 512, .inl (S_X3_setCell 512 g0_1_5 (S_X3_stateBehind p0 (nI k)) (S_X3_cell 512 g0_1_5 p0)))), (b3, .inl (cI, 512, .inl g0_2_5))]) [0, 1, 3, 2] rfl
              have hD := hD.sub (ws' := [(y, .inr (2, [.ref b1, .ref b2, .ref b3, .int η.2.2.2])), (b1, .inl (cI, 512, .inl (S_X3_setCell 512 g0_0_5 (S_X3_stateBehind p0 (nI k)) ((S_X3_cell 512 g0_0_5 p0) + 1)))), (b2, .inl (cI, 512, .inl (S_X3_setCell 512 g0_1_5 (S_X3_stateBehind p0 (nI k)) (S_X3_cell 512 g0_1_5 p0)))), (b3, .inl (cI, 512, .inl g0_2_5))]) [0, 1, 3, 2] (by decide) rfl
              clear hPc hDc hP1 hD1 hk1 hFc hz1 ht hvm
              generalize H1 = H at hP hS ⊢
              refine lv_aload_n hx hb dX2_lookOnFrom_88 rfl (lv_at hl 3 rfl) ?_
              refine va_get (D := (dC, dI)) (ci := 2) (v := .ref b3) (C := RX2) (T := TX2) (N := 4) hx hb hts in_X2 hown hK hP 0 rfl rfl 2 (by decide) q_7 (fun _ h9 => h9) rfl dX2_lookOnFrom_89 ?_
              refine lv_iload_n hx hb dX2_lookOnFrom_92 rfl (lv_at hl 2 rfl) ?_
              refine lv_iload hx hb dX2_lookOnFrom_93 (lv_at hl 0 rfl) ?_
              have hPc := hP.sub (ws' := [(b3, .inl (cI, 512, .inl g0_2_5))]) [3] rfl
              have hDc := hD.sub (ws' := [(b3, .inl (cI, 512, .inl g0_2_5))]) [3] (by decide) rfl
              have hFc := va_free (wc := [(b3, .inl (cI, 512, .inl g0_2_5))]) hD hS hA [3] rfl
              refine va_callv (va_runSN (As := [.ref b3, .int v3_5, .int (S_X3_stateBehind p0 (nI k))]) (rest := []) ⟨hx, hb, hml, hown, hts⟩ (c_X3_setCell l dC dI cI cR _ b3 512 g0_2_5 (by decide) v3_5 (S_X3_stateBehind p0 (nI k))) ⟨va_cnB 3 hts gX2_lookOnFrom_X3_setCell_n35 rfl rfl rfl (hE.2 (.methodLinkNest RX2 35 yX3_setCell "Cascadecourt") (by decide +kernel)) q_0 (by decide +kernel) ⟨Nat.le_of_ble_eq_true rfl, Nat.le_of_ble_eq_true rfl⟩, q_4, trivial⟩ ⟨fun a U g mk q => by obtain ⟨q0, q1, qP, qE, qD⟩ := q; exact ⟨q0, q1, qP, cE.same (s := U) rfl qE, qD⟩, fun U hU hW => ⟨rfl, by rw [hU], by rw [hU]; exact hPc, hE.warm hW, hDc.weaken (fun _ _ _ _ => trivial)⟩⟩ rfl rfl hl.1 rfl (lv_room (Nat.le_of_ble_eq_true rfl)) dX2_lookOnFrom_95 ⟨Nat.zero_le _, Nat.zero_le _⟩) hS (fun q _ h => hFc q h) hFc (fun u t H1 locs ht hvm h_95 hB hz1 hk1 hS => ?_)
              obtain ⟨hP1, -, hD1⟩ := hB
              rw [ht] at hP1
              obtain ⟨hP, hD⟩ := va_join (wr := [(y, .inr (2, [.ref b1, .ref b2, .ref b3, .int η.2.2.2])), (b1, .inl (cI, 512, .inl (S_X3_setCell 512 g0_0_5 (S_X3_stateBehind p0 (nI k)) ((S_X3_cell 512 g0_0_5 p0) + 1)))), (b2, .inl (cI, 512, .inl (S_X3_setCell 512 g0_1_5 (S_X3_stateBehind p0 (nI k)) (S_X3_cell 512 g0_1_5 p0))))]) (w1 := [(b3, .inl (cI, 512, .inl (S_X3_setCell 512 g0_2_5 v3_5 (S_X3_stateBehind p0 (nI k)))))]) hP hD [3] [0, 1, 2] rfl rfl (by decide) (by decide) hk1 hFc hP1 hD1
              have hP := hP.sub (ws' := [(y, .inr (2, [.ref b1, .ref b2, .ref b3, .int η.2.2.2])), (b1, .inl (cI, 512, .inl (S_X3_setCell 512 g0_0_5 (S_X3_stateBehind p0 (nI k)) ((S_X3_cell 512 g0_0_5 p0) + 1)))), (b2, .inl (cI, 512, .inl (S_X3_setCell 512 g0_1_5 (S_X3_stateBehind p0 (nI k)) (S_X3_cell 512 g0_1_5 p0)))), (b3, .inl (cI, 512, .inl (S_X3_setCell 512 g0_2_5 v3_5 (S_X3_stateBehind p0 (nI k)))))]) [0, 1, 2, 3] rfl
              have hD := hD.sub (ws' := [(y, .inr (2, [.ref b1, .ref b2, .ref b3, .int η.2.2.2])), (b1, .inl (cI, 512, .inl (S_X3_setCell 512 g0_0_5 (S_X3_stateBehind p0 (nI k)) ((S_X3_cell 512 g0_0_5 p0) + 1)))), (b2, .inl (cI, 512, .inl (S_X3_setCell 512 g0_1_5 (S_X3_stateBehind p0 (nI k)) (S_X3_cell 512 g0_1_5 p0)))), (b3, .inl (cI, 512, .inl (S_X3_setCell 512 g0_2_5 v3_5 (S_X3_stateBehind p0 (nI k)))))]) [0, 1, 2, 3] (by decide) rfl
              clear hPc hDc hP1 hD1 hk1 hFc hz1 ht hvm
              generalize H1 = H at hP hS ⊢
              refine lv_iinc (v := v3_5 + 1) (lv' := [(3, .int (v3_5 + 1)), (5, .int (S_X3_stateBehind p0 (nI k))), (4, .int (nI k)), (0, .ref y), (1, .int p0), (2, .int p1)]) hx hb dX2_lookOnFrom_98 hl (k := 2) rfl (rfl) (by decide) rfl (fun ls hl => ?_)
              refine lv_iinc (v := nI (k + 1)) (lv' := [(4, .int (nI (k + 1))), (3, .int (v3_5 + 1)), (5, .int (S_X3_stateBehind p0 (nI k))), (0, .ref y), (1, .int p0), (2, .int p1)]) hx hb dX2_lookOnFrom_101 hl (k := 2) rfl ((nI_succ _).symm) (by decide) rfl (fun ls hl => ?_)
              refine lv_goto (tgt := 5) hx hb dX2_lookOnFrom_104 (by decide) ?_
              exact ih5 (k + 1) (v3_5 + 1) (S_X3_setCell 512 g0_0_5 (S_X3_stateBehind p0 (nI k)) ((S_X3_cell 512 g0_0_5 p0) + 1)) (S_X3_setCell 512 g0_1_5 (S_X3_stateBehind p0 (nI k)) (S_X3_cell 512 g0_1_5 p0)) (S_X3_setCell 512 g0_2_5 v3_5 (S_X3_stateBehind p0 (nI k))) _ _ ls (by omega) (by rw [← hG5]; simp only [G_X2_lookOnFrom_5, if_neg c_23, if_pos c_36, if_neg c_69]) (lv_sub hl [0, 1, 3, 4, 5] rfl) hP hD hS
            · refine lv_iload hx hb dX2_lookOnFrom_72 (lv_at hl 1 rfl) ?_
              refine lv_goto (tgt := 85) hx hb dX2_lookOnFrom_74 (by decide) ?_
              have hPc := hP.sub (ws' := [(b2, .inl (cI, 512, .inl g0_1_5))]) [2] rfl
              have hDc := hD.sub (ws' := [(b2, .inl (cI, 512, .inl g0_1_5))]) [2] (by decide) rfl
              have hFc := va_free (wc := [(b2, .inl (cI, 512, .inl g0_1_5))]) hD hS hA [2] rfl
              refine va_callv (va_runSN (As := [.ref b2, .int (S_X3_stateBehind p0 (nI k)), .int (nI k)]) (rest := []) ⟨hx, hb, hml, hown, hts⟩ (c_X3_setCell l dC dI cI cR _ b2 512 g0_1_5 (by decide) (S_X3_stateBehind p0 (nI k)) (nI k)) ⟨va_cnB 3 hts gX2_lookOnFrom_X3_setCell_n35 rfl rfl rfl (hE.2 (.methodLinkNest RX2 35 yX3_setCell "Cascadecourt") (by decide +kernel)) q_0 (by decide +kernel) ⟨Nat.le_of_ble_eq_true rfl, Nat.le_of_ble_eq_true rfl⟩, q_4, trivial⟩ ⟨fun a U g mk q => by obtain ⟨q0, q1, qP, qE, qD⟩ := q; exact ⟨q0, q1, qP, cE.same (s := U) rfl qE, qD⟩, fun U hU hW => ⟨rfl, by rw [hU], by rw [hU]; exact hPc, hE.warm hW, hDc.weaken (fun _ _ _ _ => trivial)⟩⟩ rfl rfl hl.1 rfl (lv_room (Nat.le_of_ble_eq_true rfl)) dX2_lookOnFrom_85 ⟨Nat.zero_le _, Nat.zero_le _⟩) hS (fun q _ h => hFc q h) hFc (fun u t H1 locs ht hvm h_85 hB hz1 hk1 hS => ?_)
              obtain ⟨hP1, -, hD1⟩ := hB
              rw [ht] at hP1
              obtain ⟨hP, hD⟩ := va_join (wr := [(y, .inr (2, [.ref b1, .ref b2, .ref b3, .int η.2.2.2])), (b1, .inl (cI, 512, .inl (S_X3_setCell 512 g0_0_5 (S_X3_stateBehind p0 (nI k)) ((S_X3_cell 512 g0_0_5 p0) + 1)))), (b3, .inl (cI, 512, .inl g0_2_5))]) (w1 := [(b2, .inl (cI, 512, .inl (S_X3_setCell 512 g0_1_5 (S_X3_stateBehind p0 (nI k)) (nI k))))]) hP hD [2] [0, 1, 3] rfl rfl (by decide) (by decide) hk1 hFc hP1 hD1
              have hP := hP.sub (ws' := [(y, .inr (2, [.ref b1, .ref b2, .ref b3, .int η.2.2.2])), (b1, .inl (cI, 512, .inl (S_X3_setCell 512 g0_0_5 (S_X3_stateBehind p0 (nI k)) ((S_X3_cell 512 g0_0_5 p0) + 1)))), (b2, .inl (cI, 512, .inl (S_X3_setCell 512 g0_1_5 (S_X3_stateBehind p0 (nI k)) (nI k)))), (b3, .inl (cI, 512, .inl g0_2_5))]) [0, 1, 3, 2] rfl
              have hD := hD.sub (ws' := [(y, .inr (2, [.ref b1, .ref b2, .ref b3, .int η.2.2.2])), (b1, .inl (cI, 512, .inl (S_X3_setCell 512 g0_0_5 (S_X3_stateBehind p0 (nI k)) ((S_X3_cell 512 g0_0_5 p0) + 1)))), (b2, .inl (cI, 512, .inl (S_X3_setCell 512 g0_1_5 (S_X3_stateBehind p0 (nI k)) (nI k)))), (b3, .inl (cI, 512, .inl g0_2_5))]) [0, 1, 3, 2] (by decide) rfl
              clear hPc hDc hP1 hD1 hk1 hFc hz1 ht hvm
              generalize H1 = H at hP hS ⊢
              refine lv_aload_n hx hb dX2_lookOnFrom_88 rfl (lv_at hl 3 rfl) ?_
              refine va_get (D := (dC, dI)) (ci := 2) (v := .ref b3) (C := RX2) (T := TX2) (N := 4) hx hb hts in_X2 hown hK hP 0 rfl rfl 2 (by decide) q_7 (fun _ h9 => h9) rfl dX2_lookOnFrom_89 ?_
              refine lv_iload_n hx hb dX2_lookOnFrom_92 rfl (lv_at hl 2 rfl) ?_
              refine lv_iload hx hb dX2_lookOnFrom_93 (lv_at hl 0 rfl) ?_
              have hPc := hP.sub (ws' := [(b3, .inl (cI, 512, .inl g0_2_5))]) [3] rfl
              have hDc := hD.sub (ws' := [(b3, .inl (cI, 512, .inl g0_2_5))]) [3] (by decide) rfl
              have hFc := va_free (wc := [(b3, .inl (cI, 512, .inl g0_2_5))]) hD hS hA [3] rfl
              refine va_callv (va_runSN (As := [.ref b3, .int v3_5, .int (S_X3_stateBehind p0 (nI k))]) (rest := []) ⟨hx, hb, hml, hown, hts⟩ (c_X3_setCell l dC dI cI cR _ b3 512 g0_2_5 (by decide) v3_5 (S_X3_stateBehind p0 (nI k))) ⟨va_cnB 3 hts gX2_lookOnFrom_X3_setCell_n35 rfl rfl rfl (hE.2 (.methodLinkNest RX2 35 yX3_setCell "Cascadecourt") (by decide +kernel)) q_0 (by decide +kernel) ⟨Nat.le_of_ble_eq_true rfl, Nat.le_of_ble_eq_true rfl⟩, q_4, trivial⟩ ⟨fun a U g mk q => by obtain ⟨q0, q1, qP, qE, qD⟩ := q; exact ⟨q0, q1, qP, cE.same (s := U) rfl qE, qD⟩, fun U hU hW => ⟨rfl, by rw [hU], by rw [hU]; exact hPc, hE.warm hW, hDc.weaken (fun _ _ _ _ => trivial)⟩⟩ rfl rfl hl.1 rfl (lv_room (Nat.le_of_ble_eq_true rfl)) dX2_lookOnFrom_95 ⟨Nat.zero_le _, Nat.zero_le _⟩) hS (fun q _ h => hFc q h) hFc (fun u t H1 locs ht hvm h_95 hB hz1 hk1 hS => ?_)
              obtain ⟨hP1, -, hD1⟩ := hB
              rw [ht] at hP1
              obtain ⟨hP, hD⟩ := va_join (wr := [(y, .inr (2, [.ref b1, .ref b2, .ref b3, .int η.2.2.2])), (b1, .inl (cI, 512, .inl (S_X3_setCell 512 g0_0_5 (S_X3_stateBehind p0 (nI k)) ((S_X3_cell 512 g0_0_5 p0) + 1)))), (b2, .inl (cI, 512, .inl (S_X3_setCell 512 g0_1_5 (S_X3_stateBehind p0 (nI k)) (nI k))))]) (w1 := [(b3, .inl (cI, 512, .inl (S_X3_setCell 512 g0_2_5 v3_5 (S_X3_stateBehind p0 (nI k)))))]) hP hD [3] [0, 1, 2] rfl rfl (by decide) (by decide) hk1 hFc hP1 hD1
              have hP := hP.sub (ws' := [(y, .inr (2, [.ref b1, .ref b2, .ref b3, .int η.2.2.2])), (b1, .inl (cI, 512, .inl (S_X3_setCell 512 g0_0_5 (S_X3_stateBehind p0 (nI k)) ((S_X3_cell 512 g0_0_5 p0) + 1)))), (b2, .inl (cI, 512, .inl (S_X3_setCell 512 g0_1_5 (S_X3_stateBehind p0 (nI k)) (nI k)))), (b3, .inl (cI, 512, .inl (S_X3_setCell 512 g0_2_5 v3_5 (S_X3_stateBehind p0 (nI k)))))]) [0, 1, 2, 3] rfl
              have hD := hD.sub (ws' := [(y, .inr (2, [.ref b1, .ref b2, .ref b3, .int η.2.2.2])), (b1, .inl (cI, 512, .inl (S_X3_setCell 512 g0_0_5 (S_X3_stateBehind p0 (nI k)) ((S_X3_cell 512 g0_0_5 p0) + 1)))), (b2, .inl (cI, 512, .inl (S_X3_setCell 512 g0_1_5 (S_X3_stateBehind p0 (nI k)) (nI k)))), (b3, .inl (cI, 512, .inl (S_X3_setCell 512 g0_2_5 v3_5 (S_X3_stateBehind p0 (nI k)))))]) [0, 1, 2, 3] (by decide) rfl
              clear hPc hDc hP1 hD1 hk1 hFc hz1 ht hvm
              generalize H1 = H at hP hS ⊢
              refine lv_iinc (v := v3_5 + 1) (lv' := [(3, .int (v3_5 + 1)), (5, .int (S_X3_stateBehind p0 (nI k))), (4, .int (nI k)), (0, .ref y), (1, .int p0), (2, .int p1)]) hx hb dX2_lookOnFrom_98 hl (k := 2) rfl (rfl) (by decide) rfl (fun ls hl => ?_)
              refine lv_iinc (v := nI (k + 1)) (lv' := [(4, .int (nI (k + 1))), (3, .int (v3_5 + 1)), (5, .int (S_X3_stateBehind p0 (nI k))), (0, .ref y), (1, .int p0), (2, .int p1)]) hx hb dX2_lookOnFrom_101 hl (k := 2) rfl ((nI_succ _).symm) (by decide) rfl (fun ls hl => ?_)
              refine lv_goto (tgt := 5) hx hb dX2_lookOnFrom_104 (by decide) ?_
              exact ih5 (k + 1) (v3_5 + 1) (S_X3_setCell 512 g0_0_5 (S_X3_stateBehind p0 (nI k)) ((S_X3_cell 512 g0_0_5 p0) + 1)) (S_X3_setCell 512 g0_1_5 (S_X3_stateBehind p0 (nI k)) (nI k)) (S_X3_setCell 512 g0_2_5 v3_5 (S_X3_stateBehind p0 (nI k))) _ _ ls (by omega) (by rw [← hG5]; simp only [G_X2_lookOnFrom_5, if_neg c_23, if_pos c_36, if_pos c_69]) (lv_sub hl [0, 1, 3, 4, 5] rfl) hP hD hS
  exact loop5 10 0 p1 η.1 η.2.1 η.2.2.1 _ _ ls (by omega) (by simp only [S_X2_lookOnFrom]) (lv_sub hl [0, 1, 2, 3, 4] rfl) hP hD hS
def G_X2_lookFrom_53 (η : YS) (p0 : Int32) : Nat → Nat → Int32 → (Nat → Int32) → (Nat → Int32) → (Nat → Int32) → Int32 → YS
  | 0, k, v2_53, g0_0_53, g0_1_53, g0_2_53, g0_3_53 => (if v2_53 ≤ (nI k) then (g0_0_53, g0_1_53, g0_2_53, g0_3_53) else (g0_0_53, g0_1_53, g0_2_53, g0_3_53))
  | mm + 1, k, v2_53, g0_0_53, g0_1_53, g0_2_53, g0_3_53 => (if v2_53 ≤ (nI k) then (g0_0_53, g0_1_53, g0_2_53, g0_3_53) else G_X2_lookFrom_53 η p0 mm (k + 1) ((S_X2_lookOnFrom (g0_0_53, g0_1_53, g0_2_53, g0_3_53) (S_X3_cell 512 g0_2_53 (nI k)) v2_53).1) (((S_X2_lookOnFrom (g0_0_53, g0_1_53, g0_2_53, g0_3_53) (S_X3_cell 512 g0_2_53 (nI k)) v2_53).2).1) (((S_X2_lookOnFrom (g0_0_53, g0_1_53, g0_2_53, g0_3_53) (S_X3_cell 512 g0_2_53 (nI k)) v2_53).2).2.1) (((S_X2_lookOnFrom (g0_0_53, g0_1_53, g0_2_53, g0_3_53) (S_X3_cell 512 g0_2_53 (nI k)) v2_53).2).2.2.1) (((S_X2_lookOnFrom (g0_0_53, g0_1_53, g0_2_53, g0_3_53) (S_X3_cell 512 g0_2_53 (nI k)) v2_53).2).2.2.2))
def S_X2_lookFrom (η : YS) (p0 : Int32) : YS := (if p0 = η.2.2.2 then η else G_X2_lookFrom_53 η p0 512 0 1 (S_X3_setCell 512 (S_J7_fill_53178 512 η.1 (-1)) p0 0) (S_X3_setCell 512 η.2.1 p0 (-1)) (S_X3_setCell 512 η.2.2.1 0 p0) p0)
set_option maxHeartbeats 4000000 in
set_option maxRecDepth 100000 in
theorem c_X2_lookFrom (l : Launch) (dC : Nat → ClassId) (dI : Nat → Nat → Nat) (cI cR : ClassId) (sz : Nat) (y b1 b2 b3 : Nat) (η : YS) (p0 : Int32)  : Met l yX2_lookFrom wsX2_lookFrom ({ frames := 2, cells := 0, slots := 0, locals := 48 }) (va_Pc [.ref y, .int p0] (fun U => U.heap.size = sz ∧ va_P (dC, dI) vwCl (wY cI y b1 b2 b3 η) U.heap ∧ cE (dC, dI) cI cR U ∧ va_D (fun _ => True) (wY cI y b1 b2 b3 η))) (va_Qv (fun _ : Unit => True) (fun (_ : Unit) t => va_P (dC, dI) vwCl (wY cI y b1 b2 b3 (S_X2_lookFrom η p0)) t.heap ∧ cE (dC, dI) cI cR t ∧ va_D (va_A (wY cI y b1 b2 b3 η) sz) (wY cI y b1 b2 b3 (S_X2_lookFrom η p0))) (va_A (wY cI y b1 b2 b3 η) sz)) 0 0 (va_A (wY cI y b1 b2 b3 η) sz) := by
  refine Met.ofW (cc := cX2_lookFrom) (maxL := 4) (ret := none) (by decide) rfl ?_
  intro p e s m args below meth c s₁ B hml hv
  obtain ⟨rfl, hsz, hP, hE, hD0⟩ := hv
  have hK := hE.1
  have hx := B.exec
  have hb := B.bytes
  have hr := B.returns
  have hts := atoms_spec (ws := wsX2_lookFrom) B.pre
  have hown : s.vm.findClass RX2 = some m.cls := findClass_of_methodNamed B.named
  have hlocks := B.notSynchronized
  subst hsz
  have hD := hD0.self (sz := s.heap.size)
  generalize hAe : va_A (wY cI y b1 b2 b3 η) s.heap.size = A at hD ⊢
  have hA : ∀ q : Nat, s.heap.size ≤ q → A q := fun q h => by rw [← hAe]; exact Or.inr h
  have hS : va_S A s.heap s.heap [] := va_S.rf
  have hP : va_P (dC, dI) vwCl [(y, .inr (2, [.ref b1, .ref b2, .ref b3, .int η.2.2.2])), (b1, .inl (cI, 512, .inl η.1)), (b2, .inl (cI, 512, .inl η.2.1)), (b3, .inl (cI, 512, .inl η.2.2.1))] s.heap := hP
  have hD : va_D A [(y, .inr (2, [.ref b1, .ref b2, .ref b3, .int η.2.2.2])), (b1, .inl (cI, 512, .inl η.1)), (b2, .inl (cI, 512, .inl η.2.1)), (b3, .inl (cI, 512, .inl η.2.2.1))] := hD
  have hl := lv_entry ([.ref y, .int p0]) (n := 4) (Nat.le_of_ble_eq_true rfl)
  rw [lg_entry_eq]
  generalize (lg_sl ([.ref y, .int p0]) ++ List.replicate (4 - (lg_sl ([.ref y, .int p0])).length) Slot.unset).toArray = ls at hl ⊢
  have hl : lv_has ls 4 [(0, .ref y), (1, .int p0)] := hl
  have q_0 := hts (.fieldLink RX2 21 "Cascadecourt$Ways" "start" "I") (by decide +kernel)
  have in_X2 : ∀ w ∈ wsX20, w ∈ wsX2_lookFrom := by decide +kernel
  have q_1 := hts (.fieldLink RX2 9 "Cascadecourt$Ways" "steps" "[I") (by decide +kernel)
  have q_2 := hts (.initialized RX3) (by decide +kernel)
  have q_3 := hts (.static yX3_setCell) (by decide +kernel)
  have q_4 := hts (.fieldLink RX2 15 "Cascadecourt$Ways" "firstThrows" "[I") (by decide +kernel)
  have q_5 := hts (.fieldLink RX2 18 "Cascadecourt$Ways" "waiting" "[I") (by decide +kernel)
  have q_6 := hts (.static yX3_cell) (by decide +kernel)
  refine lv_iload_n hx hb dX2_lookFrom_0 rfl (lv_at hl 1 rfl) ?_
  refine lv_aload_n hx hb dX2_lookFrom_1 rfl (lv_at hl 0 rfl) ?_
  refine va_get (D := (dC, dI)) (ci := 2) (v := .int η.2.2.2) (C := RX2) (T := TX2) (N := 4) hx hb hts in_X2 hown hK hP 0 rfl rfl 3 (by decide) q_0 (fun _ h9 => h9) rfl dX2_lookFrom_2 ?_
  refine lv_icmp_ne (tgt := 9) hx hb dX2_lookFrom_5 (by decide) (fun c_5 => ?_) (fun c_5 => ?_)
  · refine lv_aload_n hx hb dX2_lookFrom_9 rfl (lv_at hl 0 rfl) ?_
    refine lv_iload_n hx hb dX2_lookFrom_10 rfl (lv_at hl 1 rfl) ?_
    refine va_put (D := (dC, dI)) (ci := 2) (v := .int p0) (ty := .int) (C := RX2) (T := TX2) (N := 4) hx hb hts in_X2 tyX2 tyX2_ok nmX2 hown hK hP hD hS 0 rfl rfl 3 (by decide) q_0 (fun _ h9 => h9) rfl (by decide +kernel) rfl rfl (Nat.le_of_ble_eq_true rfl) dX2_lookFrom_11 (fun H locs hP hD hS => ?_)
    have hP : va_P (dC, dI) vwCl [(y, .inr (2, [.ref b1, .ref b2, .ref b3, .int p0])), (b1, .inl (cI, 512, .inl η.1)), (b2, .inl (cI, 512, .inl η.2.1)), (b3, .inl (cI, 512, .inl η.2.2.1))] H := hP
    have hD : va_D A [(y, .inr (2, [.ref b1, .ref b2, .ref b3, .int p0])), (b1, .inl (cI, 512, .inl η.1)), (b2, .inl (cI, 512, .inl η.2.1)), (b3, .inl (cI, 512, .inl η.2.2.1))] := hD
    refine lv_aload_n hx hb dX2_lookFrom_14 rfl (lv_at hl 0 rfl) ?_
    refine va_get (D := (dC, dI)) (ci := 2) (v := .ref b1) (C := RX2) (T := TX2) (N := 4) hx hb hts in_X2 hown hK hP 0 rfl rfl 0 (by decide) q_1 (fun _ h9 => h9) rfl dX2_lookFrom_15 ?_
    refine lv_iconst (v := (-1)) hx hb dX2_lookFrom_18 (by decide) ?_
    have hPc := hP.sub (ws' := [(b1, .inl (cI, 512, .inl η.1))]) [1] rfl
    have hDc := hD.sub (ws' := [(b1, .inl (cI, 512, .inl η.1))]) [1] (by decide) rfl
    have hFc := va_free (wc := [(b1, .inl (cI, 512, .inl η.1))]) hD hS hA [1] rfl
    refine va_callv (va_runS (As := [.ref b1, .int (-1)]) (rest := []) ⟨hx, hb, hml, hown, hts⟩ (c_J7_fill_53178 l dC dI cI cR _ b1 512 η.1 (by decide) (-1)) (va_cwS 2 hts gX2_lookFrom_J7_fill_53178 rfl rfl rfl (by decide +kernel) ⟨Nat.le_of_ble_eq_true rfl, Nat.le_of_ble_eq_true rfl⟩) ⟨fun a U g mk q => by obtain ⟨q0, q1, qP, qE, qD⟩ := q; exact ⟨q0, q1, qP, cE.same (s := U) rfl qE, qD⟩, fun U hU hW => ⟨rfl, by rw [hU], by rw [hU]; exact hPc, hE.warm hW, hDc.weaken (fun _ _ _ _ => trivial)⟩⟩ rfl rfl hl.1 rfl (lv_room (Nat.le_of_ble_eq_true rfl)) dX2_lookFrom_19 ⟨Nat.zero_le _, Nat.zero_le _⟩) hS (fun q _ h => hFc q h) hFc (fun u t H1 locs ht hvm h_19 hB hz1 hk1 hS => ?_)
    obtain ⟨hP1, -, hD1⟩ := hB
    rw [ht] at hP1
    obtain ⟨hP, hD⟩ := va_join (wr := [(y, .inr (2, [.ref b1, .ref b2, .ref b3, .int p0])), (b2, .inl (cI, 512, .inl η.2.1)), (b3, .inl (cI, 512, .inl η.2.2.1))]) (w1 := [(b1, .inl (cI, 512, .inl (S_J7_fill_53178 512 η.1 (-1))))]) hP hD [1] [0, 2, 3] rfl rfl (by decide) (by decide) hk1 hFc hP1 hD1
    have hP := hP.sub (ws' := [(y, .inr (2, [.ref b1, .ref b2, .ref b3, .int p0])), (b1, .inl (cI, 512, .inl (S_J7_fill_53178 512 η.1 (-1)))), (b2, .inl (cI, 512, .inl η.2.1)), (b3, .inl (cI, 512, .inl η.2.2.1))]) [0, 3, 1, 2] rfl
    have hD := hD.sub (ws' := [(y, .inr (2, [.ref b1, .ref b2, .ref b3, .int p0])), (b1, .inl (cI, 512, .inl (S_J7_fill_53178 512 η.1 (-1)))), (b2, .inl (cI, 512, .inl η.2.1)), (b3, .inl (cI, 512, .inl η.2.2.1))]) [0, 3, 1, 2] (by decide) rfl
    clear hPc hDc hP1 hD1 hk1 hFc hz1 ht hvm
    generalize H1 = H at hP hS ⊢
    refine lv_aload_n hx hb dX2_lookFrom_22 rfl (lv_at hl 0 rfl) ?_
    refine va_get (D := (dC, dI)) (ci := 2) (v := .ref b1) (C := RX2) (T := TX2) (N := 4) hx hb hts in_X2 hown hK hP 0 rfl rfl 0 (by decide) q_1 (fun _ h9 => h9) rfl dX2_lookFrom_23 ?_
    refine lv_iload_n hx hb dX2_lookFrom_26 rfl (lv_at hl 1 rfl) ?_
    refine lv_iconst (v := 0) hx hb dX2_lookFrom_27 (by decide) ?_
    have hPc := hP.sub (ws' := [(b1, .inl (cI, 512, .inl (S_J7_fill_53178 512 η.1 (-1))))]) [1] rfl
    have hDc := hD.sub (ws' := [(b1, .inl (cI, 512, .inl (S_J7_fill_53178 512 η.1 (-1))))]) [1] (by decide) rfl
    have hFc := va_free (wc := [(b1, .inl (cI, 512, .inl (S_J7_fill_53178 512 η.1 (-1))))]) hD hS hA [1] rfl
    refine va_callv (va_runSN (As := [.ref b1, .int p0, .int 0]) (rest := []) ⟨hx, hb, hml, hown, hts⟩ (c_X3_setCell l dC dI cI cR _ b1 512 (S_J7_fill_53178 512 η.1 (-1)) (by decide) p0 0) ⟨va_cnB 3 hts gX2_lookFrom_X3_setCell_n35 rfl rfl rfl (hE.2 (.methodLinkNest RX2 35 yX3_setCell "Cascadecourt") (by decide +kernel)) q_2 (by decide +kernel) ⟨Nat.le_of_ble_eq_true rfl, Nat.le_of_ble_eq_true rfl⟩, q_3, trivial⟩ ⟨fun a U g mk q => by obtain ⟨q0, q1, qP, qE, qD⟩ := q; exact ⟨q0, q1, qP, cE.same (s := U) rfl qE, qD⟩, fun U hU hW => ⟨rfl, by rw [hU], by rw [hU]; exact hPc, hE.warm hW, hDc.weaken (fun _ _ _ _ => trivial)⟩⟩ rfl rfl hl.1 rfl (lv_room (Nat.le_of_ble_eq_true rfl)) dX2_lookFrom_28 ⟨Nat.zero_le _, Nat.zero_le _⟩) hS (fun q _ h => hFc q h) hFc (fun u t H1 locs ht hvm h_28 hB hz1 hk1 hS => ?_)
    obtain ⟨hP1, -, hD1⟩ := hB
    rw [ht] at hP1
    obtain ⟨hP, hD⟩ := va_join (wr := [(y, .inr (2, [.ref b1, .ref b2, .ref b3, .int p0])), (b2, .inl (cI, 512, .inl η.2.1)), (b3, .inl (cI, 512, .inl η.2.2.1))]) (w1 := [(b1, .inl (cI, 512, .inl (S_X3_setCell 512 (S_J7_fill_53178 512 η.1 (-1)) p0 0)))]) hP hD [1] [0, 2, 3] rfl rfl (by decide) (by decide) hk1 hFc hP1 hD1
    have hP := hP.sub (ws' := [(y, .inr (2, [.ref b1, .ref b2, .ref b3, .int p0])), (b1, .inl (cI, 512, .inl (S_X3_setCell 512 (S_J7_fill_53178 512 η.1 (-1)) p0 0))), (b2, .inl (cI, 512, .inl η.2.1)), (b3, .inl (cI, 512, .inl η.2.2.1))]) [0, 3, 1, 2] rfl
    have hD := hD.sub (ws' := [(y, .inr (2, [.ref b1, .ref b2, .ref b3, .int p0])), (b1, .inl (cI, 512, .inl (S_X3_setCell 512 (S_J7_fill_53178 512 η.1 (-1)) p0 0))), (b2, .inl (cI, 512, .inl η.2.1)), (b3, .inl (cI, 512, .inl η.2.2.1))]) [0, 3, 1, 2] (by decide) rfl
    clear hPc hDc hP1 hD1 hk1 hFc hz1 ht hvm
    generalize H1 = H at hP hS ⊢
    refine lv_aload_n hx hb dX2_lookFrom_31 rfl (lv_at hl 0 rfl) ?_
    refine va_get (D := (dC, dI)) (ci := 2) (v := .ref b2) (C := RX2) (T := TX2) (N := 4) hx hb hts in_X2 hown hK hP 0 rfl rfl 1 (by decide) q_4 (fun _ h9 => h9) rfl dX2_lookFrom_32 ?_
    refine lv_iload_n hx hb dX2_lookFrom_35 rfl (lv_at hl 1 rfl) ?_
    refine lv_iconst (v := (-1)) hx hb dX2_lookFrom_36 (by decide) ?_
    have hPc := hP.sub (ws' := [(b2, .inl (cI, 512, .inl η.2.1))]) [2] rfl
    have hDc := hD.sub (ws' := [(b2, .inl (cI, 512, .inl η.2.1))]) [2] (by decide) rfl
    have hFc := va_free (wc := [(b2, .inl (cI, 512, .inl η.2.1))]) hD hS hA [2] rfl
    refine va_callv (va_runSN (As := [.ref b2, .int p0, .int (-1)]) (rest := []) ⟨hx, hb, hml, hown, hts⟩ (c_X3_setCell l dC dI cI cR _ b2 512 η.2.1 (by decide) p0 (-1)) ⟨va_cnB 3 hts gX2_lookFrom_X3_setCell_n35 rfl rfl rfl (hE.2 (.methodLinkNest RX2 35 yX3_setCell "Cascadecourt") (by decide +kernel)) q_2 (by decide +kernel) ⟨Nat.le_of_ble_eq_true rfl, Nat.le_of_ble_eq_true rfl⟩, q_3, trivial⟩ ⟨fun a U g mk q => by obtain ⟨q0, q1, qP, qE, qD⟩ := q; exact ⟨q0, q1, qP, cE.same (s := U) rfl qE, qD⟩, fun U hU hW => ⟨rfl, by rw [hU], by rw [hU]; exact hPc, hE.warm hW, hDc.weaken (fun _ _ _ _ => trivial)⟩⟩ rfl rfl hl.1 rfl (lv_room (Nat.le_of_ble_eq_true rfl)) dX2_lookFrom_37 ⟨Nat.zero_le _, Nat.zero_le _⟩) hS (fun q _ h => hFc q h) hFc (fun u t H1 locs ht hvm h_37 hB hz1 hk1 hS => ?_)
    obtain ⟨hP1, -, hD1⟩ := hB
    rw [ht] at hP1
    obtain ⟨hP, hD⟩ := va_join (wr := [(y, .inr (2, [.ref b1, .ref b2, .ref b3, .int p0])), (b1, .inl (cI, 512, .inl (S_X3_setCell 512 (S_J7_fill_53178 512 η.1 (-1)) p0 0))), (b3, .inl (cI, 512, .inl η.2.2.1))]) (w1 := [(b2, .inl (cI, 512, .inl (S_X3_setCell 512 η.2.1 p0 (-1))))]) hP hD [2] [0, 1, 3] rfl rfl (by decide) (by decide) hk1 hFc hP1 hD1
    have hP := hP.sub (ws' := [(y, .inr (2, [.ref b1, .ref b2, .ref b3, .int p0])), (b1, .inl (cI, 512, .inl (S_X3_setCell 512 (S_J7_fill_53178 512 η.1 (-1)) p0 0))), (b2, .inl (cI, 512, .inl (S_X3_setCell 512 η.2.1 p0 (-1)))), (b3, .inl (cI, 512, .inl η.2.2.1))]) [0, 1, 3, 2] rfl
    have hD := hD.sub (ws' := [(y, .inr (2, [.ref b1, .ref b2, .ref b3, .int p0])), (b1, .inl (cI, 512, .inl (S_X3_setCell 512 (S_J7_fill_53178 512 η.1 (-1)) p0 0))), (b2, .inl (cI, 512, .inl (S_X3_setCell 512 η.2.1 p0 (-1)))), (b3, .inl (cI, 512, .inl η.2.2.1))]) [0, 1, 3, 2] (by decide) rfl
    clear hPc hDc hP1 hD1 hk1 hFc hz1 ht hvm
    generalize H1 = H at hP hS ⊢
    refine lv_aload_n hx hb dX2_lookFrom_40 rfl (lv_at hl 0 rfl) ?_
    refine va_get (D := (dC, dI)) (ci := 2) (v := .ref b3) (C := RX2) (T := TX2) (N := 4) hx hb hts in_X2 hown hK hP 0 rfl rfl 2 (by decide) q_5 (fun _ h9 => h9) rfl dX2_lookFrom_41 ?_
    refine lv_iconst (v := 0) hx hb dX2_lookFrom_44 (by decide) ?_
    refine lv_iload_n hx hb dX2_lookFrom_45 rfl (lv_at hl 1 rfl) ?_
    have hPc := hP.sub (ws' := [(b3, .inl (cI, 512, .inl η.2.2.1))]) [3] rfl
    have hDc := hD.sub (ws' := [(b3, .inl (cI, 512, .inl η.2.2.1))]) [3] (by decide) rfl
    have hFc := va_free (wc := [(b3, .inl (cI, 512, .inl η.2.2.1))]) hD hS hA [3] rfl
    refine va_callv (va_runSN (As := [.ref b3, .int 0, .int p0]) (rest := []) ⟨hx, hb, hml, hown, hts⟩ (c_X3_setCell l dC dI cI cR _ b3 512 η.2.2.1 (by decide) 0 p0) ⟨va_cnB 3 hts gX2_lookFrom_X3_setCell_n35 rfl rfl rfl (hE.2 (.methodLinkNest RX2 35 yX3_setCell "Cascadecourt") (by decide +kernel)) q_2 (by decide +kernel) ⟨Nat.le_of_ble_eq_true rfl, Nat.le_of_ble_eq_true rfl⟩, q_3, trivial⟩ ⟨fun a U g mk q => by obtain ⟨q0, q1, qP, qE, qD⟩ := q; exact ⟨q0, q1, qP, cE.same (s := U) rfl qE, qD⟩, fun U hU hW => ⟨rfl, by rw [hU], by rw [hU]; exact hPc, hE.warm hW, hDc.weaken (fun _ _ _ _ => trivial)⟩⟩ rfl rfl hl.1 rfl (lv_room (Nat.le_of_ble_eq_true rfl)) dX2_lookFrom_46 ⟨Nat.zero_le _, Nat.zero_le _⟩) hS (fun q _ h => hFc q h) hFc (fun u t H1 locs ht hvm h_46 hB hz1 hk1 hS => ?_)
    obtain ⟨hP1, -, hD1⟩ := hB
    rw [ht] at hP1
    obtain ⟨hP, hD⟩ := va_join (wr := [(y, .inr (2, [.ref b1, .ref b2, .ref b3, .int p0])), (b1, .inl (cI, 512, .inl (S_X3_setCell 512 (S_J7_fill_53178 512 η.1 (-1)) p0 0))), (b2, .inl (cI, 512, .inl (S_X3_setCell 512 η.2.1 p0 (-1))))]) (w1 := [(b3, .inl (cI, 512, .inl (S_X3_setCell 512 η.2.2.1 0 p0)))]) hP hD [3] [0, 1, 2] rfl rfl (by decide) (by decide) hk1 hFc hP1 hD1
    have hP := hP.sub (ws' := [(y, .inr (2, [.ref b1, .ref b2, .ref b3, .int p0])), (b1, .inl (cI, 512, .inl (S_X3_setCell 512 (S_J7_fill_53178 512 η.1 (-1)) p0 0))), (b2, .inl (cI, 512, .inl (S_X3_setCell 512 η.2.1 p0 (-1)))), (b3, .inl (cI, 512, .inl (S_X3_setCell 512 η.2.2.1 0 p0)))]) [0, 1, 2, 3] rfl
    have hD := hD.sub (ws' := [(y, .inr (2, [.ref b1, .ref b2, .ref b3, .int p0])), (b1, .inl (cI, 512, .inl (S_X3_setCell 512 (S_J7_fill_53178 512 η.1 (-1)) p0 0))), (b2, .inl (cI, 512, .inl (S_X3_setCell 512 η.2.1 p0 (-1)))), (b3, .inl (cI, 512, .inl (S_X3_setCell 512 η.2.2.1 0 p0)))]) [0, 1, 2, 3] (by decide) rfl
    clear hPc hDc hP1 hD1 hk1 hFc hz1 ht hvm
    generalize H1 = H at hP hS ⊢
    refine lv_iconst (v := 1) hx hb dX2_lookFrom_49 (by decide) ?_
    refine lv_istore_n (lv' := [(2, .int 1), (0, .ref y), (1, .int p0)]) hx hb dX2_lookFrom_50 rfl hl (by decide) rfl (fun ls hl => ?_)
    refine lv_iconst (v := 0) hx hb dX2_lookFrom_51 (by decide) ?_
    refine lv_istore_n (lv' := [(3, .int 0), (2, .int 1), (0, .ref y), (1, .int p0)]) hx hb dX2_lookFrom_52 rfl hl (by decide) rfl (fun ls hl => ?_)
    have loop53 : ∀ (mm k : Nat) (v2_53 : Int32) (g0_0_53 : Nat → Int32) (g0_1_53 : Nat → Int32) (g0_2_53 : Nat → Int32) (g0_3_53 : Int32) (H : Heap) (locs : List Loc) (ls : Array Slot), k + mm = 512 → G_X2_lookFrom_53 η p0 mm k v2_53 g0_0_53 g0_1_53 g0_2_53 g0_3_53 = S_X2_lookFrom η p0 → lv_has ls 4 [(3, .int (nI k)), (2, .int v2_53), (0, .ref y), (1, .int p0)] → va_P (dC, dI) vwCl [(y, .inr (2, [.ref b1, .ref b2, .ref b3, .int g0_3_53])), (b1, .inl (cI, 512, .inl g0_0_53)), (b2, .inl (cI, 512, .inl g0_1_53)), (b3, .inl (cI, 512, .inl g0_2_53))] H → va_D A [(y, .inr (2, [.ref b1, .ref b2, .ref b3, .int g0_3_53])), (b1, .inl (cI, 512, .inl g0_0_53)), (b2, .inl (cI, 512, .inl g0_1_53)), (b3, .inl (cI, 512, .inl g0_2_53))] → va_S A s.heap H locs → W p l e (headSpec wsX2_lookFrom ({ frames := 2, cells := 0, slots := 0, locals := 48 })).room s m (([.ref y, .int p0] : List Value).toArray) below meth c H locs 0 0 (MQ below (va_Qv (fun _ : Unit => True) (fun (_ : Unit) t => va_P (dC, dI) vwCl (wY cI y b1 b2 b3 (S_X2_lookFrom η p0)) t.heap ∧ cE (dC, dI) cI cR t ∧ va_D A (wY cI y b1 b2 b3 (S_X2_lookFrom η p0))) A) (([.ref y, .int p0] : List Value).toArray) s 0 0 A) (F0 m 53 ls []) := by
      intro mm
      induction mm with
      | zero =>
        intro k v2_53 g0_0_53 g0_1_53 g0_2_53 g0_3_53 H locs ls hk53 hG53 hl hP hD hS
        refine lv_iload_n hx hb dX2_lookFrom_53 rfl (lv_at hl 0 rfl) ?_
        refine lv_iload_n hx hb dX2_lookFrom_54 rfl (lv_at hl 1 rfl) ?_
        refine lv_icmp_ge (tgt := 85) hx hb dX2_lookFrom_55 (by decide) (fun c_55 => ?_) (fun c_55 => ?_)
        · have e9 : S_X2_lookFrom η p0 = (g0_0_53, g0_1_53, g0_2_53, g0_3_53) := by rw [← hG53]; simp only [G_X2_lookFrom_53, if_pos c_55]
          exact W.vret hx hb hr (fun t ht hW => ⟨⟨(), rfl, trivial, by rw [ht, e9]; exact hP, hE.warm hW, by rw [e9]; exact hD⟩, hS.F ht⟩) hS.2.2 dX2_lookFrom_85
        · refine lv_iload_n hx hb dX2_lookFrom_58 rfl (lv_at hl 0 rfl) ?_
          refine lv_sipush (v := 512) hx hb dX2_lookFrom_59 (by decide) ?_
          refine lv_icmp_ge (tgt := 85) hx hb dX2_lookFrom_62 (by decide) (fun c_62 => ?_) (fun c_62 => ?_)
          · have e9 : S_X2_lookFrom η p0 = (g0_0_53, g0_1_53, g0_2_53, g0_3_53) := by rw [← hG53]; simp only [G_X2_lookFrom_53, if_neg c_55]
            exact W.vret hx hb hr (fun t ht hW => ⟨⟨(), rfl, trivial, by rw [ht, e9]; exact hP, hE.warm hW, by rw [e9]; exact hD⟩, hS.F ht⟩) hS.2.2 dX2_lookFrom_85
          · exact absurd (p_512 (by omega) (by omega)) c_62
      | succ mm ih53 =>
        intro k v2_53 g0_0_53 g0_1_53 g0_2_53 g0_3_53 H locs ls hk53 hG53 hl hP hD hS
        refine lv_iload_n hx hb dX2_lookFrom_53 rfl (lv_at hl 0 rfl) ?_
        refine lv_iload_n hx hb dX2_lookFrom_54 rfl (lv_at hl 1 rfl) ?_
        refine lv_icmp_ge (tgt := 85) hx hb dX2_lookFrom_55 (by decide) (fun c_55 => ?_) (fun c_55 => ?_)
        · have e9 : S_X2_lookFrom η p0 = (g0_0_53, g0_1_53, g0_2_53, g0_3_53) := by rw [← hG53]; simp only [G_X2_lookFrom_53, if_pos c_55]
          exact W.vret hx hb hr (fun t ht hW => ⟨⟨(), rfl, trivial, by rw [ht, e9]; exact hP, hE.warm hW, by rw [e9]; exact hD⟩, hS.F ht⟩) hS.2.2 dX2_lookFrom_85
        · refine lv_iload_n hx hb dX2_lookFrom_58 rfl (lv_at hl 0 rfl) ?_
          refine lv_sipush (v := 512) hx hb dX2_lookFrom_59 (by decide) ?_
          refine lv_icmp_ge (tgt := 85) hx hb dX2_lookFrom_62 (by decide) (fun c_62 => ?_) (fun c_62 => ?_)
          · exact absurd c_62 (p_512n (by omega))
          · refine lv_aload_n hx hb dX2_lookFrom_65 rfl (lv_at hl 2 rfl) ?_
            refine lv_aload_n hx hb dX2_lookFrom_66 rfl (lv_at hl 2 rfl) ?_
            refine va_get (D := (dC, dI)) (ci := 2) (v := .ref b3) (C := RX2) (T := TX2) (N := 4) hx hb hts in_X2 hown hK hP 0 rfl rfl 2 (by decide) q_5 (fun _ h9 => h9) rfl dX2_lookFrom_67 ?_
            refine lv_iload_n hx hb dX2_lookFrom_70 rfl (lv_at hl 0 rfl) ?_
            refine vp_callSi (va_Run.run (va_runSN (As := [.ref b3, .int (nI k)]) (rest := [.ref y]) ⟨hx, hb, hml, hown, hts⟩ (c_X3_cell l dC dI cI cR b3 512 g0_2_53 (by decide) (nI k)) ⟨va_cnB 2 hts gX2_lookFrom_X3_cell_n25 rfl rfl rfl (hE.2 (.methodLinkNest RX2 25 yX3_cell "Cascadecourt") (by decide +kernel)) q_2 (by decide +kernel) ⟨Nat.le_of_ble_eq_true rfl, Nat.le_of_ble_eq_true rfl⟩, q_6, trivial⟩ ⟨fun a U g mk q => by obtain ⟨q0, qP, qE⟩ := q; exact ⟨q0, qP, cE.same (s := U) rfl qE⟩, fun U hU hW => ⟨rfl, by rw [hU]; exact hP.sub (ws' := [(b3, .inl (cI, 512, .inl g0_2_53))]) [3] rfl, hE.warm hW⟩⟩ rfl rfl hl.1 rfl (lv_room (Nat.le_of_ble_eq_true rfl)) dX2_lookFrom_71 ⟨Nat.zero_le _, Nat.zero_le _⟩)) (fun r_71 h_71 => ?_)
            subst h_71
            refine lv_iload_n hx hb dX2_lookFrom_74 rfl (lv_at hl 1 rfl) ?_
            have hPc := hP.sub (ws' := (wY cI y b1 b2 b3 (g0_0_53, g0_1_53, g0_2_53, g0_3_53))) [0, 1, 2, 3] rfl
            have hDc := hD.sub (ws' := (wY cI y b1 b2 b3 (g0_0_53, g0_1_53, g0_2_53, g0_3_53))) [0, 1, 2, 3] (by decide) rfl
            have hFc := va_free (wc := (wY cI y b1 b2 b3 (g0_0_53, g0_1_53, g0_2_53, g0_3_53))) hD hS hA [0, 1, 2, 3] rfl
            refine va_calli (va_runV (As := [.int (S_X3_cell 512 g0_2_53 (nI k)), .int v2_53]) (rest := []) ⟨hx, hb, hml, hown, hts⟩ (c_X2_lookOnFrom l dC dI cI cR _ y b1 b2 b3 (g0_0_53, g0_1_53, g0_2_53, g0_3_53) (S_X3_cell 512 g0_2_53 (nI k)) v2_53) (cwV 2 hts gX2_lookFrom_X2_lookOnFrom rfl rfl rfl (by decide +kernel) ⟨Nat.le_of_ble_eq_true rfl, Nat.le_of_ble_eq_true rfl⟩) ⟨fun a U g mk q => by obtain ⟨q0, q1, qP, qE, qD⟩ := q; exact ⟨q0, q1, qP, cE.same (s := U) rfl qE, qD⟩, va_recv hK hP (ci := 2) (q0 := 0) rfl rfl, fun U hU hW => ⟨rfl, by rw [hU], by rw [hU]; exact hPc, hE.warm hW, hDc.weaken (fun _ _ _ _ => trivial)⟩⟩ rfl rfl hl.1 rfl (lv_room (Nat.le_of_ble_eq_true rfl)) dX2_lookFrom_75 ⟨Nat.zero_le _, Nat.zero_le _⟩) hS (fun q _ h => hFc q h) hFc (fun r_75 u t H1 locs ht hvm h_75 hB hz1 hk1 hS => ?_)
            obtain ⟨hP1, -, hD1⟩ := hB
            rw [ht] at hP1
            obtain ⟨hP, hD⟩ := va_join (wr := []) (w1 := (wY cI y b1 b2 b3 ((S_X2_lookOnFrom (g0_0_53, g0_1_53, g0_2_53, g0_3_53) (S_X3_cell 512 g0_2_53 (nI k)) v2_53).2))) hP hD [0, 1, 2, 3] [] rfl rfl (by decide) (by decide) hk1 hFc hP1 hD1
            have hP := hP.sub (ws' := [(y, .inr (2, [.ref b1, .ref b2, .ref b3, .int (((S_X2_lookOnFrom (g0_0_53, g0_1_53, g0_2_53, g0_3_53) (S_X3_cell 512 g0_2_53 (nI k)) v2_53).2).2.2.2)])), (b1, .inl (cI, 512, .inl (((S_X2_lookOnFrom (g0_0_53, g0_1_53, g0_2_53, g0_3_53) (S_X3_cell 512 g0_2_53 (nI k)) v2_53).2).1))), (b2, .inl (cI, 512, .inl (((S_X2_lookOnFrom (g0_0_53, g0_1_53, g0_2_53, g0_3_53) (S_X3_cell 512 g0_2_53 (nI k)) v2_53).2).2.1))), (b3, .inl (cI, 512, .inl (((S_X2_lookOnFrom (g0_0_53, g0_1_53, g0_2_53, g0_3_53) (S_X3_cell 512 g0_2_53 (nI k)) v2_53).2).2.2.1)))]) [0, 1, 2, 3] rfl
            have hD := hD.sub (ws' := [(y, .inr (2, [.ref b1, .ref b2, .ref b3, .int (((S_X2_lookOnFrom (g0_0_53, g0_1_53, g0_2_53, g0_3_53) (S_X3_cell 512 g0_2_53 (nI k)) v2_53).2).2.2.2)])), (b1, .inl (cI, 512, .inl (((S_X2_lookOnFrom (g0_0_53, g0_1_53, g0_2_53, g0_3_53) (S_X3_cell 512 g0_2_53 (nI k)) v2_53).2).1))), (b2, .inl (cI, 512, .inl (((S_X2_lookOnFrom (g0_0_53, g0_1_53, g0_2_53, g0_3_53) (S_X3_cell 512 g0_2_53 (nI k)) v2_53).2).2.1))), (b3, .inl (cI, 512, .inl (((S_X2_lookOnFrom (g0_0_53, g0_1_53, g0_2_53, g0_3_53) (S_X3_cell 512 g0_2_53 (nI k)) v2_53).2).2.2.1)))]) [0, 1, 2, 3] (by decide) rfl
            subst h_75
            clear hPc hDc hP1 hD1 hk1 hFc hz1 ht hvm
            generalize H1 = H at hP hS ⊢
            refine lv_istore_n (lv' := [(2, .int ((S_X2_lookOnFrom (g0_0_53, g0_1_53, g0_2_53, g0_3_53) (S_X3_cell 512 g0_2_53 (nI k)) v2_53).1)), (3, .int (nI k)), (0, .ref y), (1, .int p0)]) hx hb dX2_lookFrom_78 rfl hl (by decide) rfl (fun ls hl => ?_)
            refine lv_iinc (v := nI (k + 1)) (lv' := [(3, .int (nI (k + 1))), (2, .int ((S_X2_lookOnFrom (g0_0_53, g0_1_53, g0_2_53, g0_3_53) (S_X3_cell 512 g0_2_53 (nI k)) v2_53).1)), (0, .ref y), (1, .int p0)]) hx hb dX2_lookFrom_79 hl (k := 1) rfl ((nI_succ _).symm) (by decide) rfl (fun ls hl => ?_)
            refine lv_goto (tgt := 53) hx hb dX2_lookFrom_82 (by decide) ?_
            exact ih53 (k + 1) ((S_X2_lookOnFrom (g0_0_53, g0_1_53, g0_2_53, g0_3_53) (S_X3_cell 512 g0_2_53 (nI k)) v2_53).1) (((S_X2_lookOnFrom (g0_0_53, g0_1_53, g0_2_53, g0_3_53) (S_X3_cell 512 g0_2_53 (nI k)) v2_53).2).1) (((S_X2_lookOnFrom (g0_0_53, g0_1_53, g0_2_53, g0_3_53) (S_X3_cell 512 g0_2_53 (nI k)) v2_53).2).2.1) (((S_X2_lookOnFrom (g0_0_53, g0_1_53, g0_2_53, g0_3_53) (S_X3_cell 512 g0_2_53 (nI k)) v2_53).2).2.2.1) (((S_X2_lookOnFrom (g0_0_53, g0_1_53, g0_2_53, g0_3_53) (S_X3_cell 512 g0_2_53 (nI k)) v2_53).2).2.2.2) _ _ ls (by omega) (by rw [← hG53]; simp only [G_X2_lookFrom_53, if_neg c_55]) (lv_sub hl [0, 1, 2, 3] rfl) hP hD hS
    exact loop53 512 0 1 (S_X3_setCell 512 (S_J7_fill_53178 512 η.1 (-1)) p0 0) (S_X3_setCell 512 η.2.1 p0 (-1)) (S_X3_setCell 512 η.2.2.1 0 p0) p0 _ _ ls (by omega) (by simp only [S_X2_lookFrom, if_neg c_5]) (lv_sub hl [0, 1, 2, 3] rfl) hP hD hS
  · have e9 : S_X2_lookFrom η p0 = η := by simp only [S_X2_lookFrom, if_pos c_5]
    exact W.vret hx hb hr (fun t ht hW => ⟨⟨(), rfl, trivial, by rw [ht, e9]; exact hP, hE.warm hW, by rw [e9]; exact hD⟩, hS.F ht⟩) hS.2.2 dX2_lookFrom_8
