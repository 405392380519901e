/-! LAID BY MY PROGRAM wip/gen/p26.py: contracts, method by method -/
def G_L_isShared_20 (ξ : XS) (σ : JS) (η : YS) (rows : List RD) (i : Nat) : Nat → Nat → Int32 → Int32
  | 0, k, v4_20 => (if v4_20 = ((S_X3_ofRow ξ σ η rows 0 i) * (S_X3_ofRow ξ σ η rows 2 i)) then (if v4_20 < (S_X3_ofRow ξ σ η rows 9 i) then 0 else (if (if (S_X3_ofRow ξ σ η rows 2 i) < 0 then 0 else (S_X3_ofRow ξ σ η rows 2 i)) < (S_X3_ofRow ξ σ η rows 5 i) then 0 else (if ((S_X3_ofRow ξ σ η rows 0 i) - (S_X3_ofRow ξ σ η rows 0 i) / (S_X3_ofRow ξ σ η rows 8 i) * (S_X3_ofRow ξ σ η rows 8 i)) = 0 then 1 else 0))) else 0)
  | mm + 1, k, v4_20 => (if (S_J6_bitCount_0f7a4 (S_X3_ofSite ξ σ η rows (nI k) 2 i)) = (S_X3_ofRow ξ σ η rows 2 i) then (if (S_X3_ofRow ξ σ η rows 2 i) < (S_X3_ofSite ξ σ η rows (nI k) 4 i) then 0 else (if (S_X3_ofSite ξ σ η rows (nI k) 3 i) = ((S_X3_ofRow ξ σ η rows 0 i) * (S_X3_ofSite ξ σ η rows (nI k) 4 i)) then G_L_isShared_20 ξ σ η rows i mm (k + 1) (v4_20 + (S_X3_ofSite ξ σ η rows (nI k) 0 i)) else 0)) else 0)
def S_L_isShared (ξ : XS) (σ : JS) (η : YS) (rows : List RD) (i : Nat) : Int32 := G_L_isShared_20 ξ σ η rows i ((S_X3_ofRow ξ σ η rows 0 i).toNatClampNeg) 0 0
set_option maxHeartbeats 4000000 in
set_option maxRecDepth 100000 in
theorem c_L_isShared (l : Launch) (dC : Nat → ClassId) (dI : Nat → Nat → Nat) (cI cR : ClassId) (x rw j a1 a2 a3 y b1 b2 b3 : Nat) (ξ : XS) (σ : JS) (η : YS) (rows : List RD) (hCI : p_CI ξ rows) (i : Nat) (hi : i < rows.length) (hS : ∀ k, k < (S_X3_ofRow ξ σ η rows 0 i).toNatClampNeg → S_X1_hasSite (rw_ rows i).2 (nI k) = 1) (hd : ¬ S_X3_ofRow ξ σ η rows 8 i = 0) : Met l yL_isShared wsL_isShared ({ frames := 7, cells := 0, slots := 0, locals := 152 }) (va_Pc [.ref x, .int (nI i)] (fun U => va_P (dC, dI) vwCl (wC cI cR x rw j a1 a2 a3 y b1 b2 b3 ξ σ η rows) U.heap ∧ cE (dC, dI) cI cR U)) (vp_Si (fun r => r = S_L_isShared ξ σ η rows i ∧ (r = 0 ∨ r = 1))) 0 0 (fun _ => False) := by
  refine Met.ofW (cc := cL_isShared) (maxL := 6) (ret := (some .boolean)) (by decide) rfl ?_
  intro p e s m args below meth c s₁ B hml hv
  obtain ⟨rfl, hP, hE⟩ := hv
  have hK := hE.1
  have hx := B.exec
  have hb := B.bytes
  have hr := B.returns
  have hts := atoms_spec (ws := wsL_isShared) B.pre
  have hown : s.vm.findClass RL = some m.cls := findClass_of_methodNamed B.named
  have hlocks := B.notSynchronized
  have hP : va_P (dC, dI) vwCl ([(x, .inr (3, [.ref rw, .ref j, .ref y, .int ξ.2])), (rw, .inl (cR, 8, .inr (.inr (.inr (.inr ξ.1))))), (j, .inr (0, [.ref a1, .ref a2, .ref a3, .int σ.2.2.2.1, .int σ.2.2.2.2.1, .int σ.2.2.2.2.2.1, .int σ.2.2.2.2.2.2.1, .double σ.2.2.2.2.2.2.2])), (a1, .inl (cI, 6, .inl σ.1)), (a2, .inl (cI, 6, .inl σ.2.1)), (a3, .inl (cI, 6, .inl σ.2.2.1)), (y, .inr (2, [.ref b1, .ref b2, .ref b3, .int η.2.2.2])), (b1, .inl (cI, 512, .inl η.1)), (b2, .inl (cI, 512, .inl η.2.1)), (b3, .inl (cI, 512, .inl η.2.2.1))] ++ wRs cI rows) s.heap := hP
  have hl := lv_entry ([.ref x, .int (nI i)]) (n := 6) (Nat.le_of_ble_eq_true rfl)
  rw [lg_entry_eq]
  generalize (lg_sl ([.ref x, .int (nI i)]) ++ List.replicate (6 - (lg_sl ([.ref x, .int (nI i)])).length) Slot.unset).toArray = ls at hl ⊢
  have hl : lv_has ls 6 [(0, .ref x), (1, .int (nI i))] := hl
  have q_0 := hts (.methodLink RL 95 Lib.Math.max.name) (by decide +kernel)
  have q_1 := hts (.static Lib.Math.max.name) (by decide +kernel)
  have q_2 := hts (.initialized "java/lang/Math") (by decide +kernel)
  have q_3 := hts (.code Lib.Math.max.name Lib.Math.max.code 2 (some .int)) (by decide +kernel)
  refine lv_aload_n hx hb dL_isShared_0 rfl (lv_at hl 0 rfl) ?_
  refine lv_iload_n hx hb dL_isShared_1 rfl (lv_at hl 1 rfl) ?_
  refine lv_iconst (v := 0) hx hb dL_isShared_2 (by decide) ?_
  refine vp_callSi (va_Run.run (va_runV (As := [.int (nI i), .int 0]) (rest := []) ⟨hx, hb, hml, hown, hts⟩ (c_X3_ofRow l dC dI cI cR x rw j a1 a2 a3 y b1 b2 b3 ξ σ η rows hCI 0 i hi (by decide)) (cwV 2 hts gL_isShared_X3_ofRow rfl rfl rfl (by decide +kernel) ⟨Nat.le_of_ble_eq_true rfl, Nat.le_of_ble_eq_true rfl⟩) ⟨fun a U g mk q => by obtain ⟨q0, qP, qE⟩ := q; exact ⟨q0, qP, cE.same (s := U) rfl qE⟩, va_recv hK hP (ci := 3) (q0 := 0) rfl rfl, fun U hU hW => ⟨rfl, by rw [hU]; exact hP, hE.warm hW⟩⟩ rfl rfl hl.1 rfl (lv_room (Nat.le_of_ble_eq_true rfl)) dL_isShared_3 ⟨Nat.zero_le _, Nat.zero_le _⟩)) (fun r_3 h_3 => ?_)
  subst h_3
  refine lv_istore_n (lv' := [(2, .int (S_X3_ofRow ξ σ η rows 0 i)), (0, .ref x), (1, .int (nI i))]) hx hb dL_isShared_6 rfl hl (by decide) rfl (fun ls hl => ?_)
  refine lv_aload_n hx hb dL_isShared_7 rfl (lv_at hl 1 rfl) ?_
  refine lv_iload_n hx hb dL_isShared_8 rfl (lv_at hl 2 rfl) ?_
  refine lv_iconst (v := 2) hx hb dL_isShared_9 (by decide) ?_
  refine vp_callSi (va_Run.run (va_runV (As := [.int (nI i), .int 2]) (rest := []) ⟨hx, hb, hml, hown, hts⟩ (c_X3_ofRow l dC dI cI cR x rw j a1 a2 a3 y b1 b2 b3 ξ σ η rows hCI 2 i hi (by decide)) (cwV 2 hts gL_isShared_X3_ofRow rfl rfl rfl (by decide +kernel) ⟨Nat.le_of_ble_eq_true rfl, Nat.le_of_ble_eq_true rfl⟩) ⟨fun a U g mk q => by obtain ⟨q0, qP, qE⟩ := q; exact ⟨q0, qP, cE.same (s := U) rfl qE⟩, va_recv hK hP (ci := 3) (q0 := 0) rfl rfl, fun U hU hW => ⟨rfl, by rw [hU]; exact hP, hE.warm hW⟩⟩ rfl rfl hl.1 rfl (lv_room (Nat.le_of_ble_eq_true rfl)) dL_isShared_10 ⟨Nat.zero_le _, Nat.zero_le _⟩)) (fun r_10 h_10 => ?_)
  subst h_10
  refine lv_istore_n (lv' := [(3, .int (S_X3_ofRow ξ σ η rows 2 i)), (2, .int (S_X3_ofRow ξ σ η rows 0 i)), (0, .ref x), (1, .int (nI i))]) hx hb dL_isShared_13 rfl hl (by decide) rfl (fun ls hl => ?_)
  refine lv_iconst (v := 0) hx hb dL_isShared_14 (by decide) ?_
  refine lv_istore (lv' := [(4, .int 0), (3, .int (S_X3_ofRow ξ σ η rows 2 i)), (2, .int (S_X3_ofRow ξ σ η rows 0 i)), (0, .ref x), (1, .int (nI i))]) hx hb dL_isShared_15 hl (by decide) rfl (fun ls hl => ?_)
  refine lv_iconst (v := 0) hx hb dL_isShared_17 (by decide) ?_
  refine lv_istore (lv' := [(5, .int 0), (4, .int 0), (3, .int (S_X3_ofRow ξ σ η rows 2 i)), (2, .int (S_X3_ofRow ξ σ η rows 0 i)), (0, .ref x), (1, .int (nI i))]) hx hb dL_isShared_18 hl (by decide) rfl (fun ls hl => ?_)
  have hn20 := p_clt (S_X3_ofRow ξ σ η rows 0 i)
  have loop20 : ∀ (mm k : Nat) (v4_20 : Int32) (ls : Array Slot), k + mm = (S_X3_ofRow ξ σ η rows 0 i).toNatClampNeg → G_L_isShared_20 ξ σ η rows i mm k v4_20 = S_L_isShared ξ σ η rows i → lv_has ls 6 [(5, .int (nI k)), (4, .int v4_20), (3, .int (S_X3_ofRow ξ σ η rows 2 i)), (2, .int (S_X3_ofRow ξ σ η rows 0 i)), (0, .ref x), (1, .int (nI i))] → W p l e (headSpec wsL_isShared ({ frames := 7, cells := 0, slots := 0, locals := 152 })).room s m (([.ref x, .int (nI i)] : List Value).toArray) below meth c s.heap [] 0 0 (MQ below (vp_Si (fun r => r = S_L_isShared ξ σ η rows i ∧ (r = 0 ∨ r = 1))) (([.ref x, .int (nI i)] : List Value).toArray) s 0 0 (fun _ => False)) (F0 m 20 ls []) := by
    intro mm
    induction mm with
    | zero =>
      intro k v4_20 ls hk20 hG20 hl
      refine lv_iload hx hb dL_isShared_20 (lv_at hl 0 rfl) ?_
      refine lv_iload_n hx hb dL_isShared_22 rfl (lv_at hl 3 rfl) ?_
      refine lv_icmp_ge (tgt := 95) hx hb dL_isShared_23 (by decide) (fun c_23 => ?_) (fun c_23 => ?_)
      · refine lv_iload hx hb dL_isShared_95 (lv_at hl 1 rfl) ?_
        refine lv_iload_n hx hb dL_isShared_97 rfl (lv_at hl 3 rfl) ?_
        refine lv_iload_n hx hb dL_isShared_98 rfl (lv_at hl 2 rfl) ?_
        refine lv_imul hx hb dL_isShared_99 ?_
        refine lv_icmp_ne (tgt := 145) hx hb dL_isShared_100 (by decide) (fun c_100 => ?_) (fun c_100 => ?_)
        · refine lv_iconst (v := 0) hx hb dL_isShared_145 (by decide) ?_
          exact W.zret (v := 0) (ty := .boolean) hx hb hr (p_nar (Or.inl rfl)) (fun t ht hW => ⟨0, rfl, ⟨by rw [← hG20]; simp only [G_L_isShared_20, if_neg c_100], (Or.inl rfl)⟩, ht⟩) (fun q h => by cases h) dL_isShared_146
        · refine lv_aload_n hx hb dL_isShared_103 rfl (lv_at hl 4 rfl) ?_
          refine lv_iload_n hx hb dL_isShared_104 rfl (lv_at hl 5 rfl) ?_
          refine lv_bipush (v := 9) hx hb dL_isShared_105 (by decide) ?_
          refine vp_callSi (va_Run.run (va_runV (As := [.int (nI i), .int 9]) (rest := []) ⟨hx, hb, hml, hown, hts⟩ (c_X3_ofRow l dC dI cI cR x rw j a1 a2 a3 y b1 b2 b3 ξ σ η rows hCI 9 i hi (by decide)) (cwV 2 hts gL_isShared_X3_ofRow rfl rfl rfl (by decide +kernel) ⟨Nat.le_of_ble_eq_true rfl, Nat.le_of_ble_eq_true rfl⟩) ⟨fun a U g mk q => by obtain ⟨q0, qP, qE⟩ := q; exact ⟨q0, qP, cE.same (s := U) rfl qE⟩, va_recv hK hP (ci := 3) (q0 := 0) rfl rfl, fun U hU hW => ⟨rfl, by rw [hU]; exact hP, hE.warm hW⟩⟩ rfl rfl hl.1 rfl (lv_room (Nat.le_of_ble_eq_true rfl)) dL_isShared_107 ⟨Nat.zero_le _, Nat.zero_le _⟩)) (fun r_107 h_107 => ?_)
          subst h_107
          refine lv_iload hx hb dL_isShared_110 (lv_at hl 1 rfl) ?_
          refine lv_icmp_gt (tgt := 145) hx hb dL_isShared_112 (by decide) (fun c_112 => ?_) (fun c_112 => ?_)
          · refine lv_iconst (v := 0) hx hb dL_isShared_145 (by decide) ?_
            exact W.zret (v := 0) (ty := .boolean) hx hb hr (p_nar (Or.inl rfl)) (fun t ht hW => ⟨0, rfl, ⟨by rw [← hG20]; simp only [G_L_isShared_20, if_pos c_100, if_pos c_112], (Or.inl rfl)⟩, ht⟩) (fun q h => by cases h) dL_isShared_146
          · refine lv_aload_n hx hb dL_isShared_115 rfl (lv_at hl 4 rfl) ?_
            refine lv_iload_n hx hb dL_isShared_116 rfl (lv_at hl 5 rfl) ?_
            refine lv_iconst (v := 5) hx hb dL_isShared_117 (by decide) ?_
            refine vp_callSi (va_Run.run (va_runV (As := [.int (nI i), .int 5]) (rest := []) ⟨hx, hb, hml, hown, hts⟩ (c_X3_ofRow l dC dI cI cR x rw j a1 a2 a3 y b1 b2 b3 ξ σ η rows hCI 5 i hi (by decide)) (cwV 2 hts gL_isShared_X3_ofRow rfl rfl rfl (by decide +kernel) ⟨Nat.le_of_ble_eq_true rfl, Nat.le_of_ble_eq_true rfl⟩) ⟨fun a U g mk q => by obtain ⟨q0, qP, qE⟩ := q; exact ⟨q0, qP, cE.same (s := U) rfl qE⟩, va_recv hK hP (ci := 3) (q0 := 0) rfl rfl, fun U hU hW => ⟨rfl, by rw [hU]; exact hP, hE.warm hW⟩⟩ rfl rfl hl.1 rfl (lv_room (Nat.le_of_ble_eq_true rfl)) dL_isShared_118 ⟨Nat.zero_le _, Nat.zero_le _⟩)) (fun r_118 h_118 => ?_)
            subst h_118
            refine lv_iload_n hx hb dL_isShared_121 rfl (lv_at hl 2 rfl) ?_
            refine lv_iconst (v := 0) hx hb dL_isShared_122 (by decide) ?_
            refine va_mmax hx hb (hml.trans hl.1.symm) hown q_0 q_1 q_2 q_3 (Nat.le_of_ble_eq_true rfl) (Nat.le_of_ble_eq_true rfl) (Nat.zero_le _) (Nat.zero_le _) dL_isShared_123 ?_
            refine lv_icmp_gt (tgt := 145) hx hb dL_isShared_126 (by decide) (fun c_126 => ?_) (fun c_126 => ?_)
            · refine lv_iconst (v := 0) hx hb dL_isShared_145 (by decide) ?_
              exact W.zret (v := 0) (ty := .boolean) hx hb hr (p_nar (Or.inl rfl)) (fun t ht hW => ⟨0, rfl, ⟨by rw [← hG20]; simp only [G_L_isShared_20, if_pos c_100, if_neg c_112, if_pos c_126], (Or.inl rfl)⟩, ht⟩) (fun q h => by cases h) dL_isShared_146
            · refine lv_iload_n hx hb dL_isShared_129 rfl (lv_at hl 3 rfl) ?_
              refine lv_aload_n hx hb dL_isShared_130 rfl (lv_at hl 4 rfl) ?_
              refine lv_iload_n hx hb dL_isShared_131 rfl (lv_at hl 5 rfl) ?_
              refine lv_bipush (v := 8) hx hb dL_isShared_132 (by decide) ?_
              refine vp_callSi (va_Run.run (va_runV (As := [.int (nI i), .int 8]) (rest := [.int (S_X3_ofRow ξ σ η rows 0 i)]) ⟨hx, hb, hml, hown, hts⟩ (c_X3_ofRow l dC dI cI cR x rw j a1 a2 a3 y b1 b2 b3 ξ σ η rows hCI 8 i hi (by decide)) (cwV 2 hts gL_isShared_X3_ofRow rfl rfl rfl (by decide +kernel) ⟨Nat.le_of_ble_eq_true rfl, Nat.le_of_ble_eq_true rfl⟩) ⟨fun a U g mk q => by obtain ⟨q0, qP, qE⟩ := q; exact ⟨q0, qP, cE.same (s := U) rfl qE⟩, va_recv hK hP (ci := 3) (q0 := 0) rfl rfl, fun U hU hW => ⟨rfl, by rw [hU]; exact hP, hE.warm hW⟩⟩ rfl rfl hl.1 rfl (lv_room (Nat.le_of_ble_eq_true rfl)) dL_isShared_134 ⟨Nat.zero_le _, Nat.zero_le _⟩)) (fun r_134 h_134 => ?_)
              subst h_134
              refine lv_irem hx hb dL_isShared_137 hd ?_
              refine lv_if_ne (tgt := 145) hx hb dL_isShared_138 (by decide) (fun c_138 => ?_) (fun c_138 => ?_)
              · refine lv_iconst (v := 0) hx hb dL_isShared_145 (by decide) ?_
                exact W.zret (v := 0) (ty := .boolean) hx hb hr (p_nar (Or.inl rfl)) (fun t ht hW => ⟨0, rfl, ⟨by rw [← hG20]; simp only [G_L_isShared_20, if_pos c_100, if_neg c_112, if_neg c_126, if_neg c_138], (Or.inl rfl)⟩, ht⟩) (fun q h => by cases h) dL_isShared_146
              · refine lv_iconst (v := 1) hx hb dL_isShared_141 (by decide) ?_
                refine lv_goto (tgt := 146) hx hb dL_isShared_142 (by decide) ?_
                exact W.zret (v := 1) (ty := .boolean) hx hb hr (p_nar (Or.inr rfl)) (fun t ht hW => ⟨1, rfl, ⟨by rw [← hG20]; simp only [G_L_isShared_20, if_pos c_100, if_neg c_112, if_neg c_126, if_pos c_138], (Or.inr rfl)⟩, ht⟩) (fun q h => by cases h) dL_isShared_146
      · exact absurd ((p_le (by omega)).mpr (by omega)) c_23
    | succ mm ih20 =>
      intro k v4_20 ls hk20 hG20 hl
      refine lv_iload hx hb dL_isShared_20 (lv_at hl 0 rfl) ?_
      refine lv_iload_n hx hb dL_isShared_22 rfl (lv_at hl 3 rfl) ?_
      refine lv_icmp_ge (tgt := 95) hx hb dL_isShared_23 (by decide) (fun c_23 => ?_) (fun c_23 => ?_)
      · exact absurd ((p_le (by omega)).mp c_23) (by omega)
      · refine lv_iload hx hb dL_isShared_26 (lv_at hl 1 rfl) ?_
        refine lv_aload_n hx hb dL_isShared_28 rfl (lv_at hl 4 rfl) ?_
        refine lv_iload_n hx hb dL_isShared_29 rfl (lv_at hl 5 rfl) ?_
        refine lv_iload hx hb dL_isShared_30 (lv_at hl 0 rfl) ?_
        refine lv_iconst (v := 0) hx hb dL_isShared_32 (by decide) ?_
        refine vp_callSi (va_Run.run (va_runV (As := [.int (nI i), .int (nI k), .int 0]) (rest := [.int v4_20]) ⟨hx, hb, hml, hown, hts⟩ (c_X3_ofSite l dC dI cI cR x rw j a1 a2 a3 y b1 b2 b3 ξ σ η rows hCI (nI k) 0 i hi (hS k (by omega)) (by decide)) (cwV 3 hts gL_isShared_X3_ofSite rfl rfl rfl (by decide +kernel) ⟨Nat.le_of_ble_eq_true rfl, Nat.le_of_ble_eq_true rfl⟩) ⟨fun a U g mk q => by obtain ⟨q0, qP, qE⟩ := q; exact ⟨q0, qP, cE.same (s := U) rfl qE⟩, va_recv hK hP (ci := 3) (q0 := 0) rfl rfl, fun U hU hW => ⟨rfl, by rw [hU]; exact hP, hE.warm hW⟩⟩ rfl rfl hl.1 rfl (lv_room (Nat.le_of_ble_eq_true rfl)) dL_isShared_33 ⟨Nat.zero_le _, Nat.zero_le _⟩)) (fun r_33 h_33 => ?_)
        subst h_33
        refine lv_iadd hx hb dL_isShared_36 ?_
        refine lv_istore (lv' := [(4, .int (v4_20 + (S_X3_ofSite ξ σ η rows (nI k) 0 i))), (5, .int (nI k)), (3, .int (S_X3_ofRow ξ σ η rows 2 i)), (2, .int (S_X3_ofRow ξ σ η rows 0 i)), (0, .ref x), (1, .int (nI i))]) hx hb dL_isShared_37 hl (by decide) rfl (fun ls hl => ?_)
        refine lv_aload_n hx hb dL_isShared_39 rfl (lv_at hl 4 rfl) ?_
        refine lv_iload_n hx hb dL_isShared_40 rfl (lv_at hl 5 rfl) ?_
        refine lv_iload hx hb dL_isShared_41 (lv_at hl 1 rfl) ?_
        refine lv_iconst (v := 2) hx hb dL_isShared_43 (by decide) ?_
        refine vp_callSi (va_Run.run (va_runV (As := [.int (nI i), .int (nI k), .int 2]) (rest := []) ⟨hx, hb, hml, hown, hts⟩ (c_X3_ofSite l dC dI cI cR x rw j a1 a2 a3 y b1 b2 b3 ξ σ η rows hCI (nI k) 2 i hi (hS k (by omega)) (by decide)) (cwV 3 hts gL_isShared_X3_ofSite rfl rfl rfl (by decide +kernel) ⟨Nat.le_of_ble_eq_true rfl, Nat.le_of_ble_eq_true rfl⟩) ⟨fun a U g mk q => by obtain ⟨q0, qP, qE⟩ := q; exact ⟨q0, qP, cE.same (s := U) rfl qE⟩, va_recv hK hP (ci := 3) (q0 := 0) rfl rfl, fun U hU hW => ⟨rfl, by rw [hU]; exact hP, hE.warm hW⟩⟩ rfl rfl hl.1 rfl (lv_room (Nat.le_of_ble_eq_true rfl)) dL_isShared_44 ⟨Nat.zero_le _, Nat.zero_le _⟩)) (fun r_44 h_44 => ?_)
        subst h_44
        refine vp_callSi (va_Run.run (va_runS (As := [.int (S_X3_ofSite ξ σ η rows (nI k) 2 i)]) (rest := []) ⟨hx, hb, hml, hown, hts⟩ (c_J6_bitCount_0f7a4 l (S_X3_ofSite ξ σ η rows (nI k) 2 i)) (va_cwS 1 hts gL_isShared_J6_bitCount_0f7a4 rfl rfl rfl (by decide +kernel) ⟨Nat.le_of_ble_eq_true rfl, Nat.le_of_ble_eq_true rfl⟩) ⟨fun a U g mk q => q, fun U hU hW => ⟨rfl, trivial⟩⟩ rfl rfl hl.1 rfl (lv_room (Nat.le_of_ble_eq_true rfl)) dL_isShared_47 ⟨Nat.zero_le _, Nat.zero_le _⟩)) (fun r_47 h_47 => ?_)
        subst h_47
        refine lv_iload_n hx hb dL_isShared_50 rfl (lv_at hl 2 rfl) ?_
        refine lv_icmp_ne (tgt := 87) hx hb dL_isShared_51 (by decide) (fun c_51 => ?_) (fun c_51 => ?_)
        · refine lv_iconst (v := 0) hx hb dL_isShared_87 (by decide) ?_
          exact W.zret (v := 0) (ty := .boolean) hx hb hr (p_nar (Or.inl rfl)) (fun t ht hW => ⟨0, rfl, ⟨by rw [← hG20]; simp only [G_L_isShared_20, if_neg c_51], (Or.inl rfl)⟩, ht⟩) (fun q h => by cases h) dL_isShared_88
        · refine lv_aload_n hx hb dL_isShared_54 rfl (lv_at hl 4 rfl) ?_
          refine lv_iload_n hx hb dL_isShared_55 rfl (lv_at hl 5 rfl) ?_
          refine lv_iload hx hb dL_isShared_56 (lv_at hl 1 rfl) ?_
          refine lv_iconst (v := 4) hx hb dL_isShared_58 (by decide) ?_
          refine vp_callSi (va_Run.run (va_runV (As := [.int (nI i), .int (nI k), .int 4]) (rest := []) ⟨hx, hb, hml, hown, hts⟩ (c_X3_ofSite l dC dI cI cR x rw j a1 a2 a3 y b1 b2 b3 ξ σ η rows hCI (nI k) 4 i hi (hS k (by omega)) (by decide)) (cwV 3 hts gL_isShared_X3_ofSite rfl rfl rfl (by decide +kernel) ⟨Nat.le_of_ble_eq_true rfl, Nat.le_of_ble_eq_true rfl⟩) ⟨fun a U g mk q => by obtain ⟨q0, qP, qE⟩ := q; exact ⟨q0, qP, cE.same (s := U) rfl qE⟩, va_recv hK hP (ci := 3) (q0 := 0) rfl rfl, fun U hU hW => ⟨rfl, by rw [hU]; exact hP, hE.warm hW⟩⟩ rfl rfl hl.1 rfl (lv_room (Nat.le_of_ble_eq_true rfl)) dL_isShared_59 ⟨Nat.zero_le _, Nat.zero_le _⟩)) (fun r_59 h_59 => ?_)
          subst h_59
          refine lv_iload_n hx hb dL_isShared_62 rfl (lv_at hl 2 rfl) ?_
          refine lv_icmp_gt (tgt := 87) hx hb dL_isShared_63 (by decide) (fun c_63 => ?_) (fun c_63 => ?_)
          · refine lv_iconst (v := 0) hx hb dL_isShared_87 (by decide) ?_
            exact W.zret (v := 0) (ty := .boolean) hx hb hr (p_nar (Or.inl rfl)) (fun t ht hW => ⟨0, rfl, ⟨by rw [← hG20]; simp only [G_L_isShared_20, if_pos c_51, if_pos c_63], (Or.inl rfl)⟩, ht⟩) (fun q h => by cases h) dL_isShared_88
          · refine lv_aload_n hx hb dL_isShared_66 rfl (lv_at hl 4 rfl) ?_
            refine lv_iload_n hx hb dL_isShared_67 rfl (lv_at hl 5 rfl) ?_
            refine lv_iload hx hb dL_isShared_68 (lv_at hl 1 rfl) ?_
            refine lv_iconst (v := 3) hx hb dL_isShared_70 (by decide) ?_
            refine vp_callSi (va_Run.run (va_runV (As := [.int (nI i), .int (nI k), .int 3]) (rest := []) ⟨hx, hb, hml, hown, hts⟩ (c_X3_ofSite l dC dI cI cR x rw j a1 a2 a3 y b1 b2 b3 ξ σ η rows hCI (nI k) 3 i hi (hS k (by omega)) (by decide)) (cwV 3 hts gL_isShared_X3_ofSite rfl rfl rfl (by decide +kernel) ⟨Nat.le_of_ble_eq_true rfl, Nat.le_of_ble_eq_true rfl⟩) ⟨fun a U g mk q => by obtain ⟨q0, qP, qE⟩ := q; exact ⟨q0, qP, cE.same (s := U) rfl qE⟩, va_recv hK hP (ci := 3) (q0 := 0) rfl rfl, fun U hU hW => ⟨rfl, by rw [hU]; exact hP, hE.warm hW⟩⟩ rfl rfl hl.1 rfl (lv_room (Nat.le_of_ble_eq_true rfl)) dL_isShared_71 ⟨Nat.zero_le _, Nat.zero_le _⟩)) (fun r_71 h_71 => ?_)
            subst h_71
            refine lv_iload_n hx hb dL_isShared_74 rfl (lv_at hl 3 rfl) ?_
            refine lv_aload_n hx hb dL_isShared_75 rfl (lv_at hl 4 rfl) ?_
            refine lv_iload_n hx hb dL_isShared_76 rfl (lv_at hl 5 rfl) ?_
            refine lv_iload hx hb dL_isShared_77 (lv_at hl 1 rfl) ?_
            refine lv_iconst (v := 4) hx hb dL_isShared_79 (by decide) ?_
            refine vp_callSi (va_Run.run (va_runV (As := [.int (nI i), .int (nI k), .int 4]) (rest := [.int (S_X3_ofRow ξ σ η rows 0 i), .int (S_X3_ofSite ξ σ η rows (nI k) 3 i)]) ⟨hx, hb, hml, hown, hts⟩ (c_X3_ofSite l dC dI cI cR x rw j a1 a2 a3 y b1 b2 b3 ξ σ η rows hCI (nI k) 4 i hi (hS k (by omega)) (by decide)) (cwV 3 hts gL_isShared_X3_ofSite rfl rfl rfl (by decide +kernel) ⟨Nat.le_of_ble_eq_true rfl, Nat.le_of_ble_eq_true rfl⟩) ⟨fun a U g mk q => by obtain ⟨q0, qP, qE⟩ := q; exact ⟨q0, qP, cE.same (s := U) rfl qE⟩, va_recv hK hP (ci := 3) (q0 := 0) rfl rfl, fun U hU hW => ⟨rfl, by rw [hU]; exact hP, hE.warm hW⟩⟩ rfl rfl hl.1 rfl (lv_room (Nat.le_of_ble_eq_true rfl)) dL_isShared_80 ⟨Nat.zero_le _, Nat.zero_le _⟩)) (fun r_80 h_80 => ?_)
            subst h_80
            refine lv_imul hx hb dL_isShared_83 ?_
            refine lv_icmp_eq (tgt := 89) hx hb dL_isShared_84 (by decide) (fun c_84 => ?_) (fun c_84 => ?_)
            · refine lv_iinc (v := nI (k + 1)) (lv' := [(5, .int (nI (k + 1))), (4, .int (v4_20 + (S_X3_ofSite ξ σ η rows (nI k) 0 i))), (3, .int (S_X3_ofRow ξ σ η rows 2 i)), (2, .int (S_X3_ofRow ξ σ η rows 0 i)), (0, .ref x), (1, .int (nI i))]) hx hb dL_isShared_89 hl (k := 1) rfl ((nI_succ _).symm) (by decide) rfl (fun ls hl => ?_)
              refine lv_goto (tgt := 20) hx hb dL_isShared_92 (by decide) ?_
              exact ih20 (k + 1) (v4_20 + (S_X3_ofSite ξ σ η rows (nI k) 0 i)) ls (by omega) (by rw [← hG20]; simp only [G_L_isShared_20, if_pos c_51, if_neg c_63, if_pos c_84]) (lv_sub hl [0, 1, 2, 3, 4, 5] rfl)
            · refine lv_iconst (v := 0) hx hb dL_isShared_87 (by decide) ?_
              exact W.zret (v := 0) (ty := .boolean) hx hb hr (p_nar (Or.inl rfl)) (fun t ht hW => ⟨0, rfl, ⟨by rw [← hG20]; simp only [G_L_isShared_20, if_pos c_51, if_neg c_63, if_neg c_84], (Or.inl rfl)⟩, ht⟩) (fun q h => by cases h) dL_isShared_88
  exact loop20 ((S_X3_ofRow ξ σ η rows 0 i).toNatClampNeg) 0 0 ls (by omega) (by simp only [S_L_isShared]) (lv_sub hl [0, 1, 2, 3, 4, 5] rfl)
