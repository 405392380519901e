/-! LAID BY MY PROGRAM wip/gen/p26.py: contracts, method by method -/
def S_X3_soundRowsFrom_3 (p2 : Int32) (p3 : Int32) : Int32 := (if p3 = 0 then 1 else 0)
set_option maxHeartbeats 4000000 in
set_option maxRecDepth 100000 in
theorem c_X3_soundRowsFrom_3 (l : Launch)  (p2 : Int32) (p3 : Int32)  : Met l yX3_soundRowsFrom wsX3_soundRowsFrom ({ frames := 0, cells := 0, slots := 0, locals := 0 }) (va_Pc [.int 3, .int 3, .int p2, .int p3] (fun _ => True)) (vp_Si (fun r => r = S_X3_soundRowsFrom_3 p2 p3)) 0 0 (fun _ => False) := by
  refine Met.ofW (cc := cX3_soundRowsFrom) (maxL := 7) (ret := (some .int)) (by decide) rfl ?_
  intro p e s m args below meth c s₁ B hml hv
  obtain ⟨rfl, -⟩ := hv
  have hx := B.exec
  have hb := B.bytes
  have hr := B.returns
  have hts := atoms_spec (ws := wsX3_soundRowsFrom) B.pre
  have hown : s.vm.findClass RX3 = some m.cls := findClass_of_methodNamed B.named
  have hlocks := B.notSynchronized
  have hl := lv_entry ([.int 3, .int 3, .int p2, .int p3]) (n := 7) (Nat.le_of_ble_eq_true rfl)
  rw [lg_entry_eq]
  generalize (lg_sl ([.int 3, .int 3, .int p2, .int p3]) ++ List.replicate (7 - (lg_sl ([.int 3, .int 3, .int p2, .int p3])).length) Slot.unset).toArray = ls at hl ⊢
  have hl : lv_has ls 7 [(0, .int 3), (1, .int 3), (2, .int p2), (3, .int p3)] := hl
  refine lv_iload_n hx hb dX3_soundRowsFrom_0 rfl (lv_at hl 0 rfl) ?_
  refine lv_iload_n hx hb dX3_soundRowsFrom_1 rfl (lv_at hl 1 rfl) ?_
  refine lv_icmp_ge (tgt := 10) hx hb dX3_soundRowsFrom_2 (by decide) (fun c_2 => ?_) (fun c_2 => ?_)
  · refine lv_iload_n hx hb dX3_soundRowsFrom_10 rfl (lv_at hl 3 rfl) ?_
    refine lv_if_ne (tgt := 18) hx hb dX3_soundRowsFrom_11 (by decide) (fun c_11 => ?_) (fun c_11 => ?_)
    · refine lv_iconst (v := 0) hx hb dX3_soundRowsFrom_18 (by decide) ?_
      exact W.iret (v := 0) hx hb hr (fun t ht hW => ⟨0, rfl, by simp only [S_X3_soundRowsFrom_3, if_neg c_11], ht⟩) (fun q h => by cases h) dX3_soundRowsFrom_19
    · refine lv_iconst (v := 1) hx hb dX3_soundRowsFrom_14 (by decide) ?_
      refine lv_goto (tgt := 19) hx hb dX3_soundRowsFrom_15 (by decide) ?_
      exact W.iret (v := 1) hx hb hr (fun t ht hW => ⟨1, rfl, by simp only [S_X3_soundRowsFrom_3, if_pos c_11], ht⟩) (fun q h => by cases h) dX3_soundRowsFrom_19
  · exact absurd (by decide) c_2
def G_X3_soundRowsFrom_26_2 (p2 : Int32) (p3 : Int32) : Nat → Nat → Int32 → Int32
  | 0, k, v4_26 => v4_26
  | mm + 1, k, v4_26 => (if p3 < (nI k) then v4_26 else (if (p2 &&& (1 <<< (((2 + (nI k)) - (2 + (nI k)) / 3 * 3) &&& 31))) = 0 then G_X3_soundRowsFrom_26_2 p2 p3 mm (k + 1) (v4_26 + (S_X3_soundRowsFrom_3 (p2 ||| (1 <<< (((2 + (nI k)) - (2 + (nI k)) / 3 * 3) &&& 31))) (p3 - (nI k)))) else G_X3_soundRowsFrom_26_2 p2 p3 mm (k + 1) v4_26))
def S_X3_soundRowsFrom_2 (p2 : Int32) (p3 : Int32) : Int32 := G_X3_soundRowsFrom_26_2 p2 p3 10 0 0
set_option maxHeartbeats 4000000 in
set_option maxRecDepth 100000 in
theorem c_X3_soundRowsFrom_2 (l : Launch)  (p2 : Int32) (p3 : Int32)  : Met l yX3_soundRowsFrom wsX3_soundRowsFrom ({ frames := 1, cells := 0, slots := 0, locals := 26 }) (va_Pc [.int 2, .int 3, .int p2, .int p3] (fun _ => True)) (vp_Si (fun r => r = S_X3_soundRowsFrom_2 p2 p3)) 0 0 (fun _ => False) := by
  refine Met.ofW (cc := cX3_soundRowsFrom) (maxL := 7) (ret := (some .int)) (by decide) rfl ?_
  intro p e s m args below meth c s₁ B hml hv
  obtain ⟨rfl, -⟩ := hv
  have hx := B.exec
  have hb := B.bytes
  have hr := B.returns
  have hts := atoms_spec (ws := wsX3_soundRowsFrom) B.pre
  have hown : s.vm.findClass RX3 = some m.cls := findClass_of_methodNamed B.named
  have hlocks := B.notSynchronized
  have hl := lv_entry ([.int 2, .int 3, .int p2, .int p3]) (n := 7) (Nat.le_of_ble_eq_true rfl)
  rw [lg_entry_eq]
  generalize (lg_sl ([.int 2, .int 3, .int p2, .int p3]) ++ List.replicate (7 - (lg_sl ([.int 2, .int 3, .int p2, .int p3])).length) Slot.unset).toArray = ls at hl ⊢
  have hl : lv_has ls 7 [(0, .int 2), (1, .int 3), (2, .int p2), (3, .int p3)] := hl
  refine lv_iload_n hx hb dX3_soundRowsFrom_0 rfl (lv_at hl 0 rfl) ?_
  refine lv_iload_n hx hb dX3_soundRowsFrom_1 rfl (lv_at hl 1 rfl) ?_
  refine lv_icmp_ge (tgt := 10) hx hb dX3_soundRowsFrom_2 (by decide) (fun c_2 => ?_) (fun c_2 => ?_)
  · exact absurd c_2 (by decide)
  · refine lv_iload_n hx hb dX3_soundRowsFrom_5 rfl (lv_at hl 1 rfl) ?_
    refine lv_iconst (v := 1) hx hb dX3_soundRowsFrom_6 (by decide) ?_
    refine lv_icmp_ge (tgt := 20) hx hb dX3_soundRowsFrom_7 (by decide) (fun c_7 => ?_) (fun c_7 => ?_)
    · refine lv_iconst (v := 0) hx hb dX3_soundRowsFrom_20 (by decide) ?_
      refine lv_istore (lv' := [(4, .int 0), (0, .int 2), (1, .int 3), (2, .int p2), (3, .int p3)]) hx hb dX3_soundRowsFrom_21 hl (by decide) rfl (fun ls hl => ?_)
      refine lv_iconst (v := 0) hx hb dX3_soundRowsFrom_23 (by decide) ?_
      refine lv_istore (lv' := [(5, .int 0), (4, .int 0), (0, .int 2), (1, .int 3), (2, .int p2), (3, .int p3)]) hx hb dX3_soundRowsFrom_24 hl (by decide) rfl (fun ls hl => ?_)
      have loop26 : ∀ (mm k : Nat) (v4_26 : Int32) (ls : Array Slot), k + mm = 10 → G_X3_soundRowsFrom_26_2 p2 p3 mm k v4_26 = S_X3_soundRowsFrom_2 p2 p3 → lv_has ls 7 [(5, .int (nI k)), (4, .int v4_26), (0, .int 2), (1, .int 3), (2, .int p2), (3, .int p3)] → W p l e (headSpec wsX3_soundRowsFrom ({ frames := 1, cells := 0, slots := 0, locals := 26 })).room s m (([.int 2, .int 3, .int p2, .int p3] : List Value).toArray) below meth c s.heap [] 0 0 (MQ below (vp_Si (fun r => r = S_X3_soundRowsFrom_2 p2 p3)) (([.int 2, .int 3, .int p2, .int p3] : List Value).toArray) s 0 0 (fun _ => False)) (F0 m 26 ls []) := by
        intro mm
        induction mm with
        | zero =>
          intro k v4_26 ls hk26 hG26 hl
          refine lv_iload hx hb dX3_soundRowsFrom_26 (lv_at hl 0 rfl) ?_
          refine lv_bipush (v := 9) hx hb dX3_soundRowsFrom_28 (by decide) ?_
          refine lv_icmp_gt (tgt := 82) hx hb dX3_soundRowsFrom_30 (by decide) (fun c_30 => ?_) (fun c_30 => ?_)
          · refine lv_iload hx hb dX3_soundRowsFrom_82 (lv_at hl 1 rfl) ?_
            exact W.iret (v := v4_26) hx hb hr (fun t ht hW => ⟨v4_26, rfl, by rw [← hG26]; simp only [G_X3_soundRowsFrom_26_2], ht⟩) (fun q h => by cases h) dX3_soundRowsFrom_84
          · exact absurd (p_9 (by omega) (by omega)) c_30
        | succ mm ih26 =>
          intro k v4_26 ls hk26 hG26 hl
          refine lv_iload hx hb dX3_soundRowsFrom_26 (lv_at hl 0 rfl) ?_
          refine lv_bipush (v := 9) hx hb dX3_soundRowsFrom_28 (by decide) ?_
          refine lv_icmp_gt (tgt := 82) hx hb dX3_soundRowsFrom_30 (by decide) (fun c_30 => ?_) (fun c_30 => ?_)
          · exact absurd c_30 (p_9n (by omega))
          · refine lv_iload hx hb dX3_soundRowsFrom_33 (lv_at hl 0 rfl) ?_
            refine lv_iload_n hx hb dX3_soundRowsFrom_35 rfl (lv_at hl 5 rfl) ?_
            refine lv_icmp_gt (tgt := 82) hx hb dX3_soundRowsFrom_36 (by decide) (fun c_36 => ?_) (fun c_36 => ?_)
            · refine lv_iload hx hb dX3_soundRowsFrom_82 (lv_at hl 1 rfl) ?_
              exact W.iret (v := v4_26) hx hb hr (fun t ht hW => ⟨v4_26, rfl, by rw [← hG26]; simp only [G_X3_soundRowsFrom_26_2, if_pos c_36], ht⟩) (fun q h => by cases h) dX3_soundRowsFrom_84
            · refine lv_iconst (v := 1) hx hb dX3_soundRowsFrom_39 (by decide) ?_
              refine lv_iload_n hx hb dX3_soundRowsFrom_40 rfl (lv_at hl 2 rfl) ?_
              refine lv_iload hx hb dX3_soundRowsFrom_41 (lv_at hl 0 rfl) ?_
              refine lv_iadd hx hb dX3_soundRowsFrom_43 ?_
              refine lv_iload_n hx hb dX3_soundRowsFrom_44 rfl (lv_at hl 3 rfl) ?_
              refine lv_irem hx hb dX3_soundRowsFrom_45 (by decide) ?_
              refine lv_ishl hx hb dX3_soundRowsFrom_46 ?_
              refine lv_istore (lv' := [(6, .int (1 <<< (((2 + (nI k)) - (2 + (nI k)) / 3 * 3) &&& 31))), (5, .int (nI k)), (4, .int v4_26), (0, .int 2), (1, .int 3), (2, .int p2), (3, .int p3)]) hx hb dX3_soundRowsFrom_47 hl (by decide) rfl (fun ls hl => ?_)
              refine lv_iload_n hx hb dX3_soundRowsFrom_49 rfl (lv_at hl 5 rfl) ?_
              refine lv_iload hx hb dX3_soundRowsFrom_50 (lv_at hl 0 rfl) ?_
              refine lv_iand hx hb dX3_soundRowsFrom_52 ?_
              refine lv_if_ne (tgt := 76) hx hb dX3_soundRowsFrom_53 (by decide) (fun c_53 => ?_) (fun c_53 => ?_)
              · refine lv_iinc (v := nI (k + 1)) (lv' := [(5, .int (nI (k + 1))), (6, .int (1 <<< (((2 + (nI k)) - (2 + (nI k)) / 3 * 3) &&& 31))), (4, .int v4_26), (0, .int 2), (1, .int 3), (2, .int p2), (3, .int p3)]) hx hb dX3_soundRowsFrom_76 hl (k := 1) rfl ((nI_succ _).symm) (by decide) rfl (fun ls hl => ?_)
                refine lv_goto (tgt := 26) hx hb dX3_soundRowsFrom_79 (by decide) ?_
                exact ih26 (k + 1) v4_26 ls (by omega) (by rw [← hG26]; simp only [G_X3_soundRowsFrom_26_2, if_neg c_36, if_neg c_53]) (lv_sub hl [0, 2, 3, 4, 5, 6] rfl)
              · refine lv_iload hx hb dX3_soundRowsFrom_56 (lv_at hl 2 rfl) ?_
                refine lv_iload_n hx hb dX3_soundRowsFrom_58 rfl (lv_at hl 3 rfl) ?_
                refine lv_iconst (v := 1) hx hb dX3_soundRowsFrom_59 (by decide) ?_
                refine lv_iadd hx hb dX3_soundRowsFrom_60 ?_
                refine lv_iload_n hx hb dX3_soundRowsFrom_61 rfl (lv_at hl 4 rfl) ?_
                refine lv_iload_n hx hb dX3_soundRowsFrom_62 rfl (lv_at hl 5 rfl) ?_
                refine lv_iload hx hb dX3_soundRowsFrom_63 (lv_at hl 0 rfl) ?_
                refine lv_ior hx hb dX3_soundRowsFrom_65 ?_
                refine lv_iload_n hx hb dX3_soundRowsFrom_66 rfl (lv_at hl 6 rfl) ?_
                refine lv_iload hx hb dX3_soundRowsFrom_67 (lv_at hl 1 rfl) ?_
                refine lv_isub hx hb dX3_soundRowsFrom_69 ?_
                refine vp_callSi (va_Run.run (va_runS (As := [.int (2 + 1), .int 3, .int (p2 ||| (1 <<< (((2 + (nI k)) - (2 + (nI k)) / 3 * 3) &&& 31))), .int (p3 - (nI k))]) (rest := [.int v4_26]) ⟨hx, hb, hml, hown, hts⟩ (c_X3_soundRowsFrom_3 l (p2 ||| (1 <<< (((2 + (nI k)) - (2 + (nI k)) / 3 * 3) &&& 31))) (p3 - (nI k))) (va_cwS 4 hts gX3_soundRowsFrom_X3_soundRowsFrom rfl rfl rfl (by decide +kernel) ⟨Nat.le_of_ble_eq_true rfl, Nat.le_of_ble_eq_true rfl⟩) ⟨fun a U g mk q => q, fun U hU hW => ⟨rfl, trivial⟩⟩ rfl rfl hl.1 rfl (lv_room (Nat.le_of_ble_eq_true rfl)) dX3_soundRowsFrom_70 ⟨Nat.zero_le _, Nat.zero_le _⟩)) (fun r_70 h_70 => ?_)
                subst h_70
                refine lv_iadd hx hb dX3_soundRowsFrom_73 ?_
                refine lv_istore (lv' := [(4, .int (v4_26 + (S_X3_soundRowsFrom_3 (p2 ||| (1 <<< (((2 + (nI k)) - (2 + (nI k)) / 3 * 3) &&& 31))) (p3 - (nI k))))), (6, .int (1 <<< (((2 + (nI k)) - (2 + (nI k)) / 3 * 3) &&& 31))), (5, .int (nI k)), (0, .int 2), (1, .int 3), (2, .int p2), (3, .int p3)]) hx hb dX3_soundRowsFrom_74 hl (by decide) rfl (fun ls hl => ?_)
                refine lv_iinc (v := nI (k + 1)) (lv' := [(5, .int (nI (k + 1))), (4, .int (v4_26 + (S_X3_soundRowsFrom_3 (p2 ||| (1 <<< (((2 + (nI k)) - (2 + (nI k)) / 3 * 3) &&& 31))) (p3 - (nI k))))), (6, .int (1 <<< (((2 + (nI k)) - (2 + (nI k)) / 3 * 3) &&& 31))), (0, .int 2), (1, .int 3), (2, .int p2), (3, .int p3)]) hx hb dX3_soundRowsFrom_76 hl (k := 2) rfl ((nI_succ _).symm) (by decide) rfl (fun ls hl => ?_)
                refine lv_goto (tgt := 26) hx hb dX3_soundRowsFrom_79 (by decide) ?_
                exact ih26 (k + 1) (v4_26 + (S_X3_soundRowsFrom_3 (p2 ||| (1 <<< (((2 + (nI k)) - (2 + (nI k)) / 3 * 3) &&& 31))) (p3 - (nI k)))) ls (by omega) (by rw [← hG26]; simp only [G_X3_soundRowsFrom_26_2, if_neg c_36, if_pos c_53]) (lv_sub hl [0, 1, 3, 4, 5, 6] rfl)
      exact loop26 10 0 0 ls (by omega) (by simp only [S_X3_soundRowsFrom_2]) (lv_sub hl [0, 1, 2, 3, 4, 5] rfl)
    · exact absurd (by decide) c_7
def G_X3_soundRowsFrom_26_1 (p2 : Int32) (p3 : Int32) : Nat → Nat → Int32 → Int32
  | 0, k, v4_26 => v4_26
  | mm + 1, k, v4_26 => (if p3 < (nI k) then v4_26 else (if (p2 &&& (1 <<< (((1 + (nI k)) - (1 + (nI k)) / 3 * 3) &&& 31))) = 0 then G_X3_soundRowsFrom_26_1 p2 p3 mm (k + 1) (v4_26 + (S_X3_soundRowsFrom_2 (p2 ||| (1 <<< (((1 + (nI k)) - (1 + (nI k)) / 3 * 3) &&& 31))) (p3 - (nI k)))) else G_X3_soundRowsFrom_26_1 p2 p3 mm (k + 1) v4_26))
def S_X3_soundRowsFrom_1 (p2 : Int32) (p3 : Int32) : Int32 := G_X3_soundRowsFrom_26_1 p2 p3 10 0 0
set_option maxHeartbeats 4000000 in
set_option maxRecDepth 100000 in
theorem c_X3_soundRowsFrom_1 (l : Launch)  (p2 : Int32) (p3 : Int32)  : Met l yX3_soundRowsFrom wsX3_soundRowsFrom ({ frames := 2, cells := 0, slots := 0, locals := 52 }) (va_Pc [.int 1, .int 3, .int p2, .int p3] (fun _ => True)) (vp_Si (fun r => r = S_X3_soundRowsFrom_1 p2 p3)) 0 0 (fun _ => False) := by
  refine Met.ofW (cc := cX3_soundRowsFrom) (maxL := 7) (ret := (some .int)) (by decide) rfl ?_
  intro p e s m args below meth c s₁ B hml hv
  obtain ⟨rfl, -⟩ := hv
  have hx := B.exec
  have hb := B.bytes
  have hr := B.returns
  have hts := atoms_spec (ws := wsX3_soundRowsFrom) B.pre
  have hown : s.vm.findClass RX3 = some m.cls := findClass_of_methodNamed B.named
  have hlocks := B.notSynchronized
  have hl := lv_entry ([.int 1, .int 3, .int p2, .int p3]) (n := 7) (Nat.le_of_ble_eq_true rfl)
  rw [lg_entry_eq]
  generalize (lg_sl ([.int 1, .int 3, .int p2, .int p3]) ++ List.replicate (7 - (lg_sl ([.int 1, .int 3, .int p2, .int p3])).length) Slot.unset).toArray = ls at hl ⊢
  have hl : lv_has ls 7 [(0, .int 1), (1, .int 3), (2, .int p2), (3, .int p3)] := hl
  refine lv_iload_n hx hb dX3_soundRowsFrom_0 rfl (lv_at hl 0 rfl) ?_
  refine lv_iload_n hx hb dX3_soundRowsFrom_1 rfl (lv_at hl 1 rfl) ?_
  refine lv_icmp_ge (tgt := 10) hx hb dX3_soundRowsFrom_2 (by decide) (fun c_2 => ?_) (fun c_2 => ?_)
  · exact absurd c_2 (by decide)
  · refine lv_iload_n hx hb dX3_soundRowsFrom_5 rfl (lv_at hl 1 rfl) ?_
    refine lv_iconst (v := 1) hx hb dX3_soundRowsFrom_6 (by decide) ?_
    refine lv_icmp_ge (tgt := 20) hx hb dX3_soundRowsFrom_7 (by decide) (fun c_7 => ?_) (fun c_7 => ?_)
    · refine lv_iconst (v := 0) hx hb dX3_soundRowsFrom_20 (by decide) ?_
      refine lv_istore (lv' := [(4, .int 0), (0, .int 1), (1, .int 3), (2, .int p2), (3, .int p3)]) hx hb dX3_soundRowsFrom_21 hl (by decide) rfl (fun ls hl => ?_)
      refine lv_iconst (v := 0) hx hb dX3_soundRowsFrom_23 (by decide) ?_
      refine lv_istore (lv' := [(5, .int 0), (4, .int 0), (0, .int 1), (1, .int 3), (2, .int p2), (3, .int p3)]) hx hb dX3_soundRowsFrom_24 hl (by decide) rfl (fun ls hl => ?_)
      have loop26 : ∀ (mm k : Nat) (v4_26 : Int32) (ls : Array Slot), k + mm = 10 → G_X3_soundRowsFrom_26_1 p2 p3 mm k v4_26 = S_X3_soundRowsFrom_1 p2 p3 → lv_has ls 7 [(5, .int (nI k)), (4, .int v4_26), (0, .int 1), (1, .int 3), (2, .int p2), (3, .int p3)] → W p l e (headSpec wsX3_soundRowsFrom ({ frames := 2, cells := 0, slots := 0, locals := 52 })).room s m (([.int 1, .int 3, .int p2, .int p3] : List Value).toArray) below meth c s.heap [] 0 0 (MQ below (vp_Si (fun r => r = S_X3_soundRowsFrom_1 p2 p3)) (([.int 1, .int 3, .int p2, .int p3] : List Value).toArray) s 0 0 (fun _ => False)) (F0 m 26 ls []) := by
        intro mm
        induction mm with
        | zero =>
          intro k v4_26 ls hk26 hG26 hl
          refine lv_iload hx hb dX3_soundRowsFrom_26 (lv_at hl 0 rfl) ?_
          refine lv_bipush (v := 9) hx hb dX3_soundRowsFrom_28 (by decide) ?_
          refine lv_icmp_gt (tgt := 82) hx hb dX3_soundRowsFrom_30 (by decide) (fun c_30 => ?_) (fun c_30 => ?_)
          · refine lv_iload hx hb dX3_soundRowsFrom_82 (lv_at hl 1 rfl) ?_
            exact W.iret (v := v4_26) hx hb hr (fun t ht hW => ⟨v4_26, rfl, by rw [← hG26]; simp only [G_X3_soundRowsFrom_26_1], ht⟩) (fun q h => by cases h) dX3_soundRowsFrom_84
          · exact absurd (p_9 (by omega) (by omega)) c_30
        | succ mm ih26 =>
          intro k v4_26 ls hk26 hG26 hl
          refine lv_iload hx hb dX3_soundRowsFrom_26 (lv_at hl 0 rfl) ?_
          refine lv_bipush (v := 9) hx hb dX3_soundRowsFrom_28 (by decide) ?_
          refine lv_icmp_gt (tgt := 82) hx hb dX3_soundRowsFrom_30 (by decide) (fun c_30 => ?_) (fun c_30 => ?_)
          · exact absurd c_30 (p_9n (by omega))
          · refine lv_iload hx hb dX3_soundRowsFrom_33 (lv_at hl 0 rfl) ?_
            refine lv_iload_n hx hb dX3_soundRowsFrom_35 rfl (lv_at hl 5 rfl) ?_
            refine lv_icmp_gt (tgt := 82) hx hb dX3_soundRowsFrom_36 (by decide) (fun c_36 => ?_) (fun c_36 => ?_)
            · refine lv_iload hx hb dX3_soundRowsFrom_82 (lv_at hl 1 rfl) ?_
              exact W.iret (v := v4_26) hx hb hr (fun t ht hW => ⟨v4_26, rfl, by rw [← hG26]; simp only [G_X3_soundRowsFrom_26_1, if_pos c_36], ht⟩) (fun q h => by cases h) dX3_soundRowsFrom_84
            · refine lv_iconst (v := 1) hx hb dX3_soundRowsFrom_39 (by decide) ?_
              refine lv_iload_n hx hb dX3_soundRowsFrom_40 rfl (lv_at hl 2 rfl) ?_
              refine lv_iload hx hb dX3_soundRowsFrom_41 (lv_at hl 0 rfl) ?_
              refine lv_iadd hx hb dX3_soundRowsFrom_43 ?_
              refine lv_iload_n hx hb dX3_soundRowsFrom_44 rfl (lv_at hl 3 rfl) ?_
              refine lv_irem hx hb dX3_soundRowsFrom_45 (by decide) ?_
              refine lv_ishl hx hb dX3_soundRowsFrom_46 ?_
              refine lv_istore (lv' := [(6, .int (1 <<< (((1 + (nI k)) - (1 + (nI k)) / 3 * 3) &&& 31))), (5, .int (nI k)), (4, .int v4_26), (0, .int 1), (1, .int 3), (2, .int p2), (3, .int p3)]) hx hb dX3_soundRowsFrom_47 hl (by decide) rfl (fun ls hl => ?_)
              refine lv_iload_n hx hb dX3_soundRowsFrom_49 rfl (lv_at hl 5 rfl) ?_
              refine lv_iload hx hb dX3_soundRowsFrom_50 (lv_at hl 0 rfl) ?_
              refine lv_iand hx hb dX3_soundRowsFrom_52 ?_
              refine lv_if_ne (tgt := 76) hx hb dX3_soundRowsFrom_53 (by decide) (fun c_53 => ?_) (fun c_53 => ?_)
              · refine lv_iinc (v := nI (k + 1)) (lv' := [(5, .int (nI (k + 1))), (6, .int (1 <<< (((1 + (nI k)) - (1 + (nI k)) / 3 * 3) &&& 31))), (4, .int v4_26), (0, .int 1), (1, .int 3), (2, .int p2), (3, .int p3)]) hx hb dX3_soundRowsFrom_76 hl (k := 1) rfl ((nI_succ _).symm) (by decide) rfl (fun ls hl => ?_)
                refine lv_goto (tgt := 26) hx hb dX3_soundRowsFrom_79 (by decide) ?_
                exact ih26 (k + 1) v4_26 ls (by omega) (by rw [← hG26]; simp only [G_X3_soundRowsFrom_26_1, if_neg c_36, if_neg c_53]) (lv_sub hl [0, 2, 3, 4, 5, 6] rfl)
              · refine lv_iload hx hb dX3_soundRowsFrom_56 (lv_at hl 2 rfl) ?_
                refine lv_iload_n hx hb dX3_soundRowsFrom_58 rfl (lv_at hl 3 rfl) ?_
                refine lv_iconst (v := 1) hx hb dX3_soundRowsFrom_59 (by decide) ?_
                refine lv_iadd hx hb dX3_soundRowsFrom_60 ?_
                refine lv_iload_n hx hb dX3_soundRowsFrom_61 rfl (lv_at hl 4 rfl) ?_
                refine lv_iload_n hx hb dX3_soundRowsFrom_62 rfl (lv_at hl 5 rfl) ?_
                refine lv_iload hx hb dX3_soundRowsFrom_63 (lv_at hl 0 rfl) ?_
                refine lv_ior hx hb dX3_soundRowsFrom_65 ?_
                refine lv_iload_n hx hb dX3_soundRowsFrom_66 rfl (lv_at hl 6 rfl) ?_
                refine lv_iload hx hb dX3_soundRowsFrom_67 (lv_at hl 1 rfl) ?_
                refine lv_isub hx hb dX3_soundRowsFrom_69 ?_
                refine vp_callSi (va_Run.run (va_runS (As := [.int (1 + 1), .int 3, .int (p2 ||| (1 <<< (((1 + (nI k)) - (1 + (nI k)) / 3 * 3) &&& 31))), .int (p3 - (nI k))]) (rest := [.int v4_26]) ⟨hx, hb, hml, hown, hts⟩ (c_X3_soundRowsFrom_2 l (p2 ||| (1 <<< (((1 + (nI k)) - (1 + (nI k)) / 3 * 3) &&& 31))) (p3 - (nI k))) (va_cwS 4 hts gX3_soundRowsFrom_X3_soundRowsFrom rfl rfl rfl (by decide +kernel) ⟨Nat.le_of_ble_eq_true rfl, Nat.le_of_ble_eq_true rfl⟩) ⟨fun a U g mk q => q, fun U hU hW => ⟨rfl, trivial⟩⟩ rfl rfl hl.1 rfl (lv_room (Nat.le_of_ble_eq_true rfl)) dX3_soundRowsFrom_70 ⟨Nat.zero_le _, Nat.zero_le _⟩)) (fun r_70 h_70 => ?_)
                subst h_70
                refine lv_iadd hx hb dX3_soundRowsFrom_73 ?_
                refine lv_istore (lv' := [(4, .int (v4_26 + (S_X3_soundRowsFrom_2 (p2 ||| (1 <<< (((1 + (nI k)) - (1 + (nI k)) / 3 * 3) &&& 31))) (p3 - (nI k))))), (6, .int (1 <<< (((1 + (nI k)) - (1 + (nI k)) / 3 * 3) &&& 31))), (5, .int (nI k)), (0, .int 1), (1, .int 3), (2, .int p2), (3, .int p3)]) hx hb dX3_soundRowsFrom_74 hl (by decide) rfl (fun ls hl => ?_)
                refine lv_iinc (v := nI (k + 1)) (lv' := [(5, .int (nI (k + 1))), (4, .int (v4_26 + (S_X3_soundRowsFrom_2 (p2 ||| (1 <<< (((1 + (nI k)) - (1 + (nI k)) / 3 * 3) &&& 31))) (p3 - (nI k))))), (6, .int (1 <<< (((1 + (nI k)) - (1 + (nI k)) / 3 * 3) &&& 31))), (0, .int 1), (1, .int 3), (2, .int p2), (3, .int p3)]) hx hb dX3_soundRowsFrom_76 hl (k := 2) rfl ((nI_succ _).symm) (by decide) rfl (fun ls hl => ?_)
                refine lv_goto (tgt := 26) hx hb dX3_soundRowsFrom_79 (by decide) ?_
                exact ih26 (k + 1) (v4_26 + (S_X3_soundRowsFrom_2 (p2 ||| (1 <<< (((1 + (nI k)) - (1 + (nI k)) / 3 * 3) &&& 31))) (p3 - (nI k)))) ls (by omega) (by rw [← hG26]; simp only [G_X3_soundRowsFrom_26_1, if_neg c_36, if_pos c_53]) (lv_sub hl [0, 1, 3, 4, 5, 6] rfl)
      exact loop26 10 0 0 ls (by omega) (by simp only [S_X3_soundRowsFrom_1]) (lv_sub hl [0, 1, 2, 3, 4, 5] rfl)
    · exact absurd (by decide) c_7
def G_X3_soundRowsFrom_26_0 (p2 : Int32) (p3 : Int32) : Nat → Nat → Int32 → Int32
  | 0, k, v4_26 => v4_26
  | mm + 1, k, v4_26 => (if p3 < (nI k) then v4_26 else (if (p2 &&& (1 <<< (((0 + (nI k)) - (0 + (nI k)) / 3 * 3) &&& 31))) = 0 then G_X3_soundRowsFrom_26_0 p2 p3 mm (k + 1) (v4_26 + (S_X3_soundRowsFrom_1 (p2 ||| (1 <<< (((0 + (nI k)) - (0 + (nI k)) / 3 * 3) &&& 31))) (p3 - (nI k)))) else G_X3_soundRowsFrom_26_0 p2 p3 mm (k + 1) v4_26))
def S_X3_soundRowsFrom_0 (p2 : Int32) (p3 : Int32) : Int32 := G_X3_soundRowsFrom_26_0 p2 p3 10 0 0
set_option maxHeartbeats 4000000 in
set_option maxRecDepth 100000 in
theorem c_X3_soundRowsFrom_0 (l : Launch)  (p2 : Int32) (p3 : Int32)  : Met l yX3_soundRowsFrom wsX3_soundRowsFrom ({ frames := 3, cells := 0, slots := 0, locals := 78 }) (va_Pc [.int 0, .int 3, .int p2, .int p3] (fun _ => True)) (vp_Si (fun r => r = S_X3_soundRowsFrom_0 p2 p3)) 0 0 (fun _ => False) := by
  refine Met.ofW (cc := cX3_soundRowsFrom) (maxL := 7) (ret := (some .int)) (by decide) rfl ?_
  intro p e s m args below meth c s₁ B hml hv
  obtain ⟨rfl, -⟩ := hv
  have hx := B.exec
  have hb := B.bytes
  have hr := B.returns
  have hts := atoms_spec (ws := wsX3_soundRowsFrom) B.pre
  have hown : s.vm.findClass RX3 = some m.cls := findClass_of_methodNamed B.named
  have hlocks := B.notSynchronized
  have hl := lv_entry ([.int 0, .int 3, .int p2, .int p3]) (n := 7) (Nat.le_of_ble_eq_true rfl)
  rw [lg_entry_eq]
  generalize (lg_sl ([.int 0, .int 3, .int p2, .int p3]) ++ List.replicate (7 - (lg_sl ([.int 0, .int 3, .int p2, .int p3])).length) Slot.unset).toArray = ls at hl ⊢
  have hl : lv_has ls 7 [(0, .int 0), (1, .int 3), (2, .int p2), (3, .int p3)] := hl
  refine lv_iload_n hx hb dX3_soundRowsFrom_0 rfl (lv_at hl 0 rfl) ?_
  refine lv_iload_n hx hb dX3_soundRowsFrom_1 rfl (lv_at hl 1 rfl) ?_
  refine lv_icmp_ge (tgt := 10) hx hb dX3_soundRowsFrom_2 (by decide) (fun c_2 => ?_) (fun c_2 => ?_)
  · exact absurd c_2 (by decide)
  · refine lv_iload_n hx hb dX3_soundRowsFrom_5 rfl (lv_at hl 1 rfl) ?_
    refine lv_iconst (v := 1) hx hb dX3_soundRowsFrom_6 (by decide) ?_
    refine lv_icmp_ge (tgt := 20) hx hb dX3_soundRowsFrom_7 (by decide) (fun c_7 => ?_) (fun c_7 => ?_)
    · refine lv_iconst (v := 0) hx hb dX3_soundRowsFrom_20 (by decide) ?_
      refine lv_istore (lv' := [(4, .int 0), (0, .int 0), (1, .int 3), (2, .int p2), (3, .int p3)]) hx hb dX3_soundRowsFrom_21 hl (by decide) rfl (fun ls hl => ?_)
      refine lv_iconst (v := 0) hx hb dX3_soundRowsFrom_23 (by decide) ?_
      refine lv_istore (lv' := [(5, .int 0), (4, .int 0), (0, .int 0), (1, .int 3), (2, .int p2), (3, .int p3)]) hx hb dX3_soundRowsFrom_24 hl (by decide) rfl (fun ls hl => ?_)
      have loop26 : ∀ (mm k : Nat) (v4_26 : Int32) (ls : Array Slot), k + mm = 10 → G_X3_soundRowsFrom_26_0 p2 p3 mm k v4_26 = S_X3_soundRowsFrom_0 p2 p3 → lv_has ls 7 [(5, .int (nI k)), (4, .int v4_26), (0, .int 0), (1, .int 3), (2, .int p2), (3, .int p3)] → W p l e (headSpec wsX3_soundRowsFrom ({ frames := 3, cells := 0, slots := 0, locals := 78 })).room s m (([.int 0, .int 3, .int p2, .int p3] : List Value).toArray) below meth c s.heap [] 0 0 (MQ below (vp_Si (fun r => r = S_X3_soundRowsFrom_0 p2 p3)) (([.int 0, .int 3, .int p2, .int p3] : List Value).toArray) s 0 0 (fun _ => False)) (F0 m 26 ls []) := by
        intro mm
        induction mm with
        | zero =>
          intro k v4_26 ls hk26 hG26 hl
          refine lv_iload hx hb dX3_soundRowsFrom_26 (lv_at hl 0 rfl) ?_
          refine lv_bipush (v := 9) hx hb dX3_soundRowsFrom_28 (by decide) ?_
          refine lv_icmp_gt (tgt := 82) hx hb dX3_soundRowsFrom_30 (by decide) (fun c_30 => ?_) (fun c_30 => ?_)
          · refine lv_iload hx hb dX3_soundRowsFrom_82 (lv_at hl 1 rfl) ?_
            exact W.iret (v := v4_26) hx hb hr (fun t ht hW => ⟨v4_26, rfl, by rw [← hG26]; simp only [G_X3_soundRowsFrom_26_0], ht⟩) (fun q h => by cases h) dX3_soundRowsFrom_84
          · exact absurd (p_9 (by omega) (by omega)) c_30
        | succ mm ih26 =>
          intro k v4_26 ls hk26 hG26 hl
          refine lv_iload hx hb dX3_soundRowsFrom_26 (lv_at hl 0 rfl) ?_
          refine lv_bipush (v := 9) hx hb dX3_soundRowsFrom_28 (by decide) ?_
          refine lv_icmp_gt (tgt := 82) hx hb dX3_soundRowsFrom_30 (by decide) (fun c_30 => ?_) (fun c_30 => ?_)
          · exact absurd c_30 (p_9n (by omega))
          · refine lv_iload hx hb dX3_soundRowsFrom_33 (lv_at hl 0 rfl) ?_
            refine lv_iload_n hx hb dX3_soundRowsFrom_35 rfl (lv_at hl 5 rfl) ?_
            refine lv_icmp_gt (tgt := 82) hx hb dX3_soundRowsFrom_36 (by decide) (fun c_36 => ?_) (fun c_36 => ?_)
            · refine lv_iload hx hb dX3_soundRowsFrom_82 (lv_at hl 1 rfl) ?_
              exact W.iret (v := v4_26) hx hb hr (fun t ht hW => ⟨v4_26, rfl, by rw [← hG26]; simp only [G_X3_soundRowsFrom_26_0, if_pos c_36], ht⟩) (fun q h => by cases h) dX3_soundRowsFrom_84
            · refine lv_iconst (v := 1) hx hb dX3_soundRowsFrom_39 (by decide) ?_
              refine lv_iload_n hx hb dX3_soundRowsFrom_40 rfl (lv_at hl 2 rfl) ?_
              refine lv_iload hx hb dX3_soundRowsFrom_41 (lv_at hl 0 rfl) ?_
              refine lv_iadd hx hb dX3_soundRowsFrom_43 ?_
              refine lv_iload_n hx hb dX3_soundRowsFrom_44 rfl (lv_at hl 3 rfl) ?_
              refine lv_irem hx hb dX3_soundRowsFrom_45 (by decide) ?_
              refine lv_ishl hx hb dX3_soundRowsFrom_46 ?_
              refine lv_istore (lv' := [(6, .int (1 <<< (((0 + (nI k)) - (0 + (nI k)) / 3 * 3) &&& 31))), (5, .int (nI k)), (4, .int v4_26), (0, .int 0), (1, .int 3), (2, .int p2), (3, .int p3)]) hx hb dX3_soundRowsFrom_47 hl (by decide) rfl (fun ls hl => ?_)
              refine lv_iload_n hx hb dX3_soundRowsFrom_49 rfl (lv_at hl 5 rfl) ?_
              refine lv_iload hx hb dX3_soundRowsFrom_50 (lv_at hl 0 rfl) ?_
              refine lv_iand hx hb dX3_soundRowsFrom_52 ?_
              refine lv_if_ne (tgt := 76) hx hb dX3_soundRowsFrom_53 (by decide) (fun c_53 => ?_) (fun c_53 => ?_)
              · refine lv_iinc (v := nI (k + 1)) (lv' := [(5, .int (nI (k + 1))), (6, .int (1 <<< (((0 + (nI k)) - (0 + (nI k)) / 3 * 3) &&& 31))), (4, .int v4_26), (0, .int 0), (1, .int 3), (2, .int p2), (3, .int p3)]) hx hb dX3_soundRowsFrom_76 hl (k := 1) rfl ((nI_succ _).symm) (by decide) rfl (fun ls hl => ?_)
                refine lv_goto (tgt := 26) hx hb dX3_soundRowsFrom_79 (by decide) ?_
                exact ih26 (k + 1) v4_26 ls (by omega) (by rw [← hG26]; simp only [G_X3_soundRowsFrom_26_0, if_neg c_36, if_neg c_53]) (lv_sub hl [0, 2, 3, 4, 5, 6] rfl)
              · refine lv_iload hx hb dX3_soundRowsFrom_56 (lv_at hl 2 rfl) ?_
                refine lv_iload_n hx hb dX3_soundRowsFrom_58 rfl (lv_at hl 3 rfl) ?_
                refine lv_iconst (v := 1) hx hb dX3_soundRowsFrom_59 (by decide) ?_
                refine lv_iadd hx hb dX3_soundRowsFrom_60 ?_
                refine lv_iload_n hx hb dX3_soundRowsFrom_61 rfl (lv_at hl 4 rfl) ?_
                refine lv_iload_n hx hb dX3_soundRowsFrom_62 rfl (lv_at hl 5 rfl) ?_
                refine lv_iload hx hb dX3_soundRowsFrom_63 (lv_at hl 0 rfl) ?_
                refine lv_ior hx hb dX3_soundRowsFrom_65 ?_
                refine lv_iload_n hx hb dX3_soundRowsFrom_66 rfl (lv_at hl 6 rfl) ?_
                refine lv_iload hx hb dX3_soundRowsFrom_67 (lv_at hl 1 rfl) ?_
                refine lv_isub hx hb dX3_soundRowsFrom_69 ?_
                refine vp_callSi (va_Run.run (va_runS (As := [.int (0 + 1), .int 3, .int (p2 ||| (1 <<< (((0 + (nI k)) - (0 + (nI k)) / 3 * 3) &&& 31))), .int (p3 - (nI k))]) (rest := [.int v4_26]) ⟨hx, hb, hml, hown, hts⟩ (c_X3_soundRowsFrom_1 l (p2 ||| (1 <<< (((0 + (nI k)) - (0 + (nI k)) / 3 * 3) &&& 31))) (p3 - (nI k))) (va_cwS 4 hts gX3_soundRowsFrom_X3_soundRowsFrom rfl rfl rfl (by decide +kernel) ⟨Nat.le_of_ble_eq_true rfl, Nat.le_of_ble_eq_true rfl⟩) ⟨fun a U g mk q => q, fun U hU hW => ⟨rfl, trivial⟩⟩ rfl rfl hl.1 rfl (lv_room (Nat.le_of_ble_eq_true rfl)) dX3_soundRowsFrom_70 ⟨Nat.zero_le _, Nat.zero_le _⟩)) (fun r_70 h_70 => ?_)
                subst h_70
                refine lv_iadd hx hb dX3_soundRowsFrom_73 ?_
                refine lv_istore (lv' := [(4, .int (v4_26 + (S_X3_soundRowsFrom_1 (p2 ||| (1 <<< (((0 + (nI k)) - (0 + (nI k)) / 3 * 3) &&& 31))) (p3 - (nI k))))), (6, .int (1 <<< (((0 + (nI k)) - (0 + (nI k)) / 3 * 3) &&& 31))), (5, .int (nI k)), (0, .int 0), (1, .int 3), (2, .int p2), (3, .int p3)]) hx hb dX3_soundRowsFrom_74 hl (by decide) rfl (fun ls hl => ?_)
                refine lv_iinc (v := nI (k + 1)) (lv' := [(5, .int (nI (k + 1))), (4, .int (v4_26 + (S_X3_soundRowsFrom_1 (p2 ||| (1 <<< (((0 + (nI k)) - (0 + (nI k)) / 3 * 3) &&& 31))) (p3 - (nI k))))), (6, .int (1 <<< (((0 + (nI k)) - (0 + (nI k)) / 3 * 3) &&& 31))), (0, .int 0), (1, .int 3), (2, .int p2), (3, .int p3)]) hx hb dX3_soundRowsFrom_76 hl (k := 2) rfl ((nI_succ _).symm) (by decide) rfl (fun ls hl => ?_)
                refine lv_goto (tgt := 26) hx hb dX3_soundRowsFrom_79 (by decide) ?_
                exact ih26 (k + 1) (v4_26 + (S_X3_soundRowsFrom_1 (p2 ||| (1 <<< (((0 + (nI k)) - (0 + (nI k)) / 3 * 3) &&& 31))) (p3 - (nI k)))) ls (by omega) (by rw [← hG26]; simp only [G_X3_soundRowsFrom_26_0, if_neg c_36, if_pos c_53]) (lv_sub hl [0, 1, 3, 4, 5, 6] rfl)
      exact loop26 10 0 0 ls (by omega) (by simp only [S_X3_soundRowsFrom_0]) (lv_sub hl [0, 1, 2, 3, 4, 5] rfl)
    · exact absurd (by decide) c_7
def S_X3_count (ξ : XS) (σ : JS) (η : YS) (rows : List RD) : Int32 := S_X3_soundRowsFrom_0 0 (3 * 2)
set_option maxHeartbeats 4000000 in
set_option maxRecDepth 100000 in
theorem c_X3_count (l : Launch) (dC : Nat → ClassId) (dI : Nat → Nat → Nat) (cI cR : ClassId) (x rw j a1 a2 a3 y b1 b2 b3 : Nat) (ξ : XS) (σ : JS) (η : YS) (rows : List RD) (hCI : p_CI ξ rows)   : Met l yX3_count wsX3_count ({ frames := 4, cells := 0, slots := 0, locals := 104 }) (va_Pc [.ref x, .int 3, .int 2] (fun U => va_P (dC, dI) vwCl (wC cI cR x rw j a1 a2 a3 y b1 b2 b3 ξ σ η rows) U.heap ∧ cE (dC, dI) cI cR U)) (vp_Si (fun r => r = S_X3_count ξ σ η rows)) 0 0 (fun _ => False) := by
  refine Met.ofW (cc := cX3_count) (maxL := 3) (ret := (some .int)) (by decide) rfl ?_
  intro p e s m args below meth c s₁ B hml hv
  obtain ⟨rfl, hP, hE⟩ := hv
  have hK := hE.1
  have hx := B.exec
  have hb := B.bytes
  have hr := B.returns
  have hts := atoms_spec (ws := wsX3_count) B.pre
  have hown : s.vm.findClass RX3 = some m.cls := findClass_of_methodNamed B.named
  have hlocks := B.notSynchronized
  have hP : va_P (dC, dI) vwCl ([(x, .inr (3, [.ref rw, .ref j, .ref y, .int ξ.2])), (rw, .inl (cR, 8, .inr (.inr (.inr (.inr ξ.1))))), (j, .inr (0, [.ref a1, .ref a2, .ref a3, .int σ.2.2.2.1, .int σ.2.2.2.2.1, .int σ.2.2.2.2.2.1, .int σ.2.2.2.2.2.2.1, .double σ.2.2.2.2.2.2.2])), (a1, .inl (cI, 6, .inl σ.1)), (a2, .inl (cI, 6, .inl σ.2.1)), (a3, .inl (cI, 6, .inl σ.2.2.1)), (y, .inr (2, [.ref b1, .ref b2, .ref b3, .int η.2.2.2])), (b1, .inl (cI, 512, .inl η.1)), (b2, .inl (cI, 512, .inl η.2.1)), (b3, .inl (cI, 512, .inl η.2.2.1))] ++ wRs cI rows) s.heap := hP
  have hl := lv_entry ([.ref x, .int 3, .int 2]) (n := 3) (Nat.le_of_ble_eq_true rfl)
  rw [lg_entry_eq]
  generalize (lg_sl ([.ref x, .int 3, .int 2]) ++ List.replicate (3 - (lg_sl ([.ref x, .int 3, .int 2])).length) Slot.unset).toArray = ls at hl ⊢
  have hl : lv_has ls 3 [(0, .ref x), (1, .int 3), (2, .int 2)] := hl
  refine lv_iload_n hx hb dX3_count_0 rfl (lv_at hl 1 rfl) ?_
  refine lv_iconst (v := 1) hx hb dX3_count_1 (by decide) ?_
  refine lv_iconst (v := 4) hx hb dX3_count_2 (by decide) ?_
  refine vp_callSi (va_Run.run (va_runS (As := [.int 3, .int 1, .int 4]) (rest := []) ⟨hx, hb, hml, hown, hts⟩ (c_X3_isWithin l 3 1 4) (va_cwS 3 hts gX3_count_X3_isWithin rfl rfl rfl (by decide +kernel) ⟨Nat.le_of_ble_eq_true rfl, Nat.le_of_ble_eq_true rfl⟩) ⟨fun a U g mk q => q, fun U hU hW => ⟨rfl, trivial⟩⟩ rfl rfl hl.1 rfl (lv_room (Nat.le_of_ble_eq_true rfl)) dX3_count_3 ⟨Nat.zero_le _, Nat.zero_le _⟩)) (fun r_3 h_3 => ?_)
  obtain ⟨rfl, hz_3⟩ := h_3
  refine lv_if_eq (tgt := 19) hx hb dX3_count_6 (by decide) (fun c_6 => ?_) (fun c_6 => ?_)
  · exact absurd c_6 (by decide)
  · refine lv_iload_n hx hb dX3_count_9 rfl (lv_at hl 2 rfl) ?_
    refine lv_iconst (v := 0) hx hb dX3_count_10 (by decide) ?_
    refine lv_bipush (v := 9) hx hb dX3_count_11 (by decide) ?_
    refine vp_callSi (va_Run.run (va_runS (As := [.int 2, .int 0, .int 9]) (rest := []) ⟨hx, hb, hml, hown, hts⟩ (c_X3_isWithin l 2 0 9) (va_cwS 3 hts gX3_count_X3_isWithin rfl rfl rfl (by decide +kernel) ⟨Nat.le_of_ble_eq_true rfl, Nat.le_of_ble_eq_true rfl⟩) ⟨fun a U g mk q => q, fun U hU hW => ⟨rfl, trivial⟩⟩ rfl rfl hl.1 rfl (lv_room (Nat.le_of_ble_eq_true rfl)) dX3_count_13 ⟨Nat.zero_le _, Nat.zero_le _⟩)) (fun r_13 h_13 => ?_)
    obtain ⟨rfl, hz_13⟩ := h_13
    refine lv_if_ne (tgt := 29) hx hb dX3_count_16 (by decide) (fun c_16 => ?_) (fun c_16 => ?_)
    · refine lv_iconst (v := 0) hx hb dX3_count_29 (by decide) ?_
      refine lv_iload_n hx hb dX3_count_30 rfl (lv_at hl 1 rfl) ?_
      refine lv_iconst (v := 0) hx hb dX3_count_31 (by decide) ?_
      refine lv_iload_n hx hb dX3_count_32 rfl (lv_at hl 1 rfl) ?_
      refine lv_iload_n hx hb dX3_count_33 rfl (lv_at hl 2 rfl) ?_
      refine lv_imul hx hb dX3_count_34 ?_
      refine vp_callSi (va_Run.run (va_runS (As := [.int 0, .int 3, .int 0, .int (3 * 2)]) (rest := []) ⟨hx, hb, hml, hown, hts⟩ (c_X3_soundRowsFrom_0 l 0 (3 * 2)) (va_cwS 4 hts gX3_count_X3_soundRowsFrom rfl rfl rfl (by decide +kernel) ⟨Nat.le_of_ble_eq_true rfl, Nat.le_of_ble_eq_true rfl⟩) ⟨fun a U g mk q => q, fun U hU hW => ⟨rfl, trivial⟩⟩ rfl rfl hl.1 rfl (lv_room (Nat.le_of_ble_eq_true rfl)) dX3_count_35 ⟨Nat.zero_le _, Nat.zero_le _⟩)) (fun r_35 h_35 => ?_)
      subst h_35
      exact W.iret (v := (S_X3_soundRowsFrom_0 0 (3 * 2))) hx hb hr (fun t ht hW => ⟨(S_X3_soundRowsFrom_0 0 (3 * 2)), rfl, by simp only [S_X3_count], ht⟩) (fun q h => by cases h) dX3_count_38
    · exact absurd c_16 (by decide)
