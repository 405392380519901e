/-! LAID BY MY PROGRAM wip/gen/p26.py: contracts, method by method -/
def G_X3_firstNumberLongerThan_4 (p0 : Int32) : Nat → Nat → Int32 → Int32
  | 0, k, v1_4 => v1_4
  | mm + 1, k, v1_4 => (if 8 ≤ (nI k) then v1_4 else G_X3_firstNumberLongerThan_4 p0 mm (k + 1) (v1_4 * 10))
def S_X3_firstNumberLongerThan (p0 : Int32) : Int32 := G_X3_firstNumberLongerThan_4 p0 p0.toNatClampNeg 0 1
set_option maxHeartbeats 4000000 in
set_option maxRecDepth 100000 in
theorem c_X3_firstNumberLongerThan (l : Launch)  (p0 : Int32)  : Met l yX3_firstNumberLongerThan wsX3_firstNumberLongerThan ({ frames := 0, cells := 0, slots := 0, locals := 0 }) (va_Pc [.int p0] (fun _ => True)) (vp_Si (fun r => r = S_X3_firstNumberLongerThan p0)) 0 0 (fun _ => False) := by
  refine Met.ofW (cc := cX3_firstNumberLongerThan) (maxL := 3) (ret := (some .int)) (by decide) rfl ?_
  intro p e s m args below meth c s₁ B hml hv
  obtain ⟨rfl, -⟩ := hv
  have hx := B.exec
  have hb := B.bytes
  have hr := B.returns
  have hlocks := B.notSynchronized
  have hl := lv_entry ([.int p0]) (n := 3) (Nat.le_of_ble_eq_true rfl)
  rw [lg_entry_eq]
  generalize (lg_sl ([.int p0]) ++ List.replicate (3 - (lg_sl ([.int p0])).length) Slot.unset).toArray = ls at hl ⊢
  have hl : lv_has ls 3 [(0, .int p0)] := hl
  refine lv_iconst (v := 1) hx hb dX3_firstNumberLongerThan_0 (by decide) ?_
  refine lv_istore_n (lv' := [(1, .int 1), (0, .int p0)]) hx hb dX3_firstNumberLongerThan_1 rfl hl (by decide) rfl (fun ls hl => ?_)
  refine lv_iconst (v := 0) hx hb dX3_firstNumberLongerThan_2 (by decide) ?_
  refine lv_istore_n (lv' := [(2, .int 0), (1, .int 1), (0, .int p0)]) hx hb dX3_firstNumberLongerThan_3 rfl hl (by decide) rfl (fun ls hl => ?_)
  have hn4 := p_clt p0
  have loop4 : ∀ (mm k : Nat) (v1_4 : Int32) (ls : Array Slot), k + mm = p0.toNatClampNeg → G_X3_firstNumberLongerThan_4 p0 mm k v1_4 = S_X3_firstNumberLongerThan p0 → lv_has ls 3 [(2, .int (nI k)), (1, .int v1_4), (0, .int p0)] → W p l e (headSpec wsX3_firstNumberLongerThan ({ frames := 0, cells := 0, slots := 0, locals := 0 })).room s m (([.int p0] : List Value).toArray) below meth c s.heap [] 0 0 (MQ below (vp_Si (fun r => r = S_X3_firstNumberLongerThan p0)) (([.int p0] : List Value).toArray) s 0 0 (fun _ => False)) (F0 m 4 ls []) := by
    intro mm
    induction mm with
    | zero =>
      intro k v1_4 ls hk4 hG4 hl
      refine lv_iload_n hx hb dX3_firstNumberLongerThan_4 rfl (lv_at hl 0 rfl) ?_
      refine lv_iload_n hx hb dX3_firstNumberLongerThan_5 rfl (lv_at hl 2 rfl) ?_
      refine lv_icmp_ge (tgt := 26) hx hb dX3_firstNumberLongerThan_6 (by decide) (fun c_6 => ?_) (fun c_6 => ?_)
      · refine lv_iload_n hx hb dX3_firstNumberLongerThan_26 rfl (lv_at hl 1 rfl) ?_
        exact W.iret (v := v1_4) hx hb hr (fun t ht hW => ⟨v1_4, rfl, by rw [← hG4]; simp only [G_X3_firstNumberLongerThan_4], ht⟩) (fun q h => by cases h) dX3_firstNumberLongerThan_27
      · exact absurd ((p_le (by omega)).mpr (by omega)) c_6
    | succ mm ih4 =>
      intro k v1_4 ls hk4 hG4 hl
      refine lv_iload_n hx hb dX3_firstNumberLongerThan_4 rfl (lv_at hl 0 rfl) ?_
      refine lv_iload_n hx hb dX3_firstNumberLongerThan_5 rfl (lv_at hl 2 rfl) ?_
      refine lv_icmp_ge (tgt := 26) hx hb dX3_firstNumberLongerThan_6 (by decide) (fun c_6 => ?_) (fun c_6 => ?_)
      · exact absurd ((p_le (by omega)).mp c_6) (by omega)
      · refine lv_iload_n hx hb dX3_firstNumberLongerThan_9 rfl (lv_at hl 0 rfl) ?_
        refine lv_bipush (v := 8) hx hb dX3_firstNumberLongerThan_10 (by decide) ?_
        refine lv_icmp_ge (tgt := 26) hx hb dX3_firstNumberLongerThan_12 (by decide) (fun c_12 => ?_) (fun c_12 => ?_)
        · refine lv_iload_n hx hb dX3_firstNumberLongerThan_26 rfl (lv_at hl 1 rfl) ?_
          exact W.iret (v := v1_4) hx hb hr (fun t ht hW => ⟨v1_4, rfl, by rw [← hG4]; simp only [G_X3_firstNumberLongerThan_4, if_pos c_12], ht⟩) (fun q h => by cases h) dX3_firstNumberLongerThan_27
        · refine lv_iload_n hx hb dX3_firstNumberLongerThan_15 rfl (lv_at hl 1 rfl) ?_
          refine lv_bipush (v := 10) hx hb dX3_firstNumberLongerThan_16 (by decide) ?_
          refine lv_imul hx hb dX3_firstNumberLongerThan_18 ?_
          refine lv_istore_n (lv' := [(1, .int (v1_4 * 10)), (2, .int (nI k)), (0, .int p0)]) hx hb dX3_firstNumberLongerThan_19 rfl hl (by decide) rfl (fun ls hl => ?_)
          refine lv_iinc (v := nI (k + 1)) (lv' := [(2, .int (nI (k + 1))), (1, .int (v1_4 * 10)), (0, .int p0)]) hx hb dX3_firstNumberLongerThan_20 hl (k := 1) rfl ((nI_succ _).symm) (by decide) rfl (fun ls hl => ?_)
          refine lv_goto (tgt := 4) hx hb dX3_firstNumberLongerThan_23 (by decide) ?_
          exact ih4 (k + 1) (v1_4 * 10) ls (by omega) (by rw [← hG4]; simp only [G_X3_firstNumberLongerThan_4, if_neg c_12]) (lv_sub hl [0, 1, 2] rfl)
  exact loop4 p0.toNatClampNeg 0 1 ls (by omega) (by simp only [S_X3_firstNumberLongerThan]) (lv_sub hl [0, 1, 2] rfl)
def S_X3_nearestWhole (p0 : UInt64) : UInt64 := (if 0 < (Op.cmpValue (FP.dcmp (FP.dsub p0 (FP.l2d (FP.d2l p0))) 4602678819172646912) CmpOp.l) then FP.l2d ((FP.d2l p0) + 1) else (if (Op.cmpValue (FP.dcmp (FP.dsub p0 (FP.l2d (FP.d2l p0))) 4602678819172646912) CmpOp.l) = 0 then (if (lg_cmp ((FP.d2l p0) - (FP.d2l p0) / 2 * 2) 0) = 0 then FP.l2d (FP.d2l p0) else FP.l2d ((FP.d2l p0) + 1)) else FP.l2d (FP.d2l p0)))
set_option maxHeartbeats 4000000 in
set_option maxRecDepth 100000 in
theorem c_X3_nearestWhole (l : Launch)  (p0 : UInt64) (hn6 : vf_n64 (FP.dsub p0 (FP.l2d (FP.d2l p0)))) : Met l yX3_nearestWhole wsX3_nearestWhole ({ frames := 0, cells := 0, slots := 0, locals := 0 }) (va_Pc [.double p0] (fun _ => True)) (vp_Sd (fun r => r = S_X3_nearestWhole p0)) 0 0 (fun _ => False) := by
  refine Met.ofW (cc := cX3_nearestWhole) (maxL := 7) (ret := (some .double)) (by decide) rfl ?_
  intro p e s m args below meth c s₁ B hml hv
  obtain ⟨rfl, -⟩ := hv
  have hx := B.exec
  have hb := B.bytes
  have hr := B.returns
  have hts := atoms_spec (ws := wsX3_nearestWhole) B.pre
  have hown : s.vm.findClass RX3 = some m.cls := findClass_of_methodNamed B.named
  have hlocks := B.notSynchronized
  have hl := lv_entry ([.double p0]) (n := 7) (Nat.le_of_ble_eq_true rfl)
  rw [lg_entry_eq]
  generalize (lg_sl ([.double p0]) ++ List.replicate (7 - (lg_sl ([.double p0])).length) Slot.unset).toArray = ls at hl ⊢
  have hl : lv_has ls 7 [(0, .double p0)] := hl
  have q_0 := hts (.constantDouble RX3 246 (4602678819172646912)) (by decide +kernel)
  have q_1 := hts (.constantLong RX3 248 (2)) (by decide +kernel)
  refine lv_dload_n hx hb dX3_nearestWhole_0 rfl (lv_at hl 0 rfl) ?_
  refine lv_d2l hx hb dX3_nearestWhole_1 ?_
  refine lv_lstore_n (lv' := [(2, .long (FP.d2l p0)), (0, .double p0)]) hx hb dX3_nearestWhole_2 rfl hl (by decide) rfl (fun ls hl => ?_)
  refine lv_dload_n hx hb dX3_nearestWhole_3 rfl (lv_at hl 1 rfl) ?_
  refine lv_lload_n hx hb dX3_nearestWhole_4 rfl (lv_at hl 0 rfl) ?_
  refine lv_l2d hx hb dX3_nearestWhole_5 ?_
  refine lv_dsub hx hb dX3_nearestWhole_6 hn6 ?_
  refine lv_dstore (lv' := [(4, .double (FP.dsub p0 (FP.l2d (FP.d2l p0)))), (2, .long (FP.d2l p0)), (0, .double p0)]) hx hb dX3_nearestWhole_7 hl (by decide) rfl (fun ls hl => ?_)
  refine lv_dload hx hb dX3_nearestWhole_9 (lv_at hl 0 rfl) ?_
  refine lv_ldc2d hx hb hown q_0 dX3_nearestWhole_11 ?_
  refine lv_dcmp hx hb dX3_nearestWhole_14 ?_
  refine lv_if_gt (tgt := 37) hx hb dX3_nearestWhole_15 (by decide) (fun c_15 => ?_) (fun c_15 => ?_)
  · refine lv_iconst (v := 1) hx hb dX3_nearestWhole_37 (by decide) ?_
    refine lv_goto (tgt := 42) hx hb dX3_nearestWhole_38 (by decide) ?_
    refine lv_istore (lv' := [(6, .int 1), (4, .double (FP.dsub p0 (FP.l2d (FP.d2l p0)))), (2, .long (FP.d2l p0)), (0, .double p0)]) hx hb dX3_nearestWhole_42 hl (by decide) rfl (fun ls hl => ?_)
    refine lv_iload hx hb dX3_nearestWhole_44 (lv_at hl 0 rfl) ?_
    refine lv_if_eq (tgt := 55) hx hb dX3_nearestWhole_46 (by decide) (fun c_46 => ?_) (fun c_46 => ?_)
    · exact absurd c_46 (by decide)
    · refine lv_lload_n hx hb dX3_nearestWhole_49 rfl (lv_at hl 2 rfl) ?_
      refine lv_lconst (v := 1) hx hb dX3_nearestWhole_50 rfl ?_
      refine lv_ladd hx hb dX3_nearestWhole_51 ?_
      refine lv_goto (tgt := 56) hx hb dX3_nearestWhole_52 (by decide) ?_
      refine lv_l2d hx hb dX3_nearestWhole_56 ?_
      exact W.dret (v := (FP.l2d ((FP.d2l p0) + 1))) hx hb hr (fun t ht hW => ⟨(FP.l2d ((FP.d2l p0) + 1)), rfl, by simp only [S_X3_nearestWhole, if_pos c_15], ht⟩) (fun q h => by cases h) dX3_nearestWhole_57
  · refine lv_dload hx hb dX3_nearestWhole_18 (lv_at hl 0 rfl) ?_
    refine lv_ldc2d hx hb hown q_0 dX3_nearestWhole_20 ?_
    refine lv_dcmp hx hb dX3_nearestWhole_23 ?_
    refine lv_if_ne (tgt := 41) hx hb dX3_nearestWhole_24 (by decide) (fun c_24 => ?_) (fun c_24 => ?_)
    · refine lv_iconst (v := 0) hx hb dX3_nearestWhole_41 (by decide) ?_
      refine lv_istore (lv' := [(6, .int 0), (4, .double (FP.dsub p0 (FP.l2d (FP.d2l p0)))), (2, .long (FP.d2l p0)), (0, .double p0)]) hx hb dX3_nearestWhole_42 hl (by decide) rfl (fun ls hl => ?_)
      refine lv_iload hx hb dX3_nearestWhole_44 (lv_at hl 0 rfl) ?_
      refine lv_if_eq (tgt := 55) hx hb dX3_nearestWhole_46 (by decide) (fun c_46 => ?_) (fun c_46 => ?_)
      · refine lv_lload_n hx hb dX3_nearestWhole_55 rfl (lv_at hl 2 rfl) ?_
        refine lv_l2d hx hb dX3_nearestWhole_56 ?_
        exact W.dret (v := (FP.l2d (FP.d2l p0))) hx hb hr (fun t ht hW => ⟨(FP.l2d (FP.d2l p0)), rfl, by simp only [S_X3_nearestWhole, if_neg c_15, if_neg c_24], ht⟩) (fun q h => by cases h) dX3_nearestWhole_57
      · exact absurd (by decide) c_46
    · refine lv_lload_n hx hb dX3_nearestWhole_27 rfl (lv_at hl 1 rfl) ?_
      refine lv_ldc2 hx hb hown q_1 dX3_nearestWhole_28 ?_
      refine lv_lrem hx hb dX3_nearestWhole_31 (by decide) ?_
      refine lv_lconst (v := 0) hx hb dX3_nearestWhole_32 rfl ?_
      refine W.lcmp hx hb dX3_nearestWhole_33 ?_
      refine lv_if_eq (tgt := 41) hx hb dX3_nearestWhole_34 (by decide) (fun c_34 => ?_) (fun c_34 => ?_)
      · refine lv_iconst (v := 0) hx hb dX3_nearestWhole_41 (by decide) ?_
        refine lv_istore (lv' := [(6, .int 0), (4, .double (FP.dsub p0 (FP.l2d (FP.d2l p0)))), (2, .long (FP.d2l p0)), (0, .double p0)]) hx hb dX3_nearestWhole_42 hl (by decide) rfl (fun ls hl => ?_)
        refine lv_iload hx hb dX3_nearestWhole_44 (lv_at hl 0 rfl) ?_
        refine lv_if_eq (tgt := 55) hx hb dX3_nearestWhole_46 (by decide) (fun c_46 => ?_) (fun c_46 => ?_)
        · refine lv_lload_n hx hb dX3_nearestWhole_55 rfl (lv_at hl 2 rfl) ?_
          refine lv_l2d hx hb dX3_nearestWhole_56 ?_
          exact W.dret (v := (FP.l2d (FP.d2l p0))) hx hb hr (fun t ht hW => ⟨(FP.l2d (FP.d2l p0)), rfl, by simp only [S_X3_nearestWhole, if_neg c_15, if_pos c_24, if_pos c_34], ht⟩) (fun q h => by cases h) dX3_nearestWhole_57
        · exact absurd (by decide) c_46
      · refine lv_iconst (v := 1) hx hb dX3_nearestWhole_37 (by decide) ?_
        refine lv_goto (tgt := 42) hx hb dX3_nearestWhole_38 (by decide) ?_
        refine lv_istore (lv' := [(6, .int 1), (4, .double (FP.dsub p0 (FP.l2d (FP.d2l p0)))), (2, .long (FP.d2l p0)), (0, .double p0)]) hx hb dX3_nearestWhole_42 hl (by decide) rfl (fun ls hl => ?_)
        refine lv_iload hx hb dX3_nearestWhole_44 (lv_at hl 0 rfl) ?_
        refine lv_if_eq (tgt := 55) hx hb dX3_nearestWhole_46 (by decide) (fun c_46 => ?_) (fun c_46 => ?_)
        · exact absurd c_46 (by decide)
        · refine lv_lload_n hx hb dX3_nearestWhole_49 rfl (lv_at hl 2 rfl) ?_
          refine lv_lconst (v := 1) hx hb dX3_nearestWhole_50 rfl ?_
          refine lv_ladd hx hb dX3_nearestWhole_51 ?_
          refine lv_goto (tgt := 56) hx hb dX3_nearestWhole_52 (by decide) ?_
          refine lv_l2d hx hb dX3_nearestWhole_56 ?_
          exact W.dret (v := (FP.l2d ((FP.d2l p0) + 1))) hx hb hr (fun t ht hW => ⟨(FP.l2d ((FP.d2l p0) + 1)), rfl, by simp only [S_X3_nearestWhole, if_neg c_15, if_pos c_24, if_neg c_34], ht⟩) (fun q h => by cases h) dX3_nearestWhole_57
def S_X3_metresOf (p0 : Int32) : UInt64 := (if 2 ≤ p0 then FP.ddiv (S_X3_nearestWhole (FP.dmul 4616189618054758400 (FP.dmul (FP.dmul 4608195728716175770 (FP.dsub (FP.dmul 4598175219545276416 (FP.i2d p0)) 4598175219545276416)) (FP.dsub (FP.dmul 4598175219545276416 (FP.i2d p0)) 4598175219545276416)))) 4616189618054758400 else FP.dconst0)
set_option maxHeartbeats 4000000 in
set_option maxRecDepth 100000 in
theorem c_X3_metresOf (l : Launch)  (p0 : Int32) (hm : vf_n64 (FP.dsub (FP.dmul 4616189618054758400 (FP.dmul (FP.dmul 4608195728716175770 (FP.dsub (FP.dmul 4598175219545276416 (FP.i2d p0)) 4598175219545276416)) (FP.dsub (FP.dmul 4598175219545276416 (FP.i2d p0)) 4598175219545276416))) (FP.l2d (FP.d2l (FP.dmul 4616189618054758400 (FP.dmul (FP.dmul 4608195728716175770 (FP.dsub (FP.dmul 4598175219545276416 (FP.i2d p0)) 4598175219545276416)) (FP.dsub (FP.dmul 4598175219545276416 (FP.i2d p0)) 4598175219545276416))))))) (hn15 : vf_n64 (FP.dmul 4598175219545276416 (FP.i2d p0))) (hn19 : vf_n64 (FP.dsub (FP.dmul 4598175219545276416 (FP.i2d p0)) 4598175219545276416)) (hn20 : vf_n64 (FP.dmul 4608195728716175770 (FP.dsub (FP.dmul 4598175219545276416 (FP.i2d p0)) 4598175219545276416))) (hn26 : vf_n64 (FP.dmul 4598175219545276416 (FP.i2d p0))) (hn30 : vf_n64 (FP.dsub (FP.dmul 4598175219545276416 (FP.i2d p0)) 4598175219545276416)) (hn31 : vf_n64 (FP.dmul (FP.dmul 4608195728716175770 (FP.dsub (FP.dmul 4598175219545276416 (FP.i2d p0)) 4598175219545276416)) (FP.dsub (FP.dmul 4598175219545276416 (FP.i2d p0)) 4598175219545276416))) (hn37 : vf_n64 (FP.dmul 4616189618054758400 (FP.dmul (FP.dmul 4608195728716175770 (FP.dsub (FP.dmul 4598175219545276416 (FP.i2d p0)) 4598175219545276416)) (FP.dsub (FP.dmul 4598175219545276416 (FP.i2d p0)) 4598175219545276416)))) (hn44 : vf_n64 (FP.ddiv (S_X3_nearestWhole (FP.dmul 4616189618054758400 (FP.dmul (FP.dmul 4608195728716175770 (FP.dsub (FP.dmul 4598175219545276416 (FP.i2d p0)) 4598175219545276416)) (FP.dsub (FP.dmul 4598175219545276416 (FP.i2d p0)) 4598175219545276416)))) 4616189618054758400)) : Met l yX3_metresOf wsX3_metresOf ({ frames := 1, cells := 0, slots := 0, locals := 26 }) (va_Pc [.int p0] (fun _ => True)) (vp_Sd (fun r => r = S_X3_metresOf p0)) 0 0 (fun _ => False) := by
  refine Met.ofW (cc := cX3_metresOf) (maxL := 3) (ret := (some .double)) (by decide) rfl ?_
  intro p e s m args below meth c s₁ B hml hv
  obtain ⟨rfl, -⟩ := hv
  have hx := B.exec
  have hb := B.bytes
  have hr := B.returns
  have hts := atoms_spec (ws := wsX3_metresOf) B.pre
  have hown : s.vm.findClass RX3 = some m.cls := findClass_of_methodNamed B.named
  have hlocks := B.notSynchronized
  have hl := lv_entry ([.int p0]) (n := 3) (Nat.le_of_ble_eq_true rfl)
  rw [lg_entry_eq]
  generalize (lg_sl ([.int p0]) ++ List.replicate (3 - (lg_sl ([.int p0])).length) Slot.unset).toArray = ls at hl ⊢
  have hl : lv_has ls 3 [(0, .int p0)] := hl
  have q_0 := hts (.constantDouble RX3 236 (4608195728716175770)) (by decide +kernel)
  have q_1 := hts (.constantDouble RX3 238 (4598175219545276416)) (by decide +kernel)
  have q_2 := hts (.constantDouble RX3 240 (4616189618054758400)) (by decide +kernel)
  refine lv_iload_n hx hb dX3_metresOf_0 rfl (lv_at hl 0 rfl) ?_
  refine lv_iconst (v := 2) hx hb dX3_metresOf_1 (by decide) ?_
  refine lv_icmp_ge (tgt := 7) hx hb dX3_metresOf_2 (by decide) (fun c_2 => ?_) (fun c_2 => ?_)
  · refine lv_ldc2d hx hb hown q_0 dX3_metresOf_7 ?_
    refine lv_ldc2d hx hb hown q_1 dX3_metresOf_10 ?_
    refine lv_iload_n hx hb dX3_metresOf_13 rfl (lv_at hl 0 rfl) ?_
    refine lv_i2d hx hb dX3_metresOf_14 ?_
    refine lv_dmul hx hb dX3_metresOf_15 hn15 ?_
    refine lv_ldc2d hx hb hown q_1 dX3_metresOf_16 ?_
    refine lv_dsub hx hb dX3_metresOf_19 hn19 ?_
    refine lv_dmul hx hb dX3_metresOf_20 hn20 ?_
    refine lv_ldc2d hx hb hown q_1 dX3_metresOf_21 ?_
    refine lv_iload_n hx hb dX3_metresOf_24 rfl (lv_at hl 0 rfl) ?_
    refine lv_i2d hx hb dX3_metresOf_25 ?_
    refine lv_dmul hx hb dX3_metresOf_26 hn26 ?_
    refine lv_ldc2d hx hb hown q_1 dX3_metresOf_27 ?_
    refine lv_dsub hx hb dX3_metresOf_30 hn30 ?_
    refine lv_dmul hx hb dX3_metresOf_31 hn31 ?_
    refine lv_dstore_n (lv' := [(1, .double (FP.dmul (FP.dmul 4608195728716175770 (FP.dsub (FP.dmul 4598175219545276416 (FP.i2d p0)) 4598175219545276416)) (FP.dsub (FP.dmul 4598175219545276416 (FP.i2d p0)) 4598175219545276416))), (0, .int p0)]) hx hb dX3_metresOf_32 rfl hl (by decide) rfl (fun ls hl => ?_)
    refine lv_ldc2d hx hb hown q_2 dX3_metresOf_33 ?_
    refine lv_dload_n hx hb dX3_metresOf_36 rfl (lv_at hl 0 rfl) ?_
    refine lv_dmul hx hb dX3_metresOf_37 hn37 ?_
    refine vp_callSd (va_Run.run (va_runS (As := [.double (FP.dmul 4616189618054758400 (FP.dmul (FP.dmul 4608195728716175770 (FP.dsub (FP.dmul 4598175219545276416 (FP.i2d p0)) 4598175219545276416)) (FP.dsub (FP.dmul 4598175219545276416 (FP.i2d p0)) 4598175219545276416)))]) (rest := []) ⟨hx, hb, hml, hown, hts⟩ (c_X3_nearestWhole l (FP.dmul 4616189618054758400 (FP.dmul (FP.dmul 4608195728716175770 (FP.dsub (FP.dmul 4598175219545276416 (FP.i2d p0)) 4598175219545276416)) (FP.dsub (FP.dmul 4598175219545276416 (FP.i2d p0)) 4598175219545276416))) hm) (va_cwS 1 hts gX3_metresOf_X3_nearestWhole rfl rfl rfl (by decide +kernel) ⟨Nat.le_of_ble_eq_true rfl, Nat.le_of_ble_eq_true rfl⟩) ⟨fun a U g mk q => q, fun U hU hW => ⟨rfl, trivial⟩⟩ rfl rfl hl.1 rfl (lv_room (Nat.le_of_ble_eq_true rfl)) dX3_metresOf_38 ⟨Nat.zero_le _, Nat.zero_le _⟩)) (fun r_38 h_38 => ?_)
    subst h_38
    refine lv_ldc2d hx hb hown q_2 dX3_metresOf_41 ?_
    refine lv_ddiv hx hb dX3_metresOf_44 hn44 ?_
    exact W.dret (v := (FP.ddiv (S_X3_nearestWhole (FP.dmul 4616189618054758400 (FP.dmul (FP.dmul 4608195728716175770 (FP.dsub (FP.dmul 4598175219545276416 (FP.i2d p0)) 4598175219545276416)) (FP.dsub (FP.dmul 4598175219545276416 (FP.i2d p0)) 4598175219545276416)))) 4616189618054758400)) hx hb hr (fun t ht hW => ⟨(FP.ddiv (S_X3_nearestWhole (FP.dmul 4616189618054758400 (FP.dmul (FP.dmul 4608195728716175770 (FP.dsub (FP.dmul 4598175219545276416 (FP.i2d p0)) 4598175219545276416)) (FP.dsub (FP.dmul 4598175219545276416 (FP.i2d p0)) 4598175219545276416)))) 4616189618054758400), rfl, by simp only [S_X3_metresOf, if_pos c_2], ht⟩) (fun q h => by cases h) dX3_metresOf_45
  · refine lv_dconst0 hx hb dX3_metresOf_5 ?_
    exact W.dret (v := FP.dconst0) hx hb hr (fun t ht hW => ⟨FP.dconst0, rfl, by simp only [S_X3_metresOf, if_neg c_2], ht⟩) (fun q h => by cases h) dX3_metresOf_6
/-- no NaN is made on the way to the metres of that throw -/
def mOK (p0 : Int32) : Prop := vf_n64 (FP.dsub (FP.dmul 4616189618054758400 (FP.dmul (FP.dmul 4608195728716175770 (FP.dsub (FP.dmul 4598175219545276416 (FP.i2d p0)) 4598175219545276416)) (FP.dsub (FP.dmul 4598175219545276416 (FP.i2d p0)) 4598175219545276416))) (FP.l2d (FP.d2l (FP.dmul 4616189618054758400 (FP.dmul (FP.dmul 4608195728716175770 (FP.dsub (FP.dmul 4598175219545276416 (FP.i2d p0)) 4598175219545276416)) (FP.dsub (FP.dmul 4598175219545276416 (FP.i2d p0)) 4598175219545276416)))))) ∧ vf_n64 (FP.dmul 4598175219545276416 (FP.i2d p0)) ∧ vf_n64 (FP.dsub (FP.dmul 4598175219545276416 (FP.i2d p0)) 4598175219545276416) ∧ vf_n64 (FP.dmul 4608195728716175770 (FP.dsub (FP.dmul 4598175219545276416 (FP.i2d p0)) 4598175219545276416)) ∧ vf_n64 (FP.dmul 4598175219545276416 (FP.i2d p0)) ∧ vf_n64 (FP.dsub (FP.dmul 4598175219545276416 (FP.i2d p0)) 4598175219545276416) ∧ vf_n64 (FP.dmul (FP.dmul 4608195728716175770 (FP.dsub (FP.dmul 4598175219545276416 (FP.i2d p0)) 4598175219545276416)) (FP.dsub (FP.dmul 4598175219545276416 (FP.i2d p0)) 4598175219545276416)) ∧ vf_n64 (FP.dmul 4616189618054758400 (FP.dmul (FP.dmul 4608195728716175770 (FP.dsub (FP.dmul 4598175219545276416 (FP.i2d p0)) 4598175219545276416)) (FP.dsub (FP.dmul 4598175219545276416 (FP.i2d p0)) 4598175219545276416))) ∧ vf_n64 (FP.ddiv (S_X3_nearestWhole (FP.dmul 4616189618054758400 (FP.dmul (FP.dmul 4608195728716175770 (FP.dsub (FP.dmul 4598175219545276416 (FP.i2d p0)) 4598175219545276416)) (FP.dsub (FP.dmul 4598175219545276416 (FP.i2d p0)) 4598175219545276416)))) 4616189618054758400)
