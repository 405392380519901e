/-! LAID BY MY PROGRAM wip/gen/p26.py: contracts, method by method -/
def G_X3_addRow_56 (ξ : XS) (σ : JS) (η : YS) (rows : List RD) (ro : RD) (p0 : Int64) (v4_12 : Int64) (k : Nat) (v4_44 : Int64) (kont : Int64 → Int64 × YS) : Nat → Nat → Int64 → Int64 × YS
  | 0, k2, v4_56 => kont v4_56
  | mm2 + 1, k2, v4_56 => G_X3_addRow_56 ξ σ η rows ro p0 v4_12 k v4_44 kont mm2 (k2 + 1) ((v4_56 * 31) + ((S_X1_answerAt ro.2 (nI k) (nI k2)).toInt64))
def G_X3_addRow_44 (ξ : XS) (σ : JS) (η : YS) (rows : List RD) (ro : RD) (p0 : Int64) (v4_12 : Int64) : Nat → Nat → Int64 → Int64 × YS
  | 0, k, v4_44 => ((((v4_44 * 31) + (((S_X3_stepsInto ξ σ η rows ro).1).toInt64)) * 31) + (((S_X3_firstThrowInto ξ σ ((S_X3_stepsInto ξ σ η rows ro).2) rows ro).1).toInt64), (S_X3_firstThrowInto ξ σ ((S_X3_stepsInto ξ σ η rows ro).2) rows ro).2)
  | mm + 1, k, v4_44 => G_X3_addRow_56 ξ σ η rows ro p0 v4_12 k v4_44 (fun v4_56 => G_X3_addRow_44 ξ σ η rows ro p0 v4_12 mm (k + 1) v4_56) 5 0 v4_44
def G_X3_addRow_12 (ξ : XS) (σ : JS) (η : YS) (rows : List RD) (ro : RD) (p0 : Int64) : Nat → Nat → Int64 → Int64 × YS
  | 0, k, v4_12 => G_X3_addRow_44 ξ σ η rows ro p0 v4_12 ((S_X1_length ro.2).toNatClampNeg) 0 v4_12
  | mm + 1, k, v4_12 => G_X3_addRow_12 ξ σ η rows ro p0 mm (k + 1) ((v4_12 * 31) + ((S_X1_answer ro.2 (nI k)).toInt64))
def S_X3_addRow (ξ : XS) (σ : JS) (η : YS) (rows : List RD) (ro : RD) (p0 : Int64) : Int64 × YS := G_X3_addRow_12 ξ σ η rows ro p0 10 0 p0
set_option maxHeartbeats 4000000 in
set_option maxRecDepth 100000 in
theorem c_X3_addRow (l : Launch) (dC : Nat → ClassId) (dI : Nat → Nat → Nat) (cI cR : ClassId) (sz : Nat) (x rw j a1 a2 a3 y b1 b2 b3 : Nat) (ξ : XS) (σ : JS) (η : YS) (rows : List RD) (hCI : p_CI ξ rows) (ro : RD) (hro : ro ∈ rows) (p0 : Int64)  : Met l yX3_addRow wsX3_addRow ({ frames := 6, cells := 0, slots := 0, locals := 129 }) (va_Pc [.ref x, .long p0, .ref ro.1.1] (fun U => U.heap.size = sz ∧ va_P (dC, dI) vwCl (wC cI cR x rw j a1 a2 a3 y b1 b2 b3 ξ σ η rows) U.heap ∧ cE (dC, dI) cI cR U ∧ va_D (fun _ => True) (wC cI cR x rw j a1 a2 a3 y b1 b2 b3 ξ σ η rows))) (va_Ql (fun (r : Int64) (_ : Unit) => r = (S_X3_addRow ξ σ η rows ro p0).1) (fun (_ : Unit) t => va_P (dC, dI) vwCl (wC cI cR x rw j a1 a2 a3 y b1 b2 b3 ξ σ ((S_X3_addRow ξ σ η rows ro p0).2) rows) t.heap ∧ cE (dC, dI) cI cR t ∧ va_D (va_A (wC cI cR x rw j a1 a2 a3 y b1 b2 b3 ξ σ η rows) sz) (wC cI cR x rw j a1 a2 a3 y b1 b2 b3 ξ σ ((S_X3_addRow ξ σ η rows ro p0).2) rows)) (va_A (wC cI cR x rw j a1 a2 a3 y b1 b2 b3 ξ σ η rows) sz)) 0 0 (va_A (wC cI cR x rw j a1 a2 a3 y b1 b2 b3 ξ σ η rows) sz) := by
  refine Met.ofW (cc := cX3_addRow) (maxL := 8) (ret := (some .long)) (by decide) rfl ?_
  intro p e s m args below meth c s₁ B hml hv
  obtain ⟨rfl, hsz, hP, hE, hD0⟩ := hv
  have hK := hE.1
  have hx := B.exec
  have hb := B.bytes
  have hr := B.returns
  have hts := atoms_spec (ws := wsX3_addRow) B.pre
  have hown : s.vm.findClass RX3 = some m.cls := findClass_of_methodNamed B.named
  have hlocks := B.notSynchronized
  subst hsz
  have hD := hD0.self (sz := s.heap.size)
  generalize hAe : va_A (wC cI cR x rw j a1 a2 a3 y b1 b2 b3 ξ σ η rows) s.heap.size = A at hD ⊢
  have hA : ∀ q : Nat, s.heap.size ≤ q → A q := fun q h => by rw [← hAe]; exact Or.inr h
  have hS : va_S A s.heap s.heap [] := va_S.rf
  have hP : va_P (dC, dI) vwCl ([(x, .inr (3, [.ref rw, .ref j, .ref y, .int ξ.2])), (rw, .inl (cR, 8, .inr (.inr (.inr (.inr ξ.1))))), (j, .inr (0, [.ref a1, .ref a2, .ref a3, .int σ.2.2.2.1, .int σ.2.2.2.2.1, .int σ.2.2.2.2.2.1, .int σ.2.2.2.2.2.2.1, .double σ.2.2.2.2.2.2.2])), (a1, .inl (cI, 6, .inl σ.1)), (a2, .inl (cI, 6, .inl σ.2.1)), (a3, .inl (cI, 6, .inl σ.2.2.1)), (y, .inr (2, [.ref b1, .ref b2, .ref b3, .int η.2.2.2])), (b1, .inl (cI, 512, .inl η.1)), (b2, .inl (cI, 512, .inl η.2.1)), (b3, .inl (cI, 512, .inl η.2.2.1))] ++ wRs cI rows) s.heap := hP
  have hD : va_D A ([(x, .inr (3, [.ref rw, .ref j, .ref y, .int ξ.2])), (rw, .inl (cR, 8, .inr (.inr (.inr (.inr ξ.1))))), (j, .inr (0, [.ref a1, .ref a2, .ref a3, .int σ.2.2.2.1, .int σ.2.2.2.2.1, .int σ.2.2.2.2.2.1, .int σ.2.2.2.2.2.2.1, .double σ.2.2.2.2.2.2.2])), (a1, .inl (cI, 6, .inl σ.1)), (a2, .inl (cI, 6, .inl σ.2.1)), (a3, .inl (cI, 6, .inl σ.2.2.1)), (y, .inr (2, [.ref b1, .ref b2, .ref b3, .int η.2.2.2])), (b1, .inl (cI, 512, .inl η.1)), (b2, .inl (cI, 512, .inl η.2.1)), (b3, .inl (cI, 512, .inl η.2.2.1))] ++ wRs cI rows) := hD
  have hl := lv_entry ([.ref x, .long p0, .ref ro.1.1]) (n := 8) (Nat.le_of_ble_eq_true rfl)
  rw [lg_entry_eq]
  generalize (lg_sl ([.ref x, .long p0, .ref ro.1.1]) ++ List.replicate (8 - (lg_sl ([.ref x, .long p0, .ref ro.1.1])).length) Slot.unset).toArray = ls at hl ⊢
  have hl : lv_has ls 8 [(0, .ref x), (1, .long p0), (3, .ref ro.1.1)] := hl
  have q_0 := hts (.constantLong RX3 207 (31)) (by decide +kernel)
  refine lv_aload_n hx hb dX3_addRow_0 rfl (lv_at hl 2 rfl) ?_
  refine lv_ifnonnull (tgt := 6) hx hb dX3_addRow_1 (by decide) ?_
  refine lv_lload_n hx hb dX3_addRow_6 rfl (lv_at hl 1 rfl) ?_
  refine lv_lstore (lv' := [(4, .long p0), (0, .ref x), (1, .long p0), (3, .ref ro.1.1)]) hx hb dX3_addRow_7 hl (by decide) rfl (fun ls hl => ?_)
  refine lv_iconst (v := 0) hx hb dX3_addRow_9 (by decide) ?_
  refine lv_istore (lv' := [(6, .int 0), (4, .long p0), (0, .ref x), (1, .long p0), (3, .ref ro.1.1)]) hx hb dX3_addRow_10 hl (by decide) rfl (fun ls hl => ?_)
  have loop12 : ∀ (mm k : Nat) (v4_12 : Int64) (H : Heap) (locs : List Loc) (ls : Array Slot), k + mm = 10 → G_X3_addRow_12 ξ σ η rows ro p0 mm k v4_12 = S_X3_addRow ξ σ η rows ro p0 → lv_has ls 8 [(6, .int (nI k)), (4, .long v4_12), (0, .ref x), (1, .long p0), (3, .ref ro.1.1)] → va_P (dC, dI) vwCl ([(x, .inr (3, [.ref rw, .ref j, .ref y, .int ξ.2])), (rw, .inl (cR, 8, .inr (.inr (.inr (.inr ξ.1))))), (j, .inr (0, [.ref a1, .ref a2, .ref a3, .int σ.2.2.2.1, .int σ.2.2.2.2.1, .int σ.2.2.2.2.2.1, .int σ.2.2.2.2.2.2.1, .double σ.2.2.2.2.2.2.2])), (a1, .inl (cI, 6, .inl σ.1)), (a2, .inl (cI, 6, .inl σ.2.1)), (a3, .inl (cI, 6, .inl σ.2.2.1)), (y, .inr (2, [.ref b1, .ref b2, .ref b3, .int η.2.2.2])), (b1, .inl (cI, 512, .inl η.1)), (b2, .inl (cI, 512, .inl η.2.1)), (b3, .inl (cI, 512, .inl η.2.2.1))] ++ wRs cI rows) H → va_D A ([(x, .inr (3, [.ref rw, .ref j, .ref y, .int ξ.2])), (rw, .inl (cR, 8, .inr (.inr (.inr (.inr ξ.1))))), (j, .inr (0, [.ref a1, .ref a2, .ref a3, .int σ.2.2.2.1, .int σ.2.2.2.2.1, .int σ.2.2.2.2.2.1, .int σ.2.2.2.2.2.2.1, .double σ.2.2.2.2.2.2.2])), (a1, .inl (cI, 6, .inl σ.1)), (a2, .inl (cI, 6, .inl σ.2.1)), (a3, .inl (cI, 6, .inl σ.2.2.1)), (y, .inr (2, [.ref b1, .ref b2, .ref b3, .int η.2.2.2])), (b1, .inl (cI, 512, .inl η.1)), (b2, .inl (cI, 512, .inl η.2.1)), (b3, .inl (cI, 512, .inl η.2.2.1))] ++ wRs cI rows) → va_S A s.heap H locs → W p l e (headSpec wsX3_addRow ({ frames := 6, cells := 0, slots := 0, locals := 129 })).room s m (([.ref x, .long p0, .ref ro.1.1] : List Value).toArray) below meth c H locs 0 0 (MQ below (va_Ql (fun (r : Int64) (_ : Unit) => r = (S_X3_addRow ξ σ η rows ro p0).1) (fun (_ : Unit) t => va_P (dC, dI) vwCl (wC cI cR x rw j a1 a2 a3 y b1 b2 b3 ξ σ ((S_X3_addRow ξ σ η rows ro p0).2) rows) t.heap ∧ cE (dC, dI) cI cR t ∧ va_D A (wC cI cR x rw j a1 a2 a3 y b1 b2 b3 ξ σ ((S_X3_addRow ξ σ η rows ro p0).2) rows)) A) (([.ref x, .long p0, .ref ro.1.1] : List Value).toArray) s 0 0 A) (F0 m 12 ls []) := by
    intro mm
    induction mm with
    | zero =>
      intro k v4_12 H locs ls hk12 hG12 hl hP hD hS
      refine lv_iload hx hb dX3_addRow_12 (lv_at hl 0 rfl) ?_
      refine lv_bipush (v := 9) hx hb dX3_addRow_14 (by decide) ?_
      refine lv_icmp_gt (tgt := 41) hx hb dX3_addRow_16 (by decide) (fun c_16 => ?_) (fun c_16 => ?_)
      · refine lv_iconst (v := 0) hx hb dX3_addRow_41 (by decide) ?_
        refine lv_istore (lv' := [(6, .int 0), (4, .long v4_12), (0, .ref x), (1, .long p0), (3, .ref ro.1.1)]) hx hb dX3_addRow_42 hl (by decide) rfl (fun ls hl => ?_)
        have hn44 := p_clt (S_X1_length ro.2)
        have loop44 : ∀ (mm k : Nat) (v4_44 : Int64) (H : Heap) (locs : List Loc) (ls : Array Slot), k + mm = (S_X1_length ro.2).toNatClampNeg → G_X3_addRow_44 ξ σ η rows ro p0 v4_12 mm k v4_44 = S_X3_addRow ξ σ η rows ro p0 → lv_has ls 8 [(6, .int (nI k)), (4, .long v4_44), (0, .ref x), (1, .long p0), (3, .ref ro.1.1)] → va_P (dC, dI) vwCl ([(x, .inr (3, [.ref rw, .ref j, .ref y, .int ξ.2])), (rw, .inl (cR, 8, .inr (.inr (.inr (.inr ξ.1))))), (j, .inr (0, [.ref a1, .ref a2, .ref a3, .int σ.2.2.2.1, .int σ.2.2.2.2.1, .int σ.2.2.2.2.2.1, .int σ.2.2.2.2.2.2.1, .double σ.2.2.2.2.2.2.2])), (a1, .inl (cI, 6, .inl σ.1)), (a2, .inl (cI, 6, .inl σ.2.1)), (a3, .inl (cI, 6, .inl σ.2.2.1)), (y, .inr (2, [.ref b1, .ref b2, .ref b3, .int η.2.2.2])), (b1, .inl (cI, 512, .inl η.1)), (b2, .inl (cI, 512, .inl η.2.1)), (b3, .inl (cI, 512, .inl η.2.2.1))] ++ wRs cI rows) H → va_D A ([(x, .inr (3, [.ref rw, .ref j, .ref y, .int ξ.2])), (rw, .inl (cR, 8, .inr (.inr (.inr (.inr ξ.1))))), (j, .inr (0, [.ref a1, .ref a2, .ref a3, .int σ.2.2.2.1, .int σ.2.2.2.2.1, .int σ.2.2.2.2.2.1, .int σ.2.2.2.2.2.2.1, .double σ.2.2.2.2.2.2.2])), (a1, .inl (cI, 6, .inl σ.1)), (a2, .inl (cI, 6, .inl σ.2.1)), (a3, .inl (cI, 6, .inl σ.2.2.1)), (y, .inr (2, [.ref b1, .ref b2, .ref b3, .int η.2.2.2])), (b1, .inl (cI, 512, .inl η.1)), (b2, .inl (cI, 512, .inl η.2.1)), (b3, .inl (cI, 512, .inl η.2.2.1))] ++ wRs cI rows) → va_S A s.heap H locs → W p l e (headSpec wsX3_addRow ({ frames := 6, cells := 0, slots := 0, locals := 129 })).room s m (([.ref x, .long p0, .ref ro.1.1] : List Value).toArray) below meth c H locs 0 0 (MQ below (va_Ql (fun (r : Int64) (_ : Unit) => r = (S_X3_addRow ξ σ η rows ro p0).1) (fun (_ : Unit) t => va_P (dC, dI) vwCl (wC cI cR x rw j a1 a2 a3 y b1 b2 b3 ξ σ ((S_X3_addRow ξ σ η rows ro p0).2) rows) t.heap ∧ cE (dC, dI) cI cR t ∧ va_D A (wC cI cR x rw j a1 a2 a3 y b1 b2 b3 ξ σ ((S_X3_addRow ξ σ η rows ro p0).2) rows)) A) (([.ref x, .long p0, .ref ro.1.1] : List Value).toArray) s 0 0 A) (F0 m 44 ls []) := by
          intro mm
          induction mm with
          | zero =>
            intro k v4_44 H locs ls hk44 hG44 hl hP hD hS
            refine lv_iload hx hb dX3_addRow_44 (lv_at hl 0 rfl) ?_
            refine lv_aload_n hx hb dX3_addRow_46 rfl (lv_at hl 4 rfl) ?_
            refine vp_callSi (va_Run.run (va_runV (As := []) (rest := [.int (nI k)]) ⟨hx, hb, hml, hown, hts⟩ (c_X1_length l dC dI cI cR ro.1.1 ro.1.2.1 ro.1.2.2.1 ro.1.2.2.2.1 ro.1.2.2.2.2.1 ro.1.2.2.2.2.2 ro.2) (cwV 0 hts gX3_addRow_X1_length rfl rfl rfl (by decide +kernel) ⟨Nat.le_of_ble_eq_true rfl, Nat.le_of_ble_eq_true rfl⟩) ⟨fun a U g mk q => by obtain ⟨q0, qP, qE⟩ := q; exact ⟨q0, qP, cE.same (s := U) rfl qE⟩, va_recv hK (p_row hP hro) (ci := 1) (q0 := 0) rfl rfl, fun U hU hW => ⟨rfl, by rw [hU]; exact p_row hP hro, hE.warm hW⟩⟩ rfl rfl hl.1 rfl (lv_room (Nat.le_of_ble_eq_true rfl)) dX3_addRow_47 ⟨Nat.zero_le _, Nat.zero_le _⟩)) (fun r_47 h_47 => ?_)
            subst h_47
            refine lv_icmp_ge (tgt := 92) hx hb dX3_addRow_50 (by decide) (fun c_50 => ?_) (fun c_50 => ?_)
            · refine lv_lload hx hb dX3_addRow_92 (lv_at hl 1 rfl) ?_
              refine lv_ldc2 hx hb hown q_0 dX3_addRow_94 ?_
              refine lv_lmul hx hb dX3_addRow_97 ?_
              refine lv_aload_n hx hb dX3_addRow_98 rfl (lv_at hl 2 rfl) ?_
              refine lv_aload_n hx hb dX3_addRow_99 rfl (lv_at hl 4 rfl) ?_
              have hPc := hP
              have hDc := hD
              have hFc := p_freeT hD hS hA
              refine va_calli (va_runV (As := [.ref ro.1.1]) (rest := [.long (v4_44 * 31)]) ⟨hx, hb, hml, hown, hts⟩ (c_X3_stepsInto l dC dI cI cR _ x rw j a1 a2 a3 y b1 b2 b3 ξ σ η rows hCI ro hro) (cwV 1 hts gX3_addRow_X3_stepsInto rfl rfl rfl (by decide +kernel) ⟨Nat.le_of_ble_eq_true rfl, Nat.le_of_ble_eq_true rfl⟩) ⟨fun a U g mk q => by obtain ⟨q0, q1, qP, qE, qD⟩ := q; exact ⟨q0, q1, qP, cE.same (s := U) rfl qE, qD⟩, va_recv hK hP (ci := 3) (q0 := 0) rfl rfl, fun U hU hW => ⟨rfl, by rw [hU], by rw [hU]; exact hPc, hE.warm hW, hDc.weaken (fun _ _ _ _ => trivial)⟩⟩ rfl rfl hl.1 rfl (lv_room (Nat.le_of_ble_eq_true rfl)) dX3_addRow_100 ⟨Nat.zero_le _, Nat.zero_le _⟩) hS (fun q _ h => hFc q h) hFc (fun r_100 u t H1 locs ht hvm h_100 hB hz1 hk1 hS => ?_)
              obtain ⟨hP1, -, hD1⟩ := hB
              rw [ht] at hP1
              have hP : va_P (dC, dI) vwCl ([(x, .inr (3, [.ref rw, .ref j, .ref y, .int ξ.2])), (rw, .inl (cR, 8, .inr (.inr (.inr (.inr ξ.1))))), (j, .inr (0, [.ref a1, .ref a2, .ref a3, .int σ.2.2.2.1, .int σ.2.2.2.2.1, .int σ.2.2.2.2.2.1, .int σ.2.2.2.2.2.2.1, .double σ.2.2.2.2.2.2.2])), (a1, .inl (cI, 6, .inl σ.1)), (a2, .inl (cI, 6, .inl σ.2.1)), (a3, .inl (cI, 6, .inl σ.2.2.1)), (y, .inr (2, [.ref b1, .ref b2, .ref b3, .int (((S_X3_stepsInto ξ σ η rows ro).2).2.2.2)])), (b1, .inl (cI, 512, .inl (((S_X3_stepsInto ξ σ η rows ro).2).1))), (b2, .inl (cI, 512, .inl (((S_X3_stepsInto ξ σ η rows ro).2).2.1))), (b3, .inl (cI, 512, .inl (((S_X3_stepsInto ξ σ η rows ro).2).2.2.1)))] ++ wRs cI rows) H1 := hP1
              have hD : va_D A ([(x, .inr (3, [.ref rw, .ref j, .ref y, .int ξ.2])), (rw, .inl (cR, 8, .inr (.inr (.inr (.inr ξ.1))))), (j, .inr (0, [.ref a1, .ref a2, .ref a3, .int σ.2.2.2.1, .int σ.2.2.2.2.1, .int σ.2.2.2.2.2.1, .int σ.2.2.2.2.2.2.1, .double σ.2.2.2.2.2.2.2])), (a1, .inl (cI, 6, .inl σ.1)), (a2, .inl (cI, 6, .inl σ.2.1)), (a3, .inl (cI, 6, .inl σ.2.2.1)), (y, .inr (2, [.ref b1, .ref b2, .ref b3, .int (((S_X3_stepsInto ξ σ η rows ro).2).2.2.2)])), (b1, .inl (cI, 512, .inl (((S_X3_stepsInto ξ σ η rows ro).2).1))), (b2, .inl (cI, 512, .inl (((S_X3_stepsInto ξ σ η rows ro).2).2.1))), (b3, .inl (cI, 512, .inl (((S_X3_stepsInto ξ σ η rows ro).2).2.2.1)))] ++ wRs cI rows) := hD1.weaken (fun _ q _ h => hFc q.1 h)
              subst h_100
              clear hPc hDc hP1 hD1 hk1 hFc hz1 ht hvm
              generalize H1 = H at hP hS ⊢
              refine lv_i2l hx hb dX3_addRow_103 rfl ?_
              refine lv_ladd hx hb dX3_addRow_104 ?_
              refine lv_lstore (lv' := [(4, .long ((v4_44 * 31) + (((S_X3_stepsInto ξ σ η rows ro).1).toInt64))), (6, .int (nI k)), (0, .ref x), (1, .long p0), (3, .ref ro.1.1)]) hx hb dX3_addRow_105 hl (by decide) rfl (fun ls hl => ?_)
              refine lv_lload hx hb dX3_addRow_107 (lv_at hl 0 rfl) ?_
              refine lv_ldc2 hx hb hown q_0 dX3_addRow_109 ?_
              refine lv_lmul hx hb dX3_addRow_112 ?_
              refine lv_aload_n hx hb dX3_addRow_113 rfl (lv_at hl 2 rfl) ?_
              refine lv_aload_n hx hb dX3_addRow_114 rfl (lv_at hl 4 rfl) ?_
              have hPc := hP
              have hDc := hD
              have hFc := p_freeT hD hS hA
              refine va_calli (va_runV (As := [.ref ro.1.1]) (rest := [.long (((v4_44 * 31) + (((S_X3_stepsInto ξ σ η rows ro).1).toInt64)) * 31)]) ⟨hx, hb, hml, hown, hts⟩ (c_X3_firstThrowInto l dC dI cI cR _ x rw j a1 a2 a3 y b1 b2 b3 ξ σ ((S_X3_stepsInto ξ σ η rows ro).2) rows hCI ro hro) (cwV 1 hts gX3_addRow_X3_firstThrowInto rfl rfl rfl (by decide +kernel) ⟨Nat.le_of_ble_eq_true rfl, Nat.le_of_ble_eq_true rfl⟩) ⟨fun a U g mk q => by obtain ⟨q0, q1, qP, qE, qD⟩ := q; exact ⟨q0, q1, qP, cE.same (s := U) rfl qE, qD⟩, va_recv hK hP (ci := 3) (q0 := 0) rfl rfl, fun U hU hW => ⟨rfl, by rw [hU], by rw [hU]; exact hPc, hE.warm hW, hDc.weaken (fun _ _ _ _ => trivial)⟩⟩ rfl rfl hl.1 rfl (lv_room (Nat.le_of_ble_eq_true rfl)) dX3_addRow_115 ⟨Nat.zero_le _, Nat.zero_le _⟩) hS (fun q _ h => hFc q h) hFc (fun r_115 u t H1 locs ht hvm h_115 hB hz1 hk1 hS => ?_)
              obtain ⟨hP1, -, hD1⟩ := hB
              rw [ht] at hP1
              have hP : va_P (dC, dI) vwCl ([(x, .inr (3, [.ref rw, .ref j, .ref y, .int ξ.2])), (rw, .inl (cR, 8, .inr (.inr (.inr (.inr ξ.1))))), (j, .inr (0, [.ref a1, .ref a2, .ref a3, .int σ.2.2.2.1, .int σ.2.2.2.2.1, .int σ.2.2.2.2.2.1, .int σ.2.2.2.2.2.2.1, .double σ.2.2.2.2.2.2.2])), (a1, .inl (cI, 6, .inl σ.1)), (a2, .inl (cI, 6, .inl σ.2.1)), (a3, .inl (cI, 6, .inl σ.2.2.1)), (y, .inr (2, [.ref b1, .ref b2, .ref b3, .int (((S_X3_firstThrowInto ξ σ ((S_X3_stepsInto ξ σ η rows ro).2) rows ro).2).2.2.2)])), (b1, .inl (cI, 512, .inl (((S_X3_firstThrowInto ξ σ ((S_X3_stepsInto ξ σ η rows ro).2) rows ro).2).1))), (b2, .inl (cI, 512, .inl (((S_X3_firstThrowInto ξ σ ((S_X3_stepsInto ξ σ η rows ro).2) rows ro).2).2.1))), (b3, .inl (cI, 512, .inl (((S_X3_firstThrowInto ξ σ ((S_X3_stepsInto ξ σ η rows ro).2) rows ro).2).2.2.1)))] ++ wRs cI rows) H1 := hP1
              have hD : va_D A ([(x, .inr (3, [.ref rw, .ref j, .ref y, .int ξ.2])), (rw, .inl (cR, 8, .inr (.inr (.inr (.inr ξ.1))))), (j, .inr (0, [.ref a1, .ref a2, .ref a3, .int σ.2.2.2.1, .int σ.2.2.2.2.1, .int σ.2.2.2.2.2.1, .int σ.2.2.2.2.2.2.1, .double σ.2.2.2.2.2.2.2])), (a1, .inl (cI, 6, .inl σ.1)), (a2, .inl (cI, 6, .inl σ.2.1)), (a3, .inl (cI, 6, .inl σ.2.2.1)), (y, .inr (2, [.ref b1, .ref b2, .ref b3, .int (((S_X3_firstThrowInto ξ σ ((S_X3_stepsInto ξ σ η rows ro).2) rows ro).2).2.2.2)])), (b1, .inl (cI, 512, .inl (((S_X3_firstThrowInto ξ σ ((S_X3_stepsInto ξ σ η rows ro).2) rows ro).2).1))), (b2, .inl (cI, 512, .inl (((S_X3_firstThrowInto ξ σ ((S_X3_stepsInto ξ σ η rows ro).2) rows ro).2).2.1))), (b3, .inl (cI, 512, .inl (((S_X3_firstThrowInto ξ σ ((S_X3_stepsInto ξ σ η rows ro).2) rows ro).2).2.2.1)))] ++ wRs cI rows) := hD1.weaken (fun _ q _ h => hFc q.1 h)
              subst h_115
              clear hPc hDc hP1 hD1 hk1 hFc hz1 ht hvm
              generalize H1 = H at hP hS ⊢
              refine lv_i2l hx hb dX3_addRow_118 rfl ?_
              refine lv_ladd hx hb dX3_addRow_119 ?_
              have e9 : S_X3_addRow ξ σ η rows ro p0 = ((((v4_44 * 31) + (((S_X3_stepsInto ξ σ η rows ro).1).toInt64)) * 31) + (((S_X3_firstThrowInto ξ σ ((S_X3_stepsInto ξ σ η rows ro).2) rows ro).1).toInt64), (S_X3_firstThrowInto ξ σ ((S_X3_stepsInto ξ σ η rows ro).2) rows ro).2) := by rw [← hG44]; simp only [G_X3_addRow_44]
              exact W.lret (v := ((((v4_44 * 31) + (((S_X3_stepsInto ξ σ η rows ro).1).toInt64)) * 31) + (((S_X3_firstThrowInto ξ σ ((S_X3_stepsInto ξ σ η rows ro).2) rows ro).1).toInt64))) hx hb hr (fun t ht hW => ⟨⟨((((v4_44 * 31) + (((S_X3_stepsInto ξ σ η rows ro).1).toInt64)) * 31) + (((S_X3_firstThrowInto ξ σ ((S_X3_stepsInto ξ σ η rows ro).2) rows ro).1).toInt64)), (), rfl, by rw [e9], by rw [ht, e9]; exact hP, hE.warm hW, by rw [e9]; exact hD⟩, hS.F ht⟩) hS.2.2 dX3_addRow_120
            · exact absurd ((p_le (by omega)).mpr (by omega)) c_50
          | succ mm ih44 =>
            intro k v4_44 H locs ls hk44 hG44 hl hP hD hS
            refine lv_iload hx hb dX3_addRow_44 (lv_at hl 0 rfl) ?_
            refine lv_aload_n hx hb dX3_addRow_46 rfl (lv_at hl 4 rfl) ?_
            refine vp_callSi (va_Run.run (va_runV (As := []) (rest := [.int (nI k)]) ⟨hx, hb, hml, hown, hts⟩ (c_X1_length l dC dI cI cR ro.1.1 ro.1.2.1 ro.1.2.2.1 ro.1.2.2.2.1 ro.1.2.2.2.2.1 ro.1.2.2.2.2.2 ro.2) (cwV 0 hts gX3_addRow_X1_length rfl rfl rfl (by decide +kernel) ⟨Nat.le_of_ble_eq_true rfl, Nat.le_of_ble_eq_true rfl⟩) ⟨fun a U g mk q => by obtain ⟨q0, qP, qE⟩ := q; exact ⟨q0, qP, cE.same (s := U) rfl qE⟩, va_recv hK (p_row hP hro) (ci := 1) (q0 := 0) rfl rfl, fun U hU hW => ⟨rfl, by rw [hU]; exact p_row hP hro, hE.warm hW⟩⟩ rfl rfl hl.1 rfl (lv_room (Nat.le_of_ble_eq_true rfl)) dX3_addRow_47 ⟨Nat.zero_le _, Nat.zero_le _⟩)) (fun r_47 h_47 => ?_)
            subst h_47
            refine lv_icmp_ge (tgt := 92) hx hb dX3_addRow_50 (by decide) (fun c_50 => ?_) (fun c_50 => ?_)
            · exact absurd ((p_le (by omega)).mp c_50) (by omega)
            · refine lv_iconst (v := 0) hx hb dX3_addRow_53 (by decide) ?_
              refine lv_istore (lv' := [(7, .int 0), (6, .int (nI k)), (4, .long v4_44), (0, .ref x), (1, .long p0), (3, .ref ro.1.1)]) hx hb dX3_addRow_54 hl (by decide) rfl (fun ls hl => ?_)
              have loop56 : ∀ (mm2 k2 : Nat) (v4_56 : Int64) (H : Heap) (locs : List Loc) (ls : Array Slot), k2 + mm2 = 5 → G_X3_addRow_56 ξ σ η rows ro p0 v4_12 k v4_44 (fun v4_56 => G_X3_addRow_44 ξ σ η rows ro p0 v4_12 mm (k + 1) v4_56) mm2 k2 v4_56 = S_X3_addRow ξ σ η rows ro p0 → lv_has ls 8 [(7, .int (nI k2)), (6, .int (nI k)), (4, .long v4_56), (0, .ref x), (1, .long p0), (3, .ref ro.1.1)] → va_P (dC, dI) vwCl ([(x, .inr (3, [.ref rw, .ref j, .ref y, .int ξ.2])), (rw, .inl (cR, 8, .inr (.inr (.inr (.inr ξ.1))))), (j, .inr (0, [.ref a1, .ref a2, .ref a3, .int σ.2.2.2.1, .int σ.2.2.2.2.1, .int σ.2.2.2.2.2.1, .int σ.2.2.2.2.2.2.1, .double σ.2.2.2.2.2.2.2])), (a1, .inl (cI, 6, .inl σ.1)), (a2, .inl (cI, 6, .inl σ.2.1)), (a3, .inl (cI, 6, .inl σ.2.2.1)), (y, .inr (2, [.ref b1, .ref b2, .ref b3, .int η.2.2.2])), (b1, .inl (cI, 512, .inl η.1)), (b2, .inl (cI, 512, .inl η.2.1)), (b3, .inl (cI, 512, .inl η.2.2.1))] ++ wRs cI rows) H → va_D A ([(x, .inr (3, [.ref rw, .ref j, .ref y, .int ξ.2])), (rw, .inl (cR, 8, .inr (.inr (.inr (.inr ξ.1))))), (j, .inr (0, [.ref a1, .ref a2, .ref a3, .int σ.2.2.2.1, .int σ.2.2.2.2.1, .int σ.2.2.2.2.2.1, .int σ.2.2.2.2.2.2.1, .double σ.2.2.2.2.2.2.2])), (a1, .inl (cI, 6, .inl σ.1)), (a2, .inl (cI, 6, .inl σ.2.1)), (a3, .inl (cI, 6, .inl σ.2.2.1)), (y, .inr (2, [.ref b1, .ref b2, .ref b3, .int η.2.2.2])), (b1, .inl (cI, 512, .inl η.1)), (b2, .inl (cI, 512, .inl η.2.1)), (b3, .inl (cI, 512, .inl η.2.2.1))] ++ wRs cI rows) → va_S A s.heap H locs → W p l e (headSpec wsX3_addRow ({ frames := 6, cells := 0, slots := 0, locals := 129 })).room s m (([.ref x, .long p0, .ref ro.1.1] : List Value).toArray) below meth c H locs 0 0 (MQ below (va_Ql (fun (r : Int64) (_ : Unit) => r = (S_X3_addRow ξ σ η rows ro p0).1) (fun (_ : Unit) t => va_P (dC, dI) vwCl (wC cI cR x rw j a1 a2 a3 y b1 b2 b3 ξ σ ((S_X3_addRow ξ σ η rows ro p0).2) rows) t.heap ∧ cE (dC, dI) cI cR t ∧ va_D A (wC cI cR x rw j a1 a2 a3 y b1 b2 b3 ξ σ ((S_X3_addRow ξ σ η rows ro p0).2) rows)) A) (([.ref x, .long p0, .ref ro.1.1] : List Value).toArray) s 0 0 A) (F0 m 56 ls []) := by
                intro mm2
                induction mm2 with
                | zero =>
                  intro k2 v4_56 H locs ls hk56 hG56 hl hP hD hS
                  refine lv_iload hx hb dX3_addRow_56 (lv_at hl 0 rfl) ?_
                  refine lv_iconst (v := 4) hx hb dX3_addRow_58 (by decide) ?_
                  refine lv_icmp_gt (tgt := 86) hx hb dX3_addRow_59 (by decide) (fun c_59 => ?_) (fun c_59 => ?_)
                  · refine lv_iinc (v := nI (k + 1)) (lv' := [(6, .int (nI (k + 1))), (7, .int (nI k2)), (4, .long v4_56), (0, .ref x), (1, .long p0), (3, .ref ro.1.1)]) hx hb dX3_addRow_86 hl (k := 1) rfl ((nI_succ _).symm) (by decide) rfl (fun ls hl => ?_)
                    refine lv_goto (tgt := 44) hx hb dX3_addRow_89 (by decide) ?_
                    exact ih44 (k + 1) v4_56 _ _ ls (by omega) (by rw [← hG56]; simp only [G_X3_addRow_56]) (lv_sub hl [0, 2, 3, 4, 5] rfl) hP hD hS
                  · exact absurd (nI_lt (a := 4) (by omega) (by omega)) c_59
                | succ mm2 ih56 =>
                  intro k2 v4_56 H locs ls hk56 hG56 hl hP hD hS
                  refine lv_iload hx hb dX3_addRow_56 (lv_at hl 0 rfl) ?_
                  refine lv_iconst (v := 4) hx hb dX3_addRow_58 (by decide) ?_
                  refine lv_icmp_gt (tgt := 86) hx hb dX3_addRow_59 (by decide) (fun c_59 => ?_) (fun c_59 => ?_)
                  · exact absurd c_59 (nI_nlt (a := 4) (by omega) (by decide))
                  · refine lv_lload hx hb dX3_addRow_62 (lv_at hl 2 rfl) ?_
                    refine lv_ldc2 hx hb hown q_0 dX3_addRow_64 ?_
                    refine lv_lmul hx hb dX3_addRow_67 ?_
                    refine lv_aload_n hx hb dX3_addRow_68 rfl (lv_at hl 5 rfl) ?_
                    refine lv_iload hx hb dX3_addRow_69 (lv_at hl 1 rfl) ?_
                    refine lv_iload hx hb dX3_addRow_71 (lv_at hl 0 rfl) ?_
                    refine vp_callSi (va_Run.run (va_runV (As := [.int (nI k), .int (nI k2)]) (rest := [.long (v4_56 * 31)]) ⟨hx, hb, hml, hown, hts⟩ (c_X1_answerAt l dC dI cI cR ro.1.1 ro.1.2.1 ro.1.2.2.1 ro.1.2.2.2.1 ro.1.2.2.2.2.1 ro.1.2.2.2.2.2 ro.2 (nI k) (nI k2)) (cwV 2 hts gX3_addRow_X1_answerAt rfl rfl rfl (by decide +kernel) ⟨Nat.le_of_ble_eq_true rfl, Nat.le_of_ble_eq_true rfl⟩) ⟨fun a U g mk q => by obtain ⟨q0, qP, qE⟩ := q; exact ⟨q0, qP, cE.same (s := U) rfl qE⟩, va_recv hK (p_row hP hro) (ci := 1) (q0 := 0) rfl rfl, fun U hU hW => ⟨rfl, by rw [hU]; exact p_row hP hro, hE.warm hW⟩⟩ rfl rfl hl.1 rfl (lv_room (Nat.le_of_ble_eq_true rfl)) dX3_addRow_73 ⟨Nat.zero_le _, Nat.zero_le _⟩)) (fun r_73 h_73 => ?_)
                    subst h_73
                    refine lv_i2l hx hb dX3_addRow_76 rfl ?_
                    refine lv_ladd hx hb dX3_addRow_77 ?_
                    refine lv_lstore (lv' := [(4, .long ((v4_56 * 31) + ((S_X1_answerAt ro.2 (nI k) (nI k2)).toInt64))), (7, .int (nI k2)), (6, .int (nI k)), (0, .ref x), (1, .long p0), (3, .ref ro.1.1)]) hx hb dX3_addRow_78 hl (by decide) rfl (fun ls hl => ?_)
                    refine lv_iinc (v := nI (k2 + 1)) (lv' := [(7, .int (nI (k2 + 1))), (4, .long ((v4_56 * 31) + ((S_X1_answerAt ro.2 (nI k) (nI k2)).toInt64))), (6, .int (nI k)), (0, .ref x), (1, .long p0), (3, .ref ro.1.1)]) hx hb dX3_addRow_80 hl (k := 1) rfl ((nI_succ _).symm) (by decide) rfl (fun ls hl => ?_)
                    refine lv_goto (tgt := 56) hx hb dX3_addRow_83 (by decide) ?_
                    exact ih56 (k2 + 1) ((v4_56 * 31) + ((S_X1_answerAt ro.2 (nI k) (nI k2)).toInt64)) _ _ ls (by omega) (by rw [← hG56]; simp only [G_X3_addRow_56]) (lv_sub hl [0, 2, 1, 3, 4, 5] rfl) hP hD hS
              exact loop56 5 0 v4_44 _ _ ls (by omega) (by rw [← hG44]; simp only [G_X3_addRow_44]) (lv_sub hl [0, 1, 2, 3, 4, 5] rfl) hP hD hS
        exact loop44 ((S_X1_length ro.2).toNatClampNeg) 0 v4_12 _ _ ls (by omega) (by rw [← hG12]; simp only [G_X3_addRow_12]) (lv_sub hl [0, 1, 2, 3, 4] rfl) hP hD hS
      · exact absurd (p_9 (by omega) (by omega)) c_16
    | succ mm ih12 =>
      intro k v4_12 H locs ls hk12 hG12 hl hP hD hS
      refine lv_iload hx hb dX3_addRow_12 (lv_at hl 0 rfl) ?_
      refine lv_bipush (v := 9) hx hb dX3_addRow_14 (by decide) ?_
      refine lv_icmp_gt (tgt := 41) hx hb dX3_addRow_16 (by decide) (fun c_16 => ?_) (fun c_16 => ?_)
      · exact absurd c_16 (p_9n (by omega))
      · refine lv_lload hx hb dX3_addRow_19 (lv_at hl 1 rfl) ?_
        refine lv_ldc2 hx hb hown q_0 dX3_addRow_21 ?_
        refine lv_lmul hx hb dX3_addRow_24 ?_
        refine lv_aload_n hx hb dX3_addRow_25 rfl (lv_at hl 4 rfl) ?_
        refine lv_iload hx hb dX3_addRow_26 (lv_at hl 0 rfl) ?_
        refine vp_callSi (va_Run.run (va_runV (As := [.int (nI k)]) (rest := [.long (v4_12 * 31)]) ⟨hx, hb, hml, hown, hts⟩ (c_X1_answer l dC dI cI cR ro.1.1 ro.1.2.1 ro.1.2.2.1 ro.1.2.2.2.1 ro.1.2.2.2.2.1 ro.1.2.2.2.2.2 ro.2 (nI k) (hCI.2.2.2 _ hro).1) (cwV 1 hts gX3_addRow_X1_answer rfl rfl rfl (by decide +kernel) ⟨Nat.le_of_ble_eq_true rfl, Nat.le_of_ble_eq_true rfl⟩) ⟨fun a U g mk q => by obtain ⟨q0, qP, qE⟩ := q; exact ⟨q0, qP, cE.same (s := U) rfl qE⟩, va_recv hK (p_row hP hro) (ci := 1) (q0 := 0) rfl rfl, fun U hU hW => ⟨rfl, by rw [hU]; exact p_row hP hro, hE.warm hW⟩⟩ rfl rfl hl.1 rfl (lv_room (Nat.le_of_ble_eq_true rfl)) dX3_addRow_28 ⟨Nat.zero_le _, Nat.zero_le _⟩)) (fun r_28 h_28 => ?_)
        subst h_28
        refine lv_i2l hx hb dX3_addRow_31 rfl ?_
        refine lv_ladd hx hb dX3_addRow_32 ?_
        refine lv_lstore (lv' := [(4, .long ((v4_12 * 31) + ((S_X1_answer ro.2 (nI k)).toInt64))), (6, .int (nI k)), (0, .ref x), (1, .long p0), (3, .ref ro.1.1)]) hx hb dX3_addRow_33 hl (by decide) rfl (fun ls hl => ?_)
        refine lv_iinc (v := nI (k + 1)) (lv' := [(6, .int (nI (k + 1))), (4, .long ((v4_12 * 31) + ((S_X1_answer ro.2 (nI k)).toInt64))), (0, .ref x), (1, .long p0), (3, .ref ro.1.1)]) hx hb dX3_addRow_35 hl (k := 1) rfl ((nI_succ _).symm) (by decide) rfl (fun ls hl => ?_)
        refine lv_goto (tgt := 12) hx hb dX3_addRow_38 (by decide) ?_
        exact ih12 (k + 1) ((v4_12 * 31) + ((S_X1_answer ro.2 (nI k)).toInt64)) _ _ ls (by omega) (by rw [← hG12]; simp only [G_X3_addRow_12]) (lv_sub hl [0, 1, 2, 3, 4] rfl) hP hD hS
  exact loop12 10 0 p0 _ _ ls (by omega) (by simp only [S_X3_addRow]) (lv_sub hl [0, 1, 2, 3, 4] rfl) hP hD hS
def G_X3_digest_112 (ξ : XS) (σ : JS) (η : YS) (rows : List RD) (v1_6 : Int64) (v1_33 : Int64) (g2_0_33 : Nat → Int32) (g2_1_33 : Nat → Int32) (g2_2_33 : Nat → Int32) (g2_3_33 : Int32) (v1_60 : Int64) : Nat → Nat → Int64 → Int64 × YS
  | 0, k, v1_112 => ((v1_112 * 31) + (FP.d2l (FP.dmul 4620693217682128896 (S_X0_tiredness σ))), (g2_0_33, g2_1_33, g2_2_33, g2_3_33))
  | mm + 1, k, v1_112 => G_X3_digest_112 ξ σ η rows v1_6 v1_33 g2_0_33 g2_1_33 g2_2_33 g2_3_33 v1_60 mm (k + 1) ((v1_112 * 31) + ((S_X3_stateBehind (S_X0_state σ) (nI k)).toInt64))
def G_X3_digest_74 (ξ : XS) (σ : JS) (η : YS) (rows : List RD) (v1_6 : Int64) (v1_33 : Int64) (g2_0_33 : Nat → Int32) (g2_1_33 : Nat → Int32) (g2_2_33 : Nat → Int32) (g2_3_33 : Int32) (k : Nat) (v1_60 : Int64) (kont : Int64 → Int64 × YS) : Nat → Nat → Int64 → Int64 × YS
  | 0, k2, v1_74 => kont v1_74
  | mm2 + 1, k2, v1_74 => G_X3_digest_74 ξ σ η rows v1_6 v1_33 g2_0_33 g2_1_33 g2_2_33 g2_3_33 k v1_60 kont mm2 (k2 + 1) ((v1_74 * 31) + ((S_X0_answerOf σ (nI k) (nI k2)).toInt64))
def G_X3_digest_60 (ξ : XS) (σ : JS) (η : YS) (rows : List RD) (v1_6 : Int64) (v1_33 : Int64) (g2_0_33 : Nat → Int32) (g2_1_33 : Nat → Int32) (g2_2_33 : Nat → Int32) (g2_3_33 : Int32) : Nat → Nat → Int64 → Int64 × YS
  | 0, k, v1_60 => G_X3_digest_112 ξ σ η rows v1_6 v1_33 g2_0_33 g2_1_33 g2_2_33 g2_3_33 v1_60 10 0 v1_60
  | mm + 1, k, v1_60 => G_X3_digest_74 ξ σ η rows v1_6 v1_33 g2_0_33 g2_1_33 g2_2_33 g2_3_33 k v1_60 (fun v1_74 => G_X3_digest_60 ξ σ η rows v1_6 v1_33 g2_0_33 g2_1_33 g2_2_33 g2_3_33 mm (k + 1) v1_74) 4 0 v1_60
def G_X3_digest_33 (ξ : XS) (σ : JS) (η : YS) (rows : List RD) (v1_6 : Int64) : Nat → Nat → Int64 → (Nat → Int32) → (Nat → Int32) → (Nat → Int32) → Int32 → Int64 × YS
  | 0, k, v1_33, g2_0_33, g2_1_33, g2_2_33, g2_3_33 => G_X3_digest_60 ξ σ η rows v1_6 v1_33 g2_0_33 g2_1_33 g2_2_33 g2_3_33 ((S_X0_props σ).toNatClampNeg) 0 v1_33
  | mm + 1, k, v1_33, g2_0_33, g2_1_33, g2_2_33, g2_3_33 => G_X3_digest_33 ξ σ η rows v1_6 mm (k + 1) ((S_X3_addRow ξ σ (g2_0_33, g2_1_33, g2_2_33, g2_3_33) rows (rw_ rows k) v1_33).1) (((S_X3_addRow ξ σ (g2_0_33, g2_1_33, g2_2_33, g2_3_33) rows (rw_ rows k) v1_33).2).1) (((S_X3_addRow ξ σ (g2_0_33, g2_1_33, g2_2_33, g2_3_33) rows (rw_ rows k) v1_33).2).2.1) (((S_X3_addRow ξ σ (g2_0_33, g2_1_33, g2_2_33, g2_3_33) rows (rw_ rows k) v1_33).2).2.2.1) (((S_X3_addRow ξ σ (g2_0_33, g2_1_33, g2_2_33, g2_3_33) rows (rw_ rows k) v1_33).2).2.2.2)
def G_X3_digest_6 (ξ : XS) (σ : JS) (η : YS) (rows : List RD) : Nat → Nat → Int64 → Int64 × YS
  | 0, k, v1_6 => G_X3_digest_33 ξ σ η rows v1_6 rows.length 0 v1_6 η.1 η.2.1 η.2.2.1 η.2.2.2
  | mm + 1, k, v1_6 => G_X3_digest_6 ξ σ η rows mm (k + 1) ((v1_6 * 31) + ((S_X3_howMany ξ σ η rows (nI k)).toInt64))
def S_X3_digest (ξ : XS) (σ : JS) (η : YS) (rows : List RD) : Int64 × YS := G_X3_digest_6 ξ σ η rows 10 0 58305
set_option maxHeartbeats 4000000 in
set_option maxRecDepth 100000 in
theorem c_X3_digest (l : Launch) (dC : Nat → ClassId) (dI : Nat → Nat → Nat) (cI cR : ClassId) (sz : Nat) (x rw j a1 a2 a3 y b1 b2 b3 : Nat) (ξ : XS) (σ : JS) (η : YS) (rows : List RD) (hCI : p_CI ξ rows)  (hn158 : vf_n64 (FP.dmul 4620693217682128896 (S_X0_tiredness σ))) : Met l yX3_digest wsX3_digest ({ frames := 7, cells := 0, slots := 0, locals := 156 }) (va_Pc [.ref x] (fun U => U.heap.size = sz ∧ va_P (dC, dI) vwCl (wC cI cR x rw j a1 a2 a3 y b1 b2 b3 ξ σ η rows) U.heap ∧ cE (dC, dI) cI cR U ∧ va_D (fun _ => True) (wC cI cR x rw j a1 a2 a3 y b1 b2 b3 ξ σ η rows))) (va_Ql (fun (r : Int64) (_ : Unit) => r = (S_X3_digest ξ σ η rows).1) (fun (_ : Unit) t => va_P (dC, dI) vwCl (wC cI cR x rw j a1 a2 a3 y b1 b2 b3 ξ σ ((S_X3_digest ξ σ η rows).2) rows) t.heap ∧ cE (dC, dI) cI cR t ∧ va_D (va_A (wC cI cR x rw j a1 a2 a3 y b1 b2 b3 ξ σ η rows) sz) (wC cI cR x rw j a1 a2 a3 y b1 b2 b3 ξ σ ((S_X3_digest ξ σ η rows).2) rows)) (va_A (wC cI cR x rw j a1 a2 a3 y b1 b2 b3 ξ σ η rows) sz)) 0 0 (va_A (wC cI cR x rw j a1 a2 a3 y b1 b2 b3 ξ σ η rows) sz) := by
  refine Met.ofW (cc := cX3_digest) (maxL := 5) (ret := (some .long)) (by decide) rfl ?_
  intro p e s m args below meth c s₁ B hml hv
  obtain ⟨rfl, hsz, hP, hE, hD0⟩ := hv
  have hK := hE.1
  have hx := B.exec
  have hb := B.bytes
  have hr := B.returns
  have hts := atoms_spec (ws := wsX3_digest) B.pre
  have hown : s.vm.findClass RX3 = some m.cls := findClass_of_methodNamed B.named
  have hlocks := B.notSynchronized
  subst hsz
  have hD := hD0.self (sz := s.heap.size)
  generalize hAe : va_A (wC cI cR x rw j a1 a2 a3 y b1 b2 b3 ξ σ η rows) s.heap.size = A at hD ⊢
  have hA : ∀ q : Nat, s.heap.size ≤ q → A q := fun q h => by rw [← hAe]; exact Or.inr h
  have hS : va_S A s.heap s.heap [] := va_S.rf
  have hP : va_P (dC, dI) vwCl ([(x, .inr (3, [.ref rw, .ref j, .ref y, .int ξ.2])), (rw, .inl (cR, 8, .inr (.inr (.inr (.inr ξ.1))))), (j, .inr (0, [.ref a1, .ref a2, .ref a3, .int σ.2.2.2.1, .int σ.2.2.2.2.1, .int σ.2.2.2.2.2.1, .int σ.2.2.2.2.2.2.1, .double σ.2.2.2.2.2.2.2])), (a1, .inl (cI, 6, .inl σ.1)), (a2, .inl (cI, 6, .inl σ.2.1)), (a3, .inl (cI, 6, .inl σ.2.2.1)), (y, .inr (2, [.ref b1, .ref b2, .ref b3, .int η.2.2.2])), (b1, .inl (cI, 512, .inl η.1)), (b2, .inl (cI, 512, .inl η.2.1)), (b3, .inl (cI, 512, .inl η.2.2.1))] ++ wRs cI rows) s.heap := hP
  have hD : va_D A ([(x, .inr (3, [.ref rw, .ref j, .ref y, .int ξ.2])), (rw, .inl (cR, 8, .inr (.inr (.inr (.inr ξ.1))))), (j, .inr (0, [.ref a1, .ref a2, .ref a3, .int σ.2.2.2.1, .int σ.2.2.2.2.1, .int σ.2.2.2.2.2.1, .int σ.2.2.2.2.2.2.1, .double σ.2.2.2.2.2.2.2])), (a1, .inl (cI, 6, .inl σ.1)), (a2, .inl (cI, 6, .inl σ.2.1)), (a3, .inl (cI, 6, .inl σ.2.2.1)), (y, .inr (2, [.ref b1, .ref b2, .ref b3, .int η.2.2.2])), (b1, .inl (cI, 512, .inl η.1)), (b2, .inl (cI, 512, .inl η.2.1)), (b3, .inl (cI, 512, .inl η.2.2.1))] ++ wRs cI rows) := hD
  have hl := lv_entry ([.ref x]) (n := 5) (Nat.le_of_ble_eq_true rfl)
  rw [lg_entry_eq]
  generalize (lg_sl ([.ref x]) ++ List.replicate (5 - (lg_sl ([.ref x])).length) Slot.unset).toArray = ls at hl ⊢
  have hl : lv_has ls 5 [(0, .ref x)] := hl
  have q_0 := hts (.constantLong RX3 205 (58305)) (by decide +kernel)
  have q_1 := hts (.fieldLink RX3 29 "Cascadecourt" "rowsTold" "I") (by decide +kernel)
  have in_X3 : ∀ w ∈ wsX30, w ∈ wsX3_digest := by decide +kernel
  have q_2 := hts (.fieldLink RX3 18 "Cascadecourt" "juggler" "LCascadecourt$Juggler;") (by decide +kernel)
  have q_3 := hts (.constantLong RX3 207 (31)) (by decide +kernel)
  have q_4 := hts (.constantDouble RX3 216 (4620693217682128896)) (by decide +kernel)
  refine lv_ldc2 hx hb hown q_0 dX3_digest_0 ?_
  refine lv_lstore_n (lv' := [(1, .long 58305), (0, .ref x)]) hx hb dX3_digest_3 rfl hl (by decide) rfl (fun ls hl => ?_)
  refine lv_iconst (v := 0) hx hb dX3_digest_4 (by decide) ?_
  refine lv_istore_n (lv' := [(3, .int 0), (1, .long 58305), (0, .ref x)]) hx hb dX3_digest_5 rfl hl (by decide) rfl (fun ls hl => ?_)
  have loop6 : ∀ (mm k : Nat) (v1_6 : Int64) (H : Heap) (locs : List Loc) (ls : Array Slot), k + mm = 10 → G_X3_digest_6 ξ σ η rows mm k v1_6 = S_X3_digest ξ σ η rows → lv_has ls 5 [(3, .int (nI k)), (1, .long v1_6), (0, .ref x)] → va_P (dC, dI) vwCl ([(x, .inr (3, [.ref rw, .ref j, .ref y, .int ξ.2])), (rw, .inl (cR, 8, .inr (.inr (.inr (.inr ξ.1))))), (j, .inr (0, [.ref a1, .ref a2, .ref a3, .int σ.2.2.2.1, .int σ.2.2.2.2.1, .int σ.2.2.2.2.2.1, .int σ.2.2.2.2.2.2.1, .double σ.2.2.2.2.2.2.2])), (a1, .inl (cI, 6, .inl σ.1)), (a2, .inl (cI, 6, .inl σ.2.1)), (a3, .inl (cI, 6, .inl σ.2.2.1)), (y, .inr (2, [.ref b1, .ref b2, .ref b3, .int η.2.2.2])), (b1, .inl (cI, 512, .inl η.1)), (b2, .inl (cI, 512, .inl η.2.1)), (b3, .inl (cI, 512, .inl η.2.2.1))] ++ wRs cI rows) H → va_D A ([(x, .inr (3, [.ref rw, .ref j, .ref y, .int ξ.2])), (rw, .inl (cR, 8, .inr (.inr (.inr (.inr ξ.1))))), (j, .inr (0, [.ref a1, .ref a2, .ref a3, .int σ.2.2.2.1, .int σ.2.2.2.2.1, .int σ.2.2.2.2.2.1, .int σ.2.2.2.2.2.2.1, .double σ.2.2.2.2.2.2.2])), (a1, .inl (cI, 6, .inl σ.1)), (a2, .inl (cI, 6, .inl σ.2.1)), (a3, .inl (cI, 6, .inl σ.2.2.1)), (y, .inr (2, [.ref b1, .ref b2, .ref b3, .int η.2.2.2])), (b1, .inl (cI, 512, .inl η.1)), (b2, .inl (cI, 512, .inl η.2.1)), (b3, .inl (cI, 512, .inl η.2.2.1))] ++ wRs cI rows) → va_S A s.heap H locs → W p l e (headSpec wsX3_digest ({ frames := 7, cells := 0, slots := 0, locals := 156 })).room s m (([.ref x] : List Value).toArray) below meth c H locs 0 0 (MQ below (va_Ql (fun (r : Int64) (_ : Unit) => r = (S_X3_digest ξ σ η rows).1) (fun (_ : Unit) t => va_P (dC, dI) vwCl (wC cI cR x rw j a1 a2 a3 y b1 b2 b3 ξ σ ((S_X3_digest ξ σ η rows).2) rows) t.heap ∧ cE (dC, dI) cI cR t ∧ va_D A (wC cI cR x rw j a1 a2 a3 y b1 b2 b3 ξ σ ((S_X3_digest ξ σ η rows).2) rows)) A) (([.ref x] : List Value).toArray) s 0 0 A) (F0 m 6 ls []) := by
    intro mm
    induction mm with
    | zero =>
      intro k v1_6 H locs ls hk6 hG6 hl hP hD hS
      refine lv_iload_n hx hb dX3_digest_6 rfl (lv_at hl 0 rfl) ?_
      refine lv_bipush (v := 9) hx hb dX3_digest_7 (by decide) ?_
      refine lv_icmp_gt (tgt := 31) hx hb dX3_digest_9 (by decide) (fun c_9 => ?_) (fun c_9 => ?_)
      · refine lv_iconst (v := 0) hx hb dX3_digest_31 (by decide) ?_
        refine lv_istore_n (lv' := [(3, .int 0), (1, .long v1_6), (0, .ref x)]) hx hb dX3_digest_32 rfl hl (by decide) rfl (fun ls hl => ?_)
        have loop33 : ∀ (mm k : Nat) (v1_33 : Int64) (g2_0_33 : Nat → Int32) (g2_1_33 : Nat → Int32) (g2_2_33 : Nat → Int32) (g2_3_33 : Int32) (H : Heap) (locs : List Loc) (ls : Array Slot), k + mm = rows.length → G_X3_digest_33 ξ σ η rows v1_6 mm k v1_33 g2_0_33 g2_1_33 g2_2_33 g2_3_33 = S_X3_digest ξ σ η rows → lv_has ls 5 [(3, .int (nI k)), (1, .long v1_33), (0, .ref x)] → va_P (dC, dI) vwCl ([(x, .inr (3, [.ref rw, .ref j, .ref y, .int ξ.2])), (rw, .inl (cR, 8, .inr (.inr (.inr (.inr ξ.1))))), (j, .inr (0, [.ref a1, .ref a2, .ref a3, .int σ.2.2.2.1, .int σ.2.2.2.2.1, .int σ.2.2.2.2.2.1, .int σ.2.2.2.2.2.2.1, .double σ.2.2.2.2.2.2.2])), (a1, .inl (cI, 6, .inl σ.1)), (a2, .inl (cI, 6, .inl σ.2.1)), (a3, .inl (cI, 6, .inl σ.2.2.1)), (y, .inr (2, [.ref b1, .ref b2, .ref b3, .int g2_3_33])), (b1, .inl (cI, 512, .inl g2_0_33)), (b2, .inl (cI, 512, .inl g2_1_33)), (b3, .inl (cI, 512, .inl g2_2_33))] ++ wRs cI rows) H → va_D A ([(x, .inr (3, [.ref rw, .ref j, .ref y, .int ξ.2])), (rw, .inl (cR, 8, .inr (.inr (.inr (.inr ξ.1))))), (j, .inr (0, [.ref a1, .ref a2, .ref a3, .int σ.2.2.2.1, .int σ.2.2.2.2.1, .int σ.2.2.2.2.2.1, .int σ.2.2.2.2.2.2.1, .double σ.2.2.2.2.2.2.2])), (a1, .inl (cI, 6, .inl σ.1)), (a2, .inl (cI, 6, .inl σ.2.1)), (a3, .inl (cI, 6, .inl σ.2.2.1)), (y, .inr (2, [.ref b1, .ref b2, .ref b3, .int g2_3_33])), (b1, .inl (cI, 512, .inl g2_0_33)), (b2, .inl (cI, 512, .inl g2_1_33)), (b3, .inl (cI, 512, .inl g2_2_33))] ++ wRs cI rows) → va_S A s.heap H locs → W p l e (headSpec wsX3_digest ({ frames := 7, cells := 0, slots := 0, locals := 156 })).room s m (([.ref x] : List Value).toArray) below meth c H locs 0 0 (MQ below (va_Ql (fun (r : Int64) (_ : Unit) => r = (S_X3_digest ξ σ η rows).1) (fun (_ : Unit) t => va_P (dC, dI) vwCl (wC cI cR x rw j a1 a2 a3 y b1 b2 b3 ξ σ ((S_X3_digest ξ σ η rows).2) rows) t.heap ∧ cE (dC, dI) cI cR t ∧ va_D A (wC cI cR x rw j a1 a2 a3 y b1 b2 b3 ξ σ ((S_X3_digest ξ σ η rows).2) rows)) A) (([.ref x] : List Value).toArray) s 0 0 A) (F0 m 33 ls []) := by
          intro mm
          induction mm with
          | zero =>
            intro k v1_33 g2_0_33 g2_1_33 g2_2_33 g2_3_33 H locs ls hk33 hG33 hl hP hD hS
            refine lv_iload_n hx hb dX3_digest_33 rfl (lv_at hl 0 rfl) ?_
            refine lv_aload_n hx hb dX3_digest_34 rfl (lv_at hl 2 rfl) ?_
            refine va_get (D := (dC, dI)) (ci := 3) (v := .int ξ.2) (C := RX3) (T := TX3) (N := 4) hx hb hts in_X3 hown hK hP 0 rfl rfl 3 (by decide) q_1 (fun _ h9 => h9) rfl dX3_digest_35 ?_
            refine lv_icmp_ge (tgt := 58) hx hb dX3_digest_38 (by decide) (fun c_38 => ?_) (fun c_38 => ?_)
            · refine lv_iconst (v := 0) hx hb dX3_digest_58 (by decide) ?_
              refine lv_istore_n (lv' := [(3, .int 0), (1, .long v1_33), (0, .ref x)]) hx hb dX3_digest_59 rfl hl (by decide) rfl (fun ls hl => ?_)
              have hn60 := p_clt (S_X0_props σ)
              have loop60 : ∀ (mm k : Nat) (v1_60 : Int64) (H : Heap) (locs : List Loc) (ls : Array Slot), k + mm = (S_X0_props σ).toNatClampNeg → G_X3_digest_60 ξ σ η rows v1_6 v1_33 g2_0_33 g2_1_33 g2_2_33 g2_3_33 mm k v1_60 = S_X3_digest ξ σ η rows → lv_has ls 5 [(3, .int (nI k)), (1, .long v1_60), (0, .ref x)] → va_P (dC, dI) vwCl ([(x, .inr (3, [.ref rw, .ref j, .ref y, .int ξ.2])), (rw, .inl (cR, 8, .inr (.inr (.inr (.inr ξ.1))))), (j, .inr (0, [.ref a1, .ref a2, .ref a3, .int σ.2.2.2.1, .int σ.2.2.2.2.1, .int σ.2.2.2.2.2.1, .int σ.2.2.2.2.2.2.1, .double σ.2.2.2.2.2.2.2])), (a1, .inl (cI, 6, .inl σ.1)), (a2, .inl (cI, 6, .inl σ.2.1)), (a3, .inl (cI, 6, .inl σ.2.2.1)), (y, .inr (2, [.ref b1, .ref b2, .ref b3, .int g2_3_33])), (b1, .inl (cI, 512, .inl g2_0_33)), (b2, .inl (cI, 512, .inl g2_1_33)), (b3, .inl (cI, 512, .inl g2_2_33))] ++ wRs cI rows) H → va_D A ([(x, .inr (3, [.ref rw, .ref j, .ref y, .int ξ.2])), (rw, .inl (cR, 8, .inr (.inr (.inr (.inr ξ.1))))), (j, .inr (0, [.ref a1, .ref a2, .ref a3, .int σ.2.2.2.1, .int σ.2.2.2.2.1, .int σ.2.2.2.2.2.1, .int σ.2.2.2.2.2.2.1, .double σ.2.2.2.2.2.2.2])), (a1, .inl (cI, 6, .inl σ.1)), (a2, .inl (cI, 6, .inl σ.2.1)), (a3, .inl (cI, 6, .inl σ.2.2.1)), (y, .inr (2, [.ref b1, .ref b2, .ref b3, .int g2_3_33])), (b1, .inl (cI, 512, .inl g2_0_33)), (b2, .inl (cI, 512, .inl g2_1_33)), (b3, .inl (cI, 512, .inl g2_2_33))] ++ wRs cI rows) → va_S A s.heap H locs → W p l e (headSpec wsX3_digest ({ frames := 7, cells := 0, slots := 0, locals := 156 })).room s m (([.ref x] : List Value).toArray) below meth c H locs 0 0 (MQ below (va_Ql (fun (r : Int64) (_ : Unit) => r = (S_X3_digest ξ σ η rows).1) (fun (_ : Unit) t => va_P (dC, dI) vwCl (wC cI cR x rw j a1 a2 a3 y b1 b2 b3 ξ σ ((S_X3_digest ξ σ η rows).2) rows) t.heap ∧ cE (dC, dI) cI cR t ∧ va_D A (wC cI cR x rw j a1 a2 a3 y b1 b2 b3 ξ σ ((S_X3_digest ξ σ η rows).2) rows)) A) (([.ref x] : List Value).toArray) s 0 0 A) (F0 m 60 ls []) := by
                intro mm
                induction mm with
                | zero =>
                  intro k v1_60 H locs ls hk60 hG60 hl hP hD hS
                  refine lv_iload_n hx hb dX3_digest_60 rfl (lv_at hl 0 rfl) ?_
                  refine lv_aload_n hx hb dX3_digest_61 rfl (lv_at hl 2 rfl) ?_
                  refine va_get (D := (dC, dI)) (ci := 3) (v := .ref j) (C := RX3) (T := TX3) (N := 4) hx hb hts in_X3 hown hK hP 0 rfl rfl 1 (by decide) q_2 (fun _ h9 => h9) rfl dX3_digest_62 ?_
                  refine vp_callSi (va_Run.run (va_runV (As := []) (rest := [.int (nI k)]) ⟨hx, hb, hml, hown, hts⟩ (c_X0_props l dC dI cI cR j a1 a2 a3 σ) (cwV 0 hts gX3_digest_X0_props rfl rfl rfl (by decide +kernel) ⟨Nat.le_of_ble_eq_true rfl, Nat.le_of_ble_eq_true rfl⟩) ⟨fun a U g mk q => by obtain ⟨q0, qP, qE⟩ := q; exact ⟨q0, qP, cE.same (s := U) rfl qE⟩, va_recv hK hP (ci := 0) (q0 := 2) rfl rfl, fun U hU hW => ⟨rfl, by rw [hU]; exact hP.sub (ws' := (wJ cI j a1 a2 a3 σ)) [2, 3, 4, 5] rfl, hE.warm hW⟩⟩ rfl rfl hl.1 rfl (lv_room (Nat.le_of_ble_eq_true rfl)) dX3_digest_65 ⟨Nat.zero_le _, Nat.zero_le _⟩)) (fun r_65 h_65 => ?_)
                  subst h_65
                  refine lv_icmp_ge (tgt := 110) hx hb dX3_digest_68 (by decide) (fun c_68 => ?_) (fun c_68 => ?_)
                  · refine lv_iconst (v := 0) hx hb dX3_digest_110 (by decide) ?_
                    refine lv_istore_n (lv' := [(3, .int 0), (1, .long v1_60), (0, .ref x)]) hx hb dX3_digest_111 rfl hl (by decide) rfl (fun ls hl => ?_)
                    have loop112 : ∀ (mm k : Nat) (v1_112 : Int64) (H : Heap) (locs : List Loc) (ls : Array Slot), k + mm = 10 → G_X3_digest_112 ξ σ η rows v1_6 v1_33 g2_0_33 g2_1_33 g2_2_33 g2_3_33 v1_60 mm k v1_112 = S_X3_digest ξ σ η rows → lv_has ls 5 [(3, .int (nI k)), (1, .long v1_112), (0, .ref x)] → va_P (dC, dI) vwCl ([(x, .inr (3, [.ref rw, .ref j, .ref y, .int ξ.2])), (rw, .inl (cR, 8, .inr (.inr (.inr (.inr ξ.1))))), (j, .inr (0, [.ref a1, .ref a2, .ref a3, .int σ.2.2.2.1, .int σ.2.2.2.2.1, .int σ.2.2.2.2.2.1, .int σ.2.2.2.2.2.2.1, .double σ.2.2.2.2.2.2.2])), (a1, .inl (cI, 6, .inl σ.1)), (a2, .inl (cI, 6, .inl σ.2.1)), (a3, .inl (cI, 6, .inl σ.2.2.1)), (y, .inr (2, [.ref b1, .ref b2, .ref b3, .int g2_3_33])), (b1, .inl (cI, 512, .inl g2_0_33)), (b2, .inl (cI, 512, .inl g2_1_33)), (b3, .inl (cI, 512, .inl g2_2_33))] ++ wRs cI rows) H → va_D A ([(x, .inr (3, [.ref rw, .ref j, .ref y, .int ξ.2])), (rw, .inl (cR, 8, .inr (.inr (.inr (.inr ξ.1))))), (j, .inr (0, [.ref a1, .ref a2, .ref a3, .int σ.2.2.2.1, .int σ.2.2.2.2.1, .int σ.2.2.2.2.2.1, .int σ.2.2.2.2.2.2.1, .double σ.2.2.2.2.2.2.2])), (a1, .inl (cI, 6, .inl σ.1)), (a2, .inl (cI, 6, .inl σ.2.1)), (a3, .inl (cI, 6, .inl σ.2.2.1)), (y, .inr (2, [.ref b1, .ref b2, .ref b3, .int g2_3_33])), (b1, .inl (cI, 512, .inl g2_0_33)), (b2, .inl (cI, 512, .inl g2_1_33)), (b3, .inl (cI, 512, .inl g2_2_33))] ++ wRs cI rows) → va_S A s.heap H locs → W p l e (headSpec wsX3_digest ({ frames := 7, cells := 0, slots := 0, locals := 156 })).room s m (([.ref x] : List Value).toArray) below meth c H locs 0 0 (MQ below (va_Ql (fun (r : Int64) (_ : Unit) => r = (S_X3_digest ξ σ η rows).1) (fun (_ : Unit) t => va_P (dC, dI) vwCl (wC cI cR x rw j a1 a2 a3 y b1 b2 b3 ξ σ ((S_X3_digest ξ σ η rows).2) rows) t.heap ∧ cE (dC, dI) cI cR t ∧ va_D A (wC cI cR x rw j a1 a2 a3 y b1 b2 b3 ξ σ ((S_X3_digest ξ σ η rows).2) rows)) A) (([.ref x] : List Value).toArray) s 0 0 A) (F0 m 112 ls []) := by
                      intro mm
                      induction mm with
                      | zero =>
                        intro k v1_112 H locs ls hk112 hG112 hl hP hD hS
                        refine lv_iload_n hx hb dX3_digest_112 rfl (lv_at hl 0 rfl) ?_
                        refine lv_bipush (v := 9) hx hb dX3_digest_113 (by decide) ?_
                        refine lv_icmp_gt (tgt := 143) hx hb dX3_digest_115 (by decide) (fun c_115 => ?_) (fun c_115 => ?_)
                        · refine lv_lload_n hx hb dX3_digest_143 rfl (lv_at hl 1 rfl) ?_
                          refine lv_ldc2 hx hb hown q_3 dX3_digest_144 ?_
                          refine lv_lmul hx hb dX3_digest_147 ?_
                          refine lv_ldc2d hx hb hown q_4 dX3_digest_148 ?_
                          refine lv_aload_n hx hb dX3_digest_151 rfl (lv_at hl 2 rfl) ?_
                          refine va_get (D := (dC, dI)) (ci := 3) (v := .ref j) (C := RX3) (T := TX3) (N := 4) hx hb hts in_X3 hown hK hP 0 rfl rfl 1 (by decide) q_2 (fun _ h9 => h9) rfl dX3_digest_152 ?_
                          refine vp_callSd (va_Run.run (va_runV (As := []) (rest := [.double 4620693217682128896, .long (v1_112 * 31)]) ⟨hx, hb, hml, hown, hts⟩ (c_X0_tiredness l dC dI cI cR j a1 a2 a3 σ) (cwV 0 hts gX3_digest_X0_tiredness rfl rfl rfl (by decide +kernel) ⟨Nat.le_of_ble_eq_true rfl, Nat.le_of_ble_eq_true rfl⟩) ⟨fun a U g mk q => by obtain ⟨q0, qP, qE⟩ := q; exact ⟨q0, qP, cE.same (s := U) rfl qE⟩, va_recv hK hP (ci := 0) (q0 := 2) rfl rfl, fun U hU hW => ⟨rfl, by rw [hU]; exact hP.sub (ws' := (wJ cI j a1 a2 a3 σ)) [2, 3, 4, 5] rfl, hE.warm hW⟩⟩ rfl rfl hl.1 rfl (lv_room (Nat.le_of_ble_eq_true rfl)) dX3_digest_155 ⟨Nat.zero_le _, Nat.zero_le _⟩)) (fun r_155 h_155 => ?_)
                          subst h_155
                          refine lv_dmul hx hb dX3_digest_158 hn158 ?_
                          refine lv_d2l hx hb dX3_digest_159 ?_
                          refine lv_ladd hx hb dX3_digest_160 ?_
                          have e9 : S_X3_digest ξ σ η rows = ((v1_112 * 31) + (FP.d2l (FP.dmul 4620693217682128896 (S_X0_tiredness σ))), (g2_0_33, g2_1_33, g2_2_33, g2_3_33)) := by rw [← hG112]; simp only [G_X3_digest_112]
                          exact W.lret (v := ((v1_112 * 31) + (FP.d2l (FP.dmul 4620693217682128896 (S_X0_tiredness σ))))) hx hb hr (fun t ht hW => ⟨⟨((v1_112 * 31) + (FP.d2l (FP.dmul 4620693217682128896 (S_X0_tiredness σ)))), (), rfl, by rw [e9], by rw [ht, e9]; exact hP, hE.warm hW, by rw [e9]; exact hD⟩, hS.F ht⟩) hS.2.2 dX3_digest_161
                        · exact absurd (p_9 (by omega) (by omega)) c_115
                      | succ mm ih112 =>
                        intro k v1_112 H locs ls hk112 hG112 hl hP hD hS
                        refine lv_iload_n hx hb dX3_digest_112 rfl (lv_at hl 0 rfl) ?_
                        refine lv_bipush (v := 9) hx hb dX3_digest_113 (by decide) ?_
                        refine lv_icmp_gt (tgt := 143) hx hb dX3_digest_115 (by decide) (fun c_115 => ?_) (fun c_115 => ?_)
                        · exact absurd c_115 (p_9n (by omega))
                        · refine lv_lload_n hx hb dX3_digest_118 rfl (lv_at hl 1 rfl) ?_
                          refine lv_ldc2 hx hb hown q_3 dX3_digest_119 ?_
                          refine lv_lmul hx hb dX3_digest_122 ?_
                          refine lv_aload_n hx hb dX3_digest_123 rfl (lv_at hl 2 rfl) ?_
                          refine va_get (D := (dC, dI)) (ci := 3) (v := .ref j) (C := RX3) (T := TX3) (N := 4) hx hb hts in_X3 hown hK hP 0 rfl rfl 1 (by decide) q_2 (fun _ h9 => h9) rfl dX3_digest_124 ?_
                          refine vp_callSi (va_Run.run (va_runV (As := []) (rest := [.long (v1_112 * 31)]) ⟨hx, hb, hml, hown, hts⟩ (c_X0_state l dC dI cI cR j a1 a2 a3 σ) (cwV 0 hts gX3_digest_X0_state rfl rfl rfl (by decide +kernel) ⟨Nat.le_of_ble_eq_true rfl, Nat.le_of_ble_eq_true rfl⟩) ⟨fun a U g mk q => by obtain ⟨q0, qP, qE⟩ := q; exact ⟨q0, qP, cE.same (s := U) rfl qE⟩, va_recv hK hP (ci := 0) (q0 := 2) rfl rfl, fun U hU hW => ⟨rfl, by rw [hU]; exact hP.sub (ws' := (wJ cI j a1 a2 a3 σ)) [2, 3, 4, 5] rfl, hE.warm hW⟩⟩ rfl rfl hl.1 rfl (lv_room (Nat.le_of_ble_eq_true rfl)) dX3_digest_127 ⟨Nat.zero_le _, Nat.zero_le _⟩)) (fun r_127 h_127 => ?_)
                          subst h_127
                          refine lv_iload_n hx hb dX3_digest_130 rfl (lv_at hl 0 rfl) ?_
                          refine vp_callSi (va_Run.run (va_runS (As := [.int (S_X0_state σ), .int (nI k)]) (rest := [.long (v1_112 * 31)]) ⟨hx, hb, hml, hown, hts⟩ (c_X3_stateBehind l (S_X0_state σ) (nI k)) (va_cwS 2 hts gX3_digest_X3_stateBehind rfl rfl rfl (by decide +kernel) ⟨Nat.le_of_ble_eq_true rfl, Nat.le_of_ble_eq_true rfl⟩) ⟨fun a U g mk q => q, fun U hU hW => ⟨rfl, trivial⟩⟩ rfl rfl hl.1 rfl (lv_room (Nat.le_of_ble_eq_true rfl)) dX3_digest_131 ⟨Nat.zero_le _, Nat.zero_le _⟩)) (fun r_131 h_131 => ?_)
                          subst h_131
                          refine lv_i2l hx hb dX3_digest_134 rfl ?_
                          refine lv_ladd hx hb dX3_digest_135 ?_
                          refine lv_lstore_n (lv' := [(1, .long ((v1_112 * 31) + ((S_X3_stateBehind (S_X0_state σ) (nI k)).toInt64))), (3, .int (nI k)), (0, .ref x)]) hx hb dX3_digest_136 rfl hl (by decide) rfl (fun ls hl => ?_)
                          refine lv_iinc (v := nI (k + 1)) (lv' := [(3, .int (nI (k + 1))), (1, .long ((v1_112 * 31) + ((S_X3_stateBehind (S_X0_state σ) (nI k)).toInt64))), (0, .ref x)]) hx hb dX3_digest_137 hl (k := 1) rfl ((nI_succ _).symm) (by decide) rfl (fun ls hl => ?_)
                          refine lv_goto (tgt := 112) hx hb dX3_digest_140 (by decide) ?_
                          exact ih112 (k + 1) ((v1_112 * 31) + ((S_X3_stateBehind (S_X0_state σ) (nI k)).toInt64)) _ _ ls (by omega) (by rw [← hG112]; simp only [G_X3_digest_112]) (lv_sub hl [0, 1, 2] rfl) hP hD hS
                    exact loop112 10 0 v1_60 _ _ ls (by omega) (by rw [← hG60]; simp only [G_X3_digest_60]) (lv_sub hl [0, 1, 2] rfl) hP hD hS
                  · exact absurd ((p_le (by omega)).mpr (by omega)) c_68
                | succ mm ih60 =>
                  intro k v1_60 H locs ls hk60 hG60 hl hP hD hS
                  refine lv_iload_n hx hb dX3_digest_60 rfl (lv_at hl 0 rfl) ?_
                  refine lv_aload_n hx hb dX3_digest_61 rfl (lv_at hl 2 rfl) ?_
                  refine va_get (D := (dC, dI)) (ci := 3) (v := .ref j) (C := RX3) (T := TX3) (N := 4) hx hb hts in_X3 hown hK hP 0 rfl rfl 1 (by decide) q_2 (fun _ h9 => h9) rfl dX3_digest_62 ?_
                  refine vp_callSi (va_Run.run (va_runV (As := []) (rest := [.int (nI k)]) ⟨hx, hb, hml, hown, hts⟩ (c_X0_props l dC dI cI cR j a1 a2 a3 σ) (cwV 0 hts gX3_digest_X0_props rfl rfl rfl (by decide +kernel) ⟨Nat.le_of_ble_eq_true rfl, Nat.le_of_ble_eq_true rfl⟩) ⟨fun a U g mk q => by obtain ⟨q0, qP, qE⟩ := q; exact ⟨q0, qP, cE.same (s := U) rfl qE⟩, va_recv hK hP (ci := 0) (q0 := 2) rfl rfl, fun U hU hW => ⟨rfl, by rw [hU]; exact hP.sub (ws' := (wJ cI j a1 a2 a3 σ)) [2, 3, 4, 5] rfl, hE.warm hW⟩⟩ rfl rfl hl.1 rfl (lv_room (Nat.le_of_ble_eq_true rfl)) dX3_digest_65 ⟨Nat.zero_le _, Nat.zero_le _⟩)) (fun r_65 h_65 => ?_)
                  subst h_65
                  refine lv_icmp_ge (tgt := 110) hx hb dX3_digest_68 (by decide) (fun c_68 => ?_) (fun c_68 => ?_)
                  · exact absurd ((p_le (by omega)).mp c_68) (by omega)
                  · refine lv_iconst (v := 0) hx hb dX3_digest_71 (by decide) ?_
                    refine lv_istore (lv' := [(4, .int 0), (3, .int (nI k)), (1, .long v1_60), (0, .ref x)]) hx hb dX3_digest_72 hl (by decide) rfl (fun ls hl => ?_)
                    have loop74 : ∀ (mm2 k2 : Nat) (v1_74 : Int64) (H : Heap) (locs : List Loc) (ls : Array Slot), k2 + mm2 = 4 → G_X3_digest_74 ξ σ η rows v1_6 v1_33 g2_0_33 g2_1_33 g2_2_33 g2_3_33 k v1_60 (fun v1_74 => G_X3_digest_60 ξ σ η rows v1_6 v1_33 g2_0_33 g2_1_33 g2_2_33 g2_3_33 mm (k + 1) v1_74) mm2 k2 v1_74 = S_X3_digest ξ σ η rows → lv_has ls 5 [(4, .int (nI k2)), (3, .int (nI k)), (1, .long v1_74), (0, .ref x)] → va_P (dC, dI) vwCl ([(x, .inr (3, [.ref rw, .ref j, .ref y, .int ξ.2])), (rw, .inl (cR, 8, .inr (.inr (.inr (.inr ξ.1))))), (j, .inr (0, [.ref a1, .ref a2, .ref a3, .int σ.2.2.2.1, .int σ.2.2.2.2.1, .int σ.2.2.2.2.2.1, .int σ.2.2.2.2.2.2.1, .double σ.2.2.2.2.2.2.2])), (a1, .inl (cI, 6, .inl σ.1)), (a2, .inl (cI, 6, .inl σ.2.1)), (a3, .inl (cI, 6, .inl σ.2.2.1)), (y, .inr (2, [.ref b1, .ref b2, .ref b3, .int g2_3_33])), (b1, .inl (cI, 512, .inl g2_0_33)), (b2, .inl (cI, 512, .inl g2_1_33)), (b3, .inl (cI, 512, .inl g2_2_33))] ++ wRs cI rows) H → va_D A ([(x, .inr (3, [.ref rw, .ref j, .ref y, .int ξ.2])), (rw, .inl (cR, 8, .inr (.inr (.inr (.inr ξ.1))))), (j, .inr (0, [.ref a1, .ref a2, .ref a3, .int σ.2.2.2.1, .int σ.2.2.2.2.1, .int σ.2.2.2.2.2.1, .int σ.2.2.2.2.2.2.1, .double σ.2.2.2.2.2.2.2])), (a1, .inl (cI, 6, .inl σ.1)), (a2, .inl (cI, 6, .inl σ.2.1)), (a3, .inl (cI, 6, .inl σ.2.2.1)), (y, .inr (2, [.ref b1, .ref b2, .ref b3, .int g2_3_33])), (b1, .inl (cI, 512, .inl g2_0_33)), (b2, .inl (cI, 512, .inl g2_1_33)), (b3, .inl (cI, 512, .inl g2_2_33))] ++ wRs cI rows) → va_S A s.heap H locs → W p l e (headSpec wsX3_digest ({ frames := 7, cells := 0, slots := 0, locals := 156 })).room s m (([.ref x] : List Value).toArray) below meth c H locs 0 0 (MQ below (va_Ql (fun (r : Int64) (_ : Unit) => r = (S_X3_digest ξ σ η rows).1) (fun (_ : Unit) t => va_P (dC, dI) vwCl (wC cI cR x rw j a1 a2 a3 y b1 b2 b3 ξ σ ((S_X3_digest ξ σ η rows).2) rows) t.heap ∧ cE (dC, dI) cI cR t ∧ va_D A (wC cI cR x rw j a1 a2 a3 y b1 b2 b3 ξ σ ((S_X3_digest ξ σ η rows).2) rows)) A) (([.ref x] : List Value).toArray) s 0 0 A) (F0 m 74 ls []) := by
                      intro mm2
                      induction mm2 with
                      | zero =>
                        intro k2 v1_74 H locs ls hk74 hG74 hl hP hD hS
                        refine lv_iload hx hb dX3_digest_74 (lv_at hl 0 rfl) ?_
                        refine lv_iconst (v := 3) hx hb dX3_digest_76 (by decide) ?_
                        refine lv_icmp_gt (tgt := 104) hx hb dX3_digest_77 (by decide) (fun c_77 => ?_) (fun c_77 => ?_)
                        · refine lv_iinc (v := nI (k + 1)) (lv' := [(3, .int (nI (k + 1))), (4, .int (nI k2)), (1, .long v1_74), (0, .ref x)]) hx hb dX3_digest_104 hl (k := 1) rfl ((nI_succ _).symm) (by decide) rfl (fun ls hl => ?_)
                          refine lv_goto (tgt := 60) hx hb dX3_digest_107 (by decide) ?_
                          exact ih60 (k + 1) v1_74 _ _ ls (by omega) (by rw [← hG74]; simp only [G_X3_digest_74]) (lv_sub hl [0, 2, 3] rfl) hP hD hS
                        · exact absurd (nI_lt (a := 3) (by omega) (by omega)) c_77
                      | succ mm2 ih74 =>
                        intro k2 v1_74 H locs ls hk74 hG74 hl hP hD hS
                        refine lv_iload hx hb dX3_digest_74 (lv_at hl 0 rfl) ?_
                        refine lv_iconst (v := 3) hx hb dX3_digest_76 (by decide) ?_
                        refine lv_icmp_gt (tgt := 104) hx hb dX3_digest_77 (by decide) (fun c_77 => ?_) (fun c_77 => ?_)
                        · exact absurd c_77 (nI_nlt (a := 3) (by omega) (by decide))
                        · refine lv_lload_n hx hb dX3_digest_80 rfl (lv_at hl 2 rfl) ?_
                          refine lv_ldc2 hx hb hown q_3 dX3_digest_81 ?_
                          refine lv_lmul hx hb dX3_digest_84 ?_
                          refine lv_aload_n hx hb dX3_digest_85 rfl (lv_at hl 3 rfl) ?_
                          refine va_get (D := (dC, dI)) (ci := 3) (v := .ref j) (C := RX3) (T := TX3) (N := 4) hx hb hts in_X3 hown hK hP 0 rfl rfl 1 (by decide) q_2 (fun _ h9 => h9) rfl dX3_digest_86 ?_
                          refine lv_iload_n hx hb dX3_digest_89 rfl (lv_at hl 1 rfl) ?_
                          refine lv_iload hx hb dX3_digest_90 (lv_at hl 0 rfl) ?_
                          refine vp_callSi (va_Run.run (va_runV (As := [.int (nI k), .int (nI k2)]) (rest := [.long (v1_74 * 31)]) ⟨hx, hb, hml, hown, hts⟩ (c_X0_answerOf l dC dI cI cR j a1 a2 a3 σ (nI k) (nI k2)) (cwV 2 hts gX3_digest_X0_answerOf rfl rfl rfl (by decide +kernel) ⟨Nat.le_of_ble_eq_true rfl, Nat.le_of_ble_eq_true rfl⟩) ⟨fun a U g mk q => by obtain ⟨q0, qP, qE⟩ := q; exact ⟨q0, qP, cE.same (s := U) rfl qE⟩, va_recv hK hP (ci := 0) (q0 := 2) rfl rfl, fun U hU hW => ⟨rfl, by rw [hU]; exact hP.sub (ws' := (wJ cI j a1 a2 a3 σ)) [2, 3, 4, 5] rfl, hE.warm hW⟩⟩ rfl rfl hl.1 rfl (lv_room (Nat.le_of_ble_eq_true rfl)) dX3_digest_92 ⟨Nat.zero_le _, Nat.zero_le _⟩)) (fun r_92 h_92 => ?_)
                          subst h_92
                          refine lv_i2l hx hb dX3_digest_95 rfl ?_
                          refine lv_ladd hx hb dX3_digest_96 ?_
                          refine lv_lstore_n (lv' := [(1, .long ((v1_74 * 31) + ((S_X0_answerOf σ (nI k) (nI k2)).toInt64))), (4, .int (nI k2)), (3, .int (nI k)), (0, .ref x)]) hx hb dX3_digest_97 rfl hl (by decide) rfl (fun ls hl => ?_)
                          refine lv_iinc (v := nI (k2 + 1)) (lv' := [(4, .int (nI (k2 + 1))), (1, .long ((v1_74 * 31) + ((S_X0_answerOf σ (nI k) (nI k2)).toInt64))), (3, .int (nI k)), (0, .ref x)]) hx hb dX3_digest_98 hl (k := 1) rfl ((nI_succ _).symm) (by decide) rfl (fun ls hl => ?_)
                          refine lv_goto (tgt := 74) hx hb dX3_digest_101 (by decide) ?_
                          exact ih74 (k2 + 1) ((v1_74 * 31) + ((S_X0_answerOf σ (nI k) (nI k2)).toInt64)) _ _ ls (by omega) (by rw [← hG74]; simp only [G_X3_digest_74]) (lv_sub hl [0, 2, 1, 3] rfl) hP hD hS
                    exact loop74 4 0 v1_60 _ _ ls (by omega) (by rw [← hG60]; simp only [G_X3_digest_60]) (lv_sub hl [0, 1, 2, 3] rfl) hP hD hS
              exact loop60 ((S_X0_props σ).toNatClampNeg) 0 v1_33 _ _ ls (by omega) (by rw [← hG33]; simp only [G_X3_digest_33]) (lv_sub hl [0, 1, 2] rfl) hP hD hS
            · exact absurd (by rw [hCI.2.1]; exact nI_le (by omega) (by have := hCI.1; omega)) c_38
          | succ mm ih33 =>
            intro k v1_33 g2_0_33 g2_1_33 g2_2_33 g2_3_33 H locs ls hk33 hG33 hl hP hD hS
            refine lv_iload_n hx hb dX3_digest_33 rfl (lv_at hl 0 rfl) ?_
            refine lv_aload_n hx hb dX3_digest_34 rfl (lv_at hl 2 rfl) ?_
            refine va_get (D := (dC, dI)) (ci := 3) (v := .int ξ.2) (C := RX3) (T := TX3) (N := 4) hx hb hts in_X3 hown hK hP 0 rfl rfl 3 (by decide) q_1 (fun _ h9 => h9) rfl dX3_digest_35 ?_
            refine lv_icmp_ge (tgt := 58) hx hb dX3_digest_38 (by decide) (fun c_38 => ?_) (fun c_38 => ?_)
            · exact absurd c_38 (by rw [hCI.2.1]; exact nI_ge (by omega) (by have := hCI.1; omega))
            · refine lv_aload_n hx hb dX3_digest_41 rfl (lv_at hl 2 rfl) ?_
              refine lv_lload_n hx hb dX3_digest_42 rfl (lv_at hl 1 rfl) ?_
              refine lv_aload_n hx hb dX3_digest_43 rfl (lv_at hl 2 rfl) ?_
              refine lv_iload_n hx hb dX3_digest_44 rfl (lv_at hl 0 rfl) ?_
              refine va_csr (va_Run.run (va_runV (As := [.int (nI k)]) (rest := [.long v1_33, .ref x]) ⟨hx, hb, hml, hown, hts⟩ (c_X3_rowNumbered l dC dI cI cR x rw j a1 a2 a3 y b1 b2 b3 ξ σ (g2_0_33, g2_1_33, g2_2_33, g2_3_33) rows hCI k (by omega)) (cwV 1 hts gX3_digest_X3_rowNumbered rfl rfl rfl (by decide +kernel) ⟨Nat.le_of_ble_eq_true rfl, Nat.le_of_ble_eq_true rfl⟩) ⟨fun a U g mk q => by obtain ⟨q0, qP, qE⟩ := q; exact ⟨q0, qP, cE.same (s := U) rfl qE⟩, va_recv hK hP (ci := 3) (q0 := 0) rfl rfl, fun U hU hW => ⟨rfl, by rw [hU]; exact hP, hE.warm hW⟩⟩ rfl rfl hl.1 rfl (lv_room (Nat.le_of_ble_eq_true rfl)) dX3_digest_45 ⟨Nat.zero_le _, Nat.zero_le _⟩)) (fun _ _ => ?_)
              have hPc := hP
              have hDc := hD
              have hFc := p_freeT hD hS hA
              refine va_calll (va_runV (As := [.long v1_33, .ref ((rw_ rows k).1.1)]) (rest := []) ⟨hx, hb, hml, hown, hts⟩ (c_X3_addRow l dC dI cI cR _ x rw j a1 a2 a3 y b1 b2 b3 ξ σ (g2_0_33, g2_1_33, g2_2_33, g2_3_33) rows hCI (rw_ rows k) (rw_mem (by omega)) v1_33) (cwV 2 hts gX3_digest_X3_addRow rfl rfl rfl (by decide +kernel) ⟨Nat.le_of_ble_eq_true rfl, Nat.le_of_ble_eq_true rfl⟩) ⟨fun a U g mk q => by obtain ⟨q0, q1, qP, qE, qD⟩ := q; exact ⟨q0, q1, qP, cE.same (s := U) rfl qE, qD⟩, va_recv hK hP (ci := 3) (q0 := 0) rfl rfl, fun U hU hW => ⟨rfl, by rw [hU], by rw [hU]; exact hPc, hE.warm hW, hDc.weaken (fun _ _ _ _ => trivial)⟩⟩ rfl rfl hl.1 rfl (lv_room (Nat.le_of_ble_eq_true rfl)) dX3_digest_48 ⟨Nat.zero_le _, Nat.zero_le _⟩) hS (fun q _ h => hFc q h) hFc (fun r_48 u t H1 locs ht hvm h_48 hB hz1 hk1 hS => ?_)
              obtain ⟨hP1, -, hD1⟩ := hB
              rw [ht] at hP1
              have hP : va_P (dC, dI) vwCl ([(x, .inr (3, [.ref rw, .ref j, .ref y, .int ξ.2])), (rw, .inl (cR, 8, .inr (.inr (.inr (.inr ξ.1))))), (j, .inr (0, [.ref a1, .ref a2, .ref a3, .int σ.2.2.2.1, .int σ.2.2.2.2.1, .int σ.2.2.2.2.2.1, .int σ.2.2.2.2.2.2.1, .double σ.2.2.2.2.2.2.2])), (a1, .inl (cI, 6, .inl σ.1)), (a2, .inl (cI, 6, .inl σ.2.1)), (a3, .inl (cI, 6, .inl σ.2.2.1)), (y, .inr (2, [.ref b1, .ref b2, .ref b3, .int (((S_X3_addRow ξ σ (g2_0_33, g2_1_33, g2_2_33, g2_3_33) rows (rw_ rows k) v1_33).2).2.2.2)])), (b1, .inl (cI, 512, .inl (((S_X3_addRow ξ σ (g2_0_33, g2_1_33, g2_2_33, g2_3_33) rows (rw_ rows k) v1_33).2).1))), (b2, .inl (cI, 512, .inl (((S_X3_addRow ξ σ (g2_0_33, g2_1_33, g2_2_33, g2_3_33) rows (rw_ rows k) v1_33).2).2.1))), (b3, .inl (cI, 512, .inl (((S_X3_addRow ξ σ (g2_0_33, g2_1_33, g2_2_33, g2_3_33) rows (rw_ rows k) v1_33).2).2.2.1)))] ++ wRs cI rows) H1 := hP1
              have hD : va_D A ([(x, .inr (3, [.ref rw, .ref j, .ref y, .int ξ.2])), (rw, .inl (cR, 8, .inr (.inr (.inr (.inr ξ.1))))), (j, .inr (0, [.ref a1, .ref a2, .ref a3, .int σ.2.2.2.1, .int σ.2.2.2.2.1, .int σ.2.2.2.2.2.1, .int σ.2.2.2.2.2.2.1, .double σ.2.2.2.2.2.2.2])), (a1, .inl (cI, 6, .inl σ.1)), (a2, .inl (cI, 6, .inl σ.2.1)), (a3, .inl (cI, 6, .inl σ.2.2.1)), (y, .inr (2, [.ref b1, .ref b2, .ref b3, .int (((S_X3_addRow ξ σ (g2_0_33, g2_1_33, g2_2_33, g2_3_33) rows (rw_ rows k) v1_33).2).2.2.2)])), (b1, .inl (cI, 512, .inl (((S_X3_addRow ξ σ (g2_0_33, g2_1_33, g2_2_33, g2_3_33) rows (rw_ rows k) v1_33).2).1))), (b2, .inl (cI, 512, .inl (((S_X3_addRow ξ σ (g2_0_33, g2_1_33, g2_2_33, g2_3_33) rows (rw_ rows k) v1_33).2).2.1))), (b3, .inl (cI, 512, .inl (((S_X3_addRow ξ σ (g2_0_33, g2_1_33, g2_2_33, g2_3_33) rows (rw_ rows k) v1_33).2).2.2.1)))] ++ wRs cI rows) := hD1.weaken (fun _ q _ h => hFc q.1 h)
              subst h_48
              clear hPc hDc hP1 hD1 hk1 hFc hz1 ht hvm
              generalize H1 = H at hP hS ⊢
              refine lv_lstore_n (lv' := [(1, .long ((S_X3_addRow ξ σ (g2_0_33, g2_1_33, g2_2_33, g2_3_33) rows (rw_ rows k) v1_33).1)), (3, .int (nI k)), (0, .ref x)]) hx hb dX3_digest_51 rfl hl (by decide) rfl (fun ls hl => ?_)
              refine lv_iinc (v := nI (k + 1)) (lv' := [(3, .int (nI (k + 1))), (1, .long ((S_X3_addRow ξ σ (g2_0_33, g2_1_33, g2_2_33, g2_3_33) rows (rw_ rows k) v1_33).1)), (0, .ref x)]) hx hb dX3_digest_52 hl (k := 1) rfl ((nI_succ _).symm) (by decide) rfl (fun ls hl => ?_)
              refine lv_goto (tgt := 33) hx hb dX3_digest_55 (by decide) ?_
              exact ih33 (k + 1) ((S_X3_addRow ξ σ (g2_0_33, g2_1_33, g2_2_33, g2_3_33) rows (rw_ rows k) v1_33).1) (((S_X3_addRow ξ σ (g2_0_33, g2_1_33, g2_2_33, g2_3_33) rows (rw_ rows k) v1_33).2).1) (((S_X3_addRow ξ σ (g2_0_33, g2_1_33, g2_2_33, g2_3_33) rows (rw_ rows k) v1_33).2).2.1) (((S_X3_addRow ξ σ (g2_0_33, g2_1_33, g2_2_33, g2_3_33) rows (rw_ rows k) v1_33).2).2.2.1) (((S_X3_addRow ξ σ (g2_0_33, g2_1_33, g2_2_33, g2_3_33) rows (rw_ rows k) v1_33).2).2.2.2) _ _ ls (by omega) (by rw [← hG33]; simp only [G_X3_digest_33]) (lv_sub hl [0, 1, 2] rfl) hP hD hS
        exact loop33 rows.length 0 v1_6 η.1 η.2.1 η.2.2.1 η.2.2.2 _ _ ls (by omega) (by rw [← hG6]; simp only [G_X3_digest_6]) (lv_sub hl [0, 1, 2] rfl) hP hD hS
      · exact absurd (p_9 (by omega) (by omega)) c_9
    | succ mm ih6 =>
      intro k v1_6 H locs ls hk6 hG6 hl hP hD hS
      refine lv_iload_n hx hb dX3_digest_6 rfl (lv_at hl 0 rfl) ?_
      refine lv_bipush (v := 9) hx hb dX3_digest_7 (by decide) ?_
      refine lv_icmp_gt (tgt := 31) hx hb dX3_digest_9 (by decide) (fun c_9 => ?_) (fun c_9 => ?_)
      · exact absurd c_9 (p_9n (by omega))
      · refine lv_lload_n hx hb dX3_digest_12 rfl (lv_at hl 1 rfl) ?_
        refine lv_ldc2 hx hb hown q_3 dX3_digest_13 ?_
        refine lv_lmul hx hb dX3_digest_16 ?_
        refine lv_aload_n hx hb dX3_digest_17 rfl (lv_at hl 2 rfl) ?_
        refine lv_iload_n hx hb dX3_digest_18 rfl (lv_at hl 0 rfl) ?_
        refine vp_callSi (va_Run.run (va_runV (As := [.int (nI k)]) (rest := [.long (v1_6 * 31)]) ⟨hx, hb, hml, hown, hts⟩ (c_X3_howMany l dC dI cI cR x rw j a1 a2 a3 y b1 b2 b3 ξ σ η rows hCI (nI k)) (cwV 1 hts gX3_digest_X3_howMany rfl rfl rfl (by decide +kernel) ⟨Nat.le_of_ble_eq_true rfl, Nat.le_of_ble_eq_true rfl⟩) ⟨fun a U g mk q => by obtain ⟨q0, qP, qE⟩ := q; exact ⟨q0, qP, cE.same (s := U) rfl qE⟩, va_recv hK hP (ci := 3) (q0 := 0) rfl rfl, fun U hU hW => ⟨rfl, by rw [hU]; exact hP, hE.warm hW⟩⟩ rfl rfl hl.1 rfl (lv_room (Nat.le_of_ble_eq_true rfl)) dX3_digest_19 ⟨Nat.zero_le _, Nat.zero_le _⟩)) (fun r_19 h_19 => ?_)
        subst h_19
        refine lv_i2l hx hb dX3_digest_22 rfl ?_
        refine lv_ladd hx hb dX3_digest_23 ?_
        refine lv_lstore_n (lv' := [(1, .long ((v1_6 * 31) + ((S_X3_howMany ξ σ η rows (nI k)).toInt64))), (3, .int (nI k)), (0, .ref x)]) hx hb dX3_digest_24 rfl hl (by decide) rfl (fun ls hl => ?_)
        refine lv_iinc (v := nI (k + 1)) (lv' := [(3, .int (nI (k + 1))), (1, .long ((v1_6 * 31) + ((S_X3_howMany ξ σ η rows (nI k)).toInt64))), (0, .ref x)]) hx hb dX3_digest_25 hl (k := 1) rfl ((nI_succ _).symm) (by decide) rfl (fun ls hl => ?_)
        refine lv_goto (tgt := 6) hx hb dX3_digest_28 (by decide) ?_
        exact ih6 (k + 1) ((v1_6 * 31) + ((S_X3_howMany ξ σ η rows (nI k)).toInt64)) _ _ ls (by omega) (by rw [← hG6]; simp only [G_X3_digest_6]) (lv_sub hl [0, 1, 2] rfl) hP hD hS
  exact loop6 10 0 58305 _ _ ls (by omega) (by simp only [S_X3_digest]) (lv_sub hl [0, 1, 2] rfl) hP hD hS
