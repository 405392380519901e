/-! the law's sixty beats: written by wip/p26/mk30.py -/
theorem many2 {ξ : XS} {σ : JS} {η : YS} {rows : List RD} : S_X3_many ξ σ η rows 2 = S_X0_state σ := by
  unfold S_X3_many S_X3_howMany
  rw [if_neg (by decide), if_neg (by decide), if_pos rfl]
theorem many3 {ξ : XS} {σ : JS} {η : YS} {rows : List RD} : S_X3_many ξ σ η rows 3 = S_X0_beat σ := by
  unfold S_X3_many S_X3_howMany
  rw [if_neg (by decide), if_neg (by decide), if_neg (by decide), if_pos rfl]
theorem many4 {ξ : XS} {σ : JS} {η : YS} {rows : List RD} : S_X3_many ξ σ η rows 4 = σ.2.2.2.2.2.1 := by
  unfold S_X3_many S_X3_howMany S_X0_slipsEver
  rw [if_neg (by decide), if_neg (by decide), if_neg (by decide), if_neg (by decide), if_pos rfl]
theorem many5 {ξ : XS} {σ : JS} {η : YS} {rows : List RD} : S_X3_many ξ σ η rows 5 = S_X0_droppedProps σ := by
  unfold S_X3_many S_X3_howMany
  rw [if_neg (by decide), if_neg (by decide), if_neg (by decide), if_neg (by decide), if_neg (by decide), if_pos rfl]
theorem many8 {ξ : XS} {σ : JS} {η : YS} {rows : List RD} : S_X3_many ξ σ η rows 8 = S_X0_propLandingIn σ 0 := by
  unfold S_X3_many S_X3_howMany
  rw [if_neg (by decide), if_neg (by decide), if_neg (by decide), if_neg (by decide), if_neg (by decide), if_neg (by decide), if_neg (by decide), if_neg (by decide), if_pos rfl]
theorem p_isT : ∀ h : Fin 10, S_X3_isThrow (nI h.val) = 1 := by decide +kernel
theorem p_and1 : ∀ s : Fin 512, nI s.val &&& 1 = 0 → s.val % 2 = 0 := by decide +kernel
section
variable {p : Program} {l : Launch} {e : Env} {s : State} {m : MethodId} {below : List Frame} {meth : Method} {c : Code} {Q : State → Prop} {b L : Nat} {xs : Nat → Int32} {dC : Nat → ClassId} {dI : Nat → Nat → Nat} {cI cR : ClassId} {x rw j a1 a2 a3 y b1 b2 b3 : Nat} {ξ : XS} {rows : List RD}
set_option maxHeartbeats 4000000 in
set_option maxRecDepth 100000 in
theorem law_81 (C : LC p s m c b L xs dC dI cI cR) (fin : ∀ (H : Heap) (locs : List Loc) (ls : Array Slot), (∀ q ∈ locs, s.heap.size ≤ q.base) → W p l e room_1 s m #[Value.ref b] below meth c H locs 50 1893 Q (F0 m 408 ls [.int 1])) (hR : ∀ i, i < 5 → ∃ n h, RI2 (rw_ rows i).2 n h) (hlen : rows.length = 5) (hL : L < 2 ^ 31) {pp : Nat} : ∀ (mm k : Nat) (σ : JS) (jt cN : Nat) (H : Heap) (locs : List Loc) (ls : Array Slot), k + mm = 60 → JI σ pp k → σ.2.2.2.2.2.2.2 = TT jt → jt ≤ 9 * k → σ.2.2.2.2.2.1 = nI cN → cN ≤ k → CW dC dI cI cR s x rw j a1 a2 a3 y b1 b2 b3 ξ σ S_X2_init rows H locs → lv_has ls 11 [(3, .int (nI k)), (2, .int (nI pp)), (1, .ref x), (0, .ref b)] → W p l e room_1 s m #[Value.ref b] below meth c H locs 50 1893 Q (F0 m 81 ls []) := by
  obtain ⟨hx, hb, hml, hown, hts, hX, hbl, hE⟩ := id C
  intro mm
  induction mm with
  | zero =>
    intro k σ jt cN H locs ls hk hJ ht hj hs hc w hl
    refine lv_iload_n hx hb dL_law_81 rfl (lv_at hl 0 rfl) ?_
    refine lv_bipush (v := 60) hx hb dL_law_82 (by decide) ?_
    refine lv_icmp_ge (tgt := 317) hx hb dL_law_84 (by decide) (fun c_84 => ?_) (fun c_84 => ?_)
    · exact law_317 C fin hR hlen hJ ht (by omega) w hl
    · exact absurd (nI_le (a := 60) (b := k) (by omega) (by omega)) c_84
  | succ mm ih =>
    intro k σ jt cN H locs ls hk hJ ht hj hs hc w hl
    have K311 : ∀ (σ1 : JS) (j1 c1 : Nat) (H : Heap) (locs : List Loc) (ls : Array Slot), JI σ1 pp (k + 1) → σ1.2.2.2.2.2.2.2 = TT j1 → j1 ≤ 9 * (k + 1) → σ1.2.2.2.2.2.1 = nI c1 → c1 ≤ k + 1 → CW dC dI cI cR s x rw j a1 a2 a3 y b1 b2 b3 ξ σ1 S_X2_init rows H locs → lv_has ls 11 [(3, .int (nI k)), (2, .int (nI pp)), (1, .ref x), (0, .ref b)] → W p l e room_1 s m #[Value.ref b] below meth c H locs 50 1893 Q (F0 m 311 ls []) := by
      intro σ1 j1 c1 H locs ls hJ1 ht1 hj1 hs1 hc1 w hl
      refine lv_iinc (v := (nI (k + 1))) (lv' := [(3, .int (nI (k + 1))), (2, .int (nI pp)), (1, .ref x), (0, .ref b)]) hx hb dL_law_311 hl (k := 0) rfl ((nI_succ _).symm) (by decide) rfl (fun ls hl => ?_)
      refine lv_goto (tgt := 81) hx hb dL_law_314 (by decide) ?_
      exact ih (k + 1) σ1 j1 c1 H locs ls (by omega) hJ1 ht1 hj1 hs1 hc1 w hl
    refine lv_iload_n hx hb dL_law_81 rfl (lv_at hl 0 rfl) ?_
    refine lv_bipush (v := 60) hx hb dL_law_82 (by decide) ?_
    refine lv_icmp_ge (tgt := 317) hx hb dL_law_84 (by decide) (fun c_84 => ?_) (fun c_84 => ?_)
    · exact absurd c_84 (nI_ge (a := k) (b := 60) (by omega) (by decide))
    · refine lv_aload_n hx hb dL_law_87 rfl (lv_at hl 3 rfl) ?_
      refine lv_iload_n hx hb dL_law_88 rfl (lv_at hl 0 rfl) ?_
      refine lv_bipush (v := 16) hx hb dL_law_89 (by decide) ?_
      refine lv_irem hx hb dL_law_91 (by decide) ?_
      have e16 : nI k - nI k / 16 * 16 = nI (k % 16) := nI_rem (a := k) (b := 16) (by omega) (by decide)
      rw [e16]
      refine l_cell C w hL (nI_pos (by omega)) ⟨Nat.le_refl _, Nat.le_refl _⟩ hl.1 (Nat.le_of_ble_eq_true rfl) dL_law_92 ?_
      refine lv_bipush (v := 11) hx hb dL_law_95 (by decide) ?_
      refine lv_iload_n hx hb dL_law_97 rfl (lv_at hl 0 rfl) ?_
      refine lv_imul hx hb dL_law_98 ?_
      refine lv_iadd hx hb dL_law_99 ?_
      generalize S_L_cell L xs (nI (k % 16)) + 11 * nI k = Y
      refine lv_bipush (v := 10) hx hb dL_law_100 (by decide) ?_
      refine l_below C (by decide) ⟨Nat.le_refl _, Nat.le_refl _⟩ hl.1 (Nat.le_of_ble_eq_true rfl) dL_law_102 ?_
      obtain ⟨h, hh, eh⟩ := p_below (v := Y) (n := 10) (by decide) (by decide)
      have eh : S_L_below Y 10 = nI h := eh
      rw [eh]
      have hw : S_X3_isThrow (nI h) = 1 := p_isT ⟨h, hh⟩
      obtain ⟨st, d, d2, hst, hdp, e1, e5, hJ2, e2, e6, h12, h22, hd2p, hpc, hev, hns, ⟨j2, hj2, ht2⟩, hcase⟩ := p_beat hJ (by omega) (show h ≤ 9 by omega) ht (by omega)
      have hT := p_tOK ht (show jt ≤ 540 by omega) (show h ≤ 9 by omega)
      refine lv_istore (lv' := [(4, .int (nI h)), (3, .int (nI k)), (2, .int (nI pp)), (1, .ref x), (0, .ref b)]) hx hb dL_law_105 hl (by decide) rfl (fun ls hl => ?_)
      refine lv_aload_n hx hb dL_law_107 rfl (lv_at hl 3 rfl) ?_
      refine lv_iconst (v := 2) hx hb dL_law_108 (by decide) ?_
      refine l_many C w (by decide) ⟨Nat.le_refl _, Nat.le_refl _⟩ hl.1 (Nat.le_of_ble_eq_true rfl) dL_law_109 ?_
      rw [many2, e1]
      refine lv_istore (lv' := [(5, .int (nI st)), (4, .int (nI h)), (3, .int (nI k)), (2, .int (nI pp)), (1, .ref x), (0, .ref b)]) hx hb dL_law_112 hl (by decide) rfl (fun ls hl => ?_)
      refine lv_aload_n hx hb dL_law_114 rfl (lv_at hl 4 rfl) ?_
      refine lv_iload hx hb dL_law_115 (lv_at hl 1 rfl) ?_
      refine l_would C w hw ⟨Nat.le_refl _, Nat.le_refl _⟩ hl.1 (Nat.le_of_ble_eq_true rfl) dL_law_117 ?_
      have ew : S_X3_would ξ σ S_X2_init rows (nI h) = S_X3_stateBehind (nI st) (nI h) := by unfold S_X3_would; rw [e1]
      rw [ew]
      generalize S_X3_stateBehind (nI st) (nI h) = nx at hcase
      refine lv_istore (lv' := [(6, .int nx), (5, .int (nI st)), (4, .int (nI h)), (3, .int (nI k)), (2, .int (nI pp)), (1, .ref x), (0, .ref b)]) hx hb dL_law_120 hl (by decide) rfl (fun ls hl => ?_)
      refine lv_aload_n hx hb dL_law_122 rfl (lv_at hl 5 rfl) ?_
      refine lv_iconst (v := 4) hx hb dL_law_123 (by decide) ?_
      refine l_many C w (by decide) ⟨Nat.le_refl _, Nat.le_refl _⟩ hl.1 (Nat.le_of_ble_eq_true rfl) dL_law_124 ?_
      rw [many4, hs]
      refine lv_istore (lv' := [(7, .int (nI cN)), (6, .int nx), (5, .int (nI st)), (4, .int (nI h)), (3, .int (nI k)), (2, .int (nI pp)), (1, .ref x), (0, .ref b)]) hx hb dL_law_127 hl (by decide) rfl (fun ls hl => ?_)
      refine lv_aload_n hx hb dL_law_129 rfl (lv_at hl 6 rfl) ?_
      refine lv_iconst (v := 5) hx hb dL_law_130 (by decide) ?_
      refine l_many C w (by decide) ⟨Nat.le_refl _, Nat.le_refl _⟩ hl.1 (Nat.le_of_ble_eq_true rfl) dL_law_131 ?_
      rw [many5, e5]
      refine lv_istore (lv' := [(8, .int (nI d)), (7, .int (nI cN)), (6, .int nx), (5, .int (nI st)), (4, .int (nI h)), (3, .int (nI k)), (2, .int (nI pp)), (1, .ref x), (0, .ref b)]) hx hb dL_law_134 hl (by decide) rfl (fun ls hl => ?_)
      refine lv_aload_n hx hb dL_law_136 rfl (lv_at hl 7 rfl) ?_
      refine lv_iload hx hb dL_law_137 (lv_at hl 4 rfl) ?_
      refine l_toss C w hw hT ⟨Nat.le_refl _, Nat.le_refl _⟩ hl.1 (Nat.le_of_ble_eq_true rfl) dL_law_139 (fun H locs w => ?_)
      have w : CW dC dI cI cR s x rw j a1 a2 a3 y b1 b2 b3 ξ (S_X0_throwNow σ (nI h)).2 S_X2_init rows H locs := w
      show W p l e room_1 s m #[Value.ref b] below meth c H locs 50 1893 Q (F0 m (139 + 3) ls [.int (S_X0_throwNow σ (nI h)).1])
      generalize (S_X0_throwNow σ (nI h)).1 = pr at hcase
      generalize (S_X0_throwNow σ (nI h)).2 = σ1 at w hJ2 e2 e6 ht2 hcase
      rw [hs] at hcase
      refine lv_istore (lv' := [(9, .int pr), (8, .int (nI d)), (7, .int (nI cN)), (6, .int nx), (5, .int (nI st)), (4, .int (nI h)), (3, .int (nI k)), (2, .int (nI pp)), (1, .ref x), (0, .ref b)]) hx hb dL_law_142 hl (by decide) rfl (fun ls hl => ?_)
      have K201 : ∀ (c1 : Nat) (ls : Array Slot), σ1.2.2.2.2.2.1 = nI c1 → c1 ≤ k + 1 → lv_has ls 11 [(8, .int (nI d)), (5, .int (nI st)), (3, .int (nI k)), (2, .int (nI pp)), (1, .ref x), (0, .ref b)] → W p l e room_1 s m #[Value.ref b] below meth c H locs 50 1893 Q (F0 m 201 ls []) := by
        intro c1 ls hs1 hc1 hl
        have K282 : ∀ ls : Array Slot, lv_has ls 11 [(8, .int (nI d)), (5, .int (nI st)), (3, .int (nI k)), (2, .int (nI pp)), (1, .ref x), (0, .ref b)] → W p l e room_1 s m #[Value.ref b] below meth c H locs 50 1893 Q (F0 m 282 ls []) := by
          intro ls hl
          refine lv_iload_n hx hb dL_law_282 rfl (lv_at hl 2 rfl) ?_
          refine lv_bipush (v := 7) hx hb dL_law_283 (by decide) ?_
          refine l_below C (by decide) ⟨Nat.le_refl _, Nat.le_refl _⟩ hl.1 (Nat.le_of_ble_eq_true rfl) dL_law_285 ?_
          refine lv_bipush (v := 6) hx hb dL_law_288 (by decide) ?_
          refine lv_icmp_ne (tgt := 311) hx hb dL_law_290 (by decide) (fun c_290 => ?_) (fun c_290 => ?_)
          · exact K311 σ1 j2 c1 H locs ls hJ2 ht2 (by omega) hs1 hc1 w (lv_sub hl [2, 3, 4, 5] rfl)
          · obtain ⟨g1, g2, g3, g4⟩ := p_pick hJ2 (show k + 1 < 900 by omega)
            refine lv_aload_n hx hb dL_law_293 rfl (lv_at hl 4 rfl) ?_
            refine l_pick C w  ⟨Nat.le_refl _, Nat.le_refl _⟩ hl.1 (Nat.le_of_ble_eq_true rfl) dL_law_294 (fun H locs w => ?_)
            have w : CW dC dI cI cR s x rw j a1 a2 a3 y b1 b2 b3 ξ (S_X0_pickUp σ1).2 S_X2_init rows H locs := w
            show W p l e room_1 s m #[Value.ref b] below meth c H locs 50 1893 Q (F0 m (294 + 3) ls [.int (S_X0_pickUp σ1).1])
            generalize (S_X0_pickUp σ1).1 = pk at g4
            generalize (S_X0_pickUp σ1).2 = σ2 at w g1 g2 g3 g4
            have K9 : W p l e room_1 s m #[Value.ref b] below meth c H locs 50 1893 Q (F0 m 311 ls []) := K311 σ2 j2 c1 H locs ls g1 (by rw [g2]; exact ht2) (by omega) (by rw [g3]; exact hs1) hc1 w (lv_sub hl [2, 3, 4, 5] rfl)
            refine lv_if_lt (tgt := 311) hx hb dL_law_297 (by decide) (fun c_297 => ?_) (fun c_297 => ?_)
            · exact K9
            · refine lv_aload_n hx hb dL_law_300 rfl (lv_at hl 4 rfl) ?_
              refine lv_bipush (v := 8) hx hb dL_law_301 (by decide) ?_
              refine l_many C w (by decide) ⟨Nat.le_refl _, Nat.le_refl _⟩ hl.1 (Nat.le_of_ble_eq_true rfl) dL_law_303 ?_
              rw [many8]
              refine lv_if_ge (tgt := 311) hx hb dL_law_306 (by decide) (fun c_306 => ?_) (fun c_306 => ?_)
              · exact K9
              · exact absurd (g4 (by rw [Int32.le_iff_toInt_le]; rw [Int32.lt_iff_toInt_lt] at c_297; omega)) c_306
        have K271 : ∀ ls : Array Slot, lv_has ls 11 [(8, .int (nI d)), (5, .int (nI st)), (3, .int (nI k)), (2, .int (nI pp)), (1, .ref x), (0, .ref b)] → W p l e room_1 s m #[Value.ref b] below meth c H locs 50 1893 Q (F0 m 271 ls []) := by
          intro ls hl
          refine lv_aload_n hx hb dL_law_271 rfl (lv_at hl 4 rfl) ?_
          refine l_tired C w  ⟨Nat.le_refl _, Nat.le_refl _⟩ hl.1 (Nat.le_of_ble_eq_true rfl) dL_law_272 ?_
          have et : S_X3_tired ξ σ1 S_X2_init rows = TT j2 := ht2
          rw [et]
          refine lv_dconst0 hx hb dL_law_275 ?_
          refine lv_dcmp hx hb dL_law_276 ?_
          refine lv_if_ge (tgt := 282) hx hb dL_law_277 (by decide) (fun c_277 => ?_) (fun c_277 => ?_)
          · exact K282 ls hl
          · exact absurd (p_tF1 ⟨j2, by omega⟩).2.2.2.1 c_277
        refine lv_aload_n hx hb dL_law_201 rfl (lv_at hl 4 rfl) ?_
        refine lv_iconst (v := 3) hx hb dL_law_202 (by decide) ?_
        refine l_many C w (by decide) ⟨Nat.le_refl _, Nat.le_refl _⟩ hl.1 (Nat.le_of_ble_eq_true rfl) dL_law_203 ?_
        have eb : S_X3_many ξ σ1 S_X2_init rows 3 = nI (k + 1) := by rw [many3]; exact hJ2.beat
        rw [eb]
        refine lv_iload_n hx hb dL_law_206 rfl (lv_at hl 2 rfl) ?_
        refine lv_iconst (v := 1) hx hb dL_law_207 (by decide) ?_
        refine lv_iadd hx hb dL_law_208 ?_
        rw [nI_1]
        refine lv_icmp_eq (tgt := 214) hx hb dL_law_209 (by decide) (fun c_209 => ?_) (fun c_209 => ?_)
        · refine lv_aload_n hx hb dL_law_214 rfl (lv_at hl 4 rfl) ?_
          refine lv_iconst (v := 5) hx hb dL_law_215 (by decide) ?_
          refine l_many C w (by decide) ⟨Nat.le_refl _, Nat.le_refl _⟩ hl.1 (Nat.le_of_ble_eq_true rfl) dL_law_216 ?_
          rw [many5, e6]
          refine lv_iload hx hb dL_law_219 (lv_at hl 0 rfl) ?_
          refine lv_icmp_lt (tgt := 280) hx hb dL_law_221 (by decide) (fun c_221 => ?_) (fun c_221 => ?_)
          · exact absurd c_221 (nI_nlt h12 (by have := hJ.p6; omega))
          · refine lv_aload_n hx hb dL_law_224 rfl (lv_at hl 4 rfl) ?_
            refine lv_iconst (v := 5) hx hb dL_law_225 (by decide) ?_
            refine l_many C w (by decide) ⟨Nat.le_refl _, Nat.le_refl _⟩ hl.1 (Nat.le_of_ble_eq_true rfl) dL_law_226 ?_
            rw [many5, e6]
            refine lv_iload hx hb dL_law_229 (lv_at hl 0 rfl) ?_
            refine lv_iconst (v := 2) hx hb dL_law_231 (by decide) ?_
            refine lv_iadd hx hb dL_law_232 ?_
            have ed2 : nI d + 2 = nI (d + 2) := nI_add d 2
            rw [ed2]
            refine lv_icmp_gt (tgt := 280) hx hb dL_law_233 (by decide) (fun c_233 => ?_) (fun c_233 => ?_)
            · exact absurd c_233 (nI_nlt h22 (by have := hJ.p6; omega))
            · refine lv_aload_n hx hb dL_law_236 rfl (lv_at hl 4 rfl) ?_
              refine lv_iconst (v := 2) hx hb dL_law_237 (by decide) ?_
              refine l_many C w (by decide) ⟨Nat.le_refl _, Nat.le_refl _⟩ hl.1 (Nat.le_of_ble_eq_true rfl) dL_law_238 ?_
              rw [many2, e2]
              refine l_bits C ⟨Nat.le_refl _, Nat.le_refl _⟩ hl.1 (Nat.le_of_ble_eq_true rfl) dL_law_241 ?_
              have ebc : S_J6_bitCount_0f7a4 (nI (nsN st h)) = nI (pcN (nsN st h)) := p_bc ⟨nsN st h, hns⟩
              rw [ebc]
              refine lv_aload_n hx hb dL_law_244 rfl (lv_at hl 4 rfl) ?_
              refine lv_iconst (v := 5) hx hb dL_law_245 (by decide) ?_
              refine l_many C w (by decide) ⟨Nat.le_refl _, Nat.le_refl _⟩ hl.1 (Nat.le_of_ble_eq_true rfl) dL_law_246 ?_
              rw [many5, e6]
              refine lv_iadd hx hb dL_law_249 ?_
              rw [nI_add, hpc]
              refine lv_iload_n hx hb dL_law_250 rfl (lv_at hl 3 rfl) ?_
              refine lv_icmp_ne (tgt := 280) hx hb dL_law_251 (by decide) (fun c_251 => ?_) (fun c_251 => ?_)
              · exact absurd rfl c_251
              · refine lv_iload hx hb dL_law_254 (lv_at hl 1 rfl) ?_
                refine lv_iconst (v := 1) hx hb dL_law_256 (by decide) ?_
                refine lv_iand hx hb dL_law_257 ?_
                refine lv_if_ne (tgt := 271) hx hb dL_law_258 (by decide) (fun c_258 => ?_) (fun c_258 => ?_)
                · exact K271 ls hl
                · refine lv_aload_n hx hb dL_law_261 rfl (lv_at hl 4 rfl) ?_
                  refine lv_iconst (v := 5) hx hb dL_law_262 (by decide) ?_
                  refine l_many C w (by decide) ⟨Nat.le_refl _, Nat.le_refl _⟩ hl.1 (Nat.le_of_ble_eq_true rfl) dL_law_263 ?_
                  rw [many5, e6, hev (p_and1 ⟨st, hst⟩ c_258)]
                  refine lv_iload hx hb dL_law_266 (lv_at hl 0 rfl) ?_
                  refine lv_icmp_ne (tgt := 280) hx hb dL_law_268 (by decide) (fun c_268 => ?_) (fun c_268 => ?_)
                  · exact absurd rfl c_268
                  · exact K271 ls hl
        · exact absurd rfl c_209
      rcases hcase with ⟨hnx, hpr, hs1⟩ | ⟨hnx, hs1⟩
      · have ec : nI cN + 1 = nI (cN + 1) := nI_1 cN
        rw [ec] at hs1
        subst hnx
        subst hpr
        refine lv_aload_n hx hb dL_law_144 rfl (lv_at hl 8 rfl) ?_
        refine lv_iconst (v := 4) hx hb dL_law_145 (by decide) ?_
        refine l_many C w (by decide) ⟨Nat.le_refl _, Nat.le_refl _⟩ hl.1 (Nat.le_of_ble_eq_true rfl) dL_law_146 ?_
        rw [many4, hs1]
        refine lv_iload hx hb dL_law_149 (lv_at hl 2 rfl) ?_
        refine lv_icmp_le (tgt := 158) hx hb dL_law_151 (by decide) (fun c_151 => ?_) (fun c_151 => ?_)
        · exact absurd c_151 (nI_ge (by omega) (by omega))
        · refine lv_iconst (v := 1) hx hb dL_law_154 (by decide) ?_
          refine lv_goto (tgt := 159) hx hb dL_law_155 (by decide) ?_
          refine lv_istore (lv' := [(10, .int 1), (9, .int (-1)), (8, .int (nI d)), (7, .int (nI cN)), (6, .int (-1)), (5, .int (nI st)), (4, .int (nI h)), (3, .int (nI k)), (2, .int (nI pp)), (1, .ref x), (0, .ref b)]) hx hb dL_law_159 hl (by decide) rfl (fun ls hl => ?_)
          refine lv_iload hx hb dL_law_161 (lv_at hl 0 rfl) ?_
          refine lv_iload hx hb dL_law_163 (lv_at hl 4 rfl) ?_
          refine lv_if_ge (tgt := 172) hx hb dL_law_165 (by decide) (fun c_165 => ?_) (fun c_165 => ?_)
          · exact absurd c_165 (by decide)
          · refine lv_iconst (v := 1) hx hb dL_law_168 (by decide) ?_
            refine lv_goto (tgt := 173) hx hb dL_law_169 (by decide) ?_
            refine lv_icmp_ne (tgt := 212) hx hb dL_law_173 (by decide) (fun c_173 => ?_) (fun c_173 => ?_)
            · exact absurd rfl c_173
            · refine lv_iload hx hb dL_law_176 (lv_at hl 0 rfl) ?_
              refine lv_if_ne (tgt := 191) hx hb dL_law_178 (by decide) (fun c_178 => ?_) (fun c_178 => ?_)
              · refine lv_iload hx hb dL_law_191 (lv_at hl 0 rfl) ?_
                refine lv_if_eq (tgt := 201) hx hb dL_law_193 (by decide) (fun c_193 => ?_) (fun c_193 => ?_)
                · exact absurd c_193 (by decide)
                · refine lv_iload hx hb dL_law_196 (lv_at hl 1 rfl) ?_
                  refine lv_if_ge (tgt := 212) hx hb dL_law_198 (by decide) (fun c_198 => ?_) (fun c_198 => ?_)
                  · exact absurd c_198 (by decide)
                  · exact K201 (cN + 1) ls hs1 (by omega) (lv_sub hl [2, 5, 7, 8, 9, 10] rfl)
              · exact absurd c_178 (by decide)
      · subst hnx
        refine lv_aload_n hx hb dL_law_144 rfl (lv_at hl 8 rfl) ?_
        refine lv_iconst (v := 4) hx hb dL_law_145 (by decide) ?_
        refine l_many C w (by decide) ⟨Nat.le_refl _, Nat.le_refl _⟩ hl.1 (Nat.le_of_ble_eq_true rfl) dL_law_146 ?_
        rw [many4, hs1]
        refine lv_iload hx hb dL_law_149 (lv_at hl 2 rfl) ?_
        refine lv_icmp_le (tgt := 158) hx hb dL_law_151 (by decide) (fun c_151 => ?_) (fun c_151 => ?_)
        · refine lv_iconst (v := 0) hx hb dL_law_158 (by decide) ?_
          refine lv_istore (lv' := [(10, .int 0), (9, .int pr), (8, .int (nI d)), (7, .int (nI cN)), (6, .int (nI (nsN st h))), (5, .int (nI st)), (4, .int (nI h)), (3, .int (nI k)), (2, .int (nI pp)), (1, .ref x), (0, .ref b)]) hx hb dL_law_159 hl (by decide) rfl (fun ls hl => ?_)
          refine lv_iload hx hb dL_law_161 (lv_at hl 0 rfl) ?_
          refine lv_iload hx hb dL_law_163 (lv_at hl 4 rfl) ?_
          refine lv_if_ge (tgt := 172) hx hb dL_law_165 (by decide) (fun c_165 => ?_) (fun c_165 => ?_)
          · refine lv_iconst (v := 0) hx hb dL_law_172 (by decide) ?_
            refine lv_icmp_ne (tgt := 212) hx hb dL_law_173 (by decide) (fun c_173 => ?_) (fun c_173 => ?_)
            · exact absurd rfl c_173
            · refine lv_iload hx hb dL_law_176 (lv_at hl 0 rfl) ?_
              refine lv_if_ne (tgt := 191) hx hb dL_law_178 (by decide) (fun c_178 => ?_) (fun c_178 => ?_)
              · exact absurd rfl c_178
              · refine lv_aload_n hx hb dL_law_181 rfl (lv_at hl 9 rfl) ?_
                refine lv_iconst (v := 2) hx hb dL_law_182 (by decide) ?_
                refine l_many C w (by decide) ⟨Nat.le_refl _, Nat.le_refl _⟩ hl.1 (Nat.le_of_ble_eq_true rfl) dL_law_183 ?_
                rw [many2, e2]
                refine lv_iload hx hb dL_law_186 (lv_at hl 4 rfl) ?_
                refine lv_icmp_ne (tgt := 212) hx hb dL_law_188 (by decide) (fun c_188 => ?_) (fun c_188 => ?_)
                · exact absurd rfl c_188
                · refine lv_iload hx hb dL_law_191 (lv_at hl 0 rfl) ?_
                  refine lv_if_eq (tgt := 201) hx hb dL_law_193 (by decide) (fun c_193 => ?_) (fun c_193 => ?_)
                  · exact K201 cN ls hs1 (by omega) (lv_sub hl [2, 5, 7, 8, 9, 10] rfl)
                  · exact absurd rfl c_193
          · exact absurd (nI_pos' (by omega)) c_165
        · exact absurd (nI_le (Nat.le_refl cN) (by omega)) c_151
end
