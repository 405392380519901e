/-! the law's end, from the first digest on: written by wip/p26/mk30.py -/
theorem p_gt9 {v : Int32} (h : v = -1 ∨ ∃ d, d ≤ 9 ∧ v = nI d) : ¬ (9 : Int32) < v := by
  rcases h with rfl | ⟨d, hd, rfl⟩
  · decide
  · exact p_9n hd
theorem p_locs {s : State} {H : Heap} {locs : List Loc} (hS : va_S (va_A [] s.heap.size) s.heap H locs) : ∀ q ∈ locs, s.heap.size ≤ q.base := by
  intro q hq
  rcases hS.2.2 q hq with ⟨k, z, h⟩ | h
  · simp at h
  · exact h
section
variable {p : Program} {l : Launch} {e : Env} {s : State} {m : MethodId} {below : List Frame} {meth : Method} {c : Code} {Q : State → Prop} {b L : Nat} {xs : Nat → Int32} {dC : Nat → ClassId} {dI : Nat → Nat → Nat} {cI cR : ClassId} {x rw j a1 a2 a3 y b1 b2 b3 : Nat} {ξ : XS} {rows : List RD}
set_option maxHeartbeats 4000000 in
set_option maxRecDepth 100000 in
/-- the last row of the law: how many rows there are of three throws and two props, and the checksum once more -/
theorem law_383 (C : LC p s m c b L xs dC dI cI cR) (fin : ∀ (H : Heap) (locs : List Loc) (ls : Array Slot), (∀ q ∈ locs, s.heap.size ≤ q.base) → W p l e room_1 s m #[Value.ref b] below meth c H locs 50 1893 Q (F0 m 408 ls [.int 1])) {σ : JS} {η η0 z : YS} {H : Heap} {locs : List Loc} {ls : Array Slot} {v2 : Int32} (hz : WE σ z z) (h0 : WE σ z η0) (h : WE σ z η) (hn : vf_n64 (FP.dmul 4620693217682128896 (S_X0_tiredness σ))) (w : CW dC dI cI cR s x rw j a1 a2 a3 y b1 b2 b3 ξ σ η rows H locs) (hl : lv_has ls 11 [(3, .long (S_X3_digest ξ σ η0 rows).1), (2, .int v2), (1, .ref x), (0, .ref b)]) : W p l e room_1 s m #[Value.ref b] below meth c H locs 50 1893 Q (F0 m 383 ls []) := by
  obtain ⟨hx, hb, hml, hown, hts, hX, hbl, hE⟩ := id C
  refine lv_aload_n hx hb dL_law_383 rfl (lv_at hl 2 rfl) ?_
  refine lv_iconst (v := 3) hx hb dL_law_384 (by decide) ?_
  refine lv_iconst (v := 2) hx hb dL_law_385 (by decide) ?_
  refine l_count C w  ⟨Nat.le_refl _, Nat.le_refl _⟩ hl.1 (Nat.le_of_ble_eq_true rfl) dL_law_386 ?_
  rw [p_count]
  refine lv_bipush (v := 19) hx hb dL_law_389 (by decide) ?_
  refine lv_icmp_ne (tgt := 407) hx hb dL_law_391 (by decide) (fun c_391 => ?_) (fun c_391 => ?_)
  · exact absurd rfl c_391
  · refine lv_aload_n hx hb dL_law_394 rfl (lv_at hl 2 rfl) ?_
    refine l_digest C w hn ⟨Nat.le_refl _, Nat.le_refl _⟩ hl.1 (Nat.le_of_ble_eq_true rfl) dL_law_395 (fun H locs w => ?_)
    rw [← (p_digest (rows := rows) (ξ := ξ) hz h0 h).1]
    refine lv_lload_n hx hb dL_law_398 rfl (lv_at hl 0 rfl) ?_
    refine W.lcmp hx hb dL_law_399 ?_
    have e0 : lg_cmp (S_X3_digest ξ σ η0 rows).1 (S_X3_digest ξ σ η0 rows).1 = 0 := by simp [lg_cmp]
    rw [e0]
    refine lv_if_ne (tgt := 407) hx hb dL_law_400 (by decide) (fun c_400 => ?_) (fun c_400 => ?_)
    · exact absurd rfl c_400
    · refine lv_iconst (v := 1) hx hb dL_law_403 (by decide) ?_
      refine lv_goto (tgt := 408) hx hb dL_law_404 (by decide) ?_
      exact fin H locs ls (p_locs w.2.2.1)
set_option maxHeartbeats 4000000 in
set_option maxRecDepth 100000 in
/-- five asks of each row: none changes the checksum -/
theorem law_325 (C : LC p s m c b L xs dC dI cI cR) (fin : ∀ (H : Heap) (locs : List Loc) (ls : Array Slot), (∀ q ∈ locs, s.heap.size ≤ q.base) → W p l e room_1 s m #[Value.ref b] below meth c H locs 50 1893 Q (F0 m 408 ls [.int 1])) (hR : ∀ i, i < 5 → ∃ n h, RI2 (rw_ rows i).2 n h) (hlen : rows.length = 5) {σ : JS} {η0 z : YS} {v2 : Int32} {st : Nat} (hst : st < 512) (hS0 : S_X0_state σ = nI st) (hB : BF z.1 z.2.1 st) (hz : WE σ z z) (h0 : WE σ z η0) (hn : vf_n64 (FP.dmul 4620693217682128896 (S_X0_tiredness σ))) : ∀ (mm k : Nat) (η : YS) (H : Heap) (locs : List Loc) (ls : Array Slot), k + mm = 5 → WE σ z η → CW dC dI cI cR s x rw j a1 a2 a3 y b1 b2 b3 ξ σ η rows H locs → lv_has ls 11 [(5, .int (nI k)), (3, .long (S_X3_digest ξ σ η0 rows).1), (2, .int v2), (1, .ref x), (0, .ref b)] → W p l e room_1 s m #[Value.ref b] below meth c H locs 50 1893 Q (F0 m 325 ls []) := by
  obtain ⟨hx, hb, hml, hown, hts, hX, hbl, hE⟩ := id C
  intro mm
  induction mm with
  | zero =>
    intro k η H locs ls hk hW w hl
    refine lv_iload hx hb dL_law_325 (lv_at hl 0 rfl) ?_
    refine lv_iconst (v := 5) hx hb dL_law_327 (by decide) ?_
    refine lv_icmp_ge (tgt := 383) hx hb dL_law_328 (by decide) (fun c_328 => ?_) (fun c_328 => ?_)
    · exact law_383 C fin hz h0 hW hn w (lv_sub hl [1, 2, 3, 4] rfl)
    · exact absurd (nI_le (a := 5) (b := k) (by omega) (by omega)) c_328
  | succ mm ih =>
    intro k η H locs ls hk hW w hl
    obtain ⟨n, h, r⟩ := hR k (by omega)
    have hi : k < rows.length := by omega
    refine lv_iload hx hb dL_law_325 (lv_at hl 0 rfl) ?_
    refine lv_iconst (v := 5) hx hb dL_law_327 (by decide) ?_
    refine lv_icmp_ge (tgt := 383) hx hb dL_law_328 (by decide) (fun c_328 => ?_) (fun c_328 => ?_)
    · exact absurd c_328 (nI_ge (a := k) (b := 5) (by omega) (by decide))
    · refine lv_aload_n hx hb dL_law_331 rfl (lv_at hl 3 rfl) ?_
      refine lv_iload hx hb dL_law_332 (lv_at hl 0 rfl) ?_
      have b1 : ¬ (9 : Int32) < (S_X3_way ξ σ η rows k).1 := p_gt9 (p_stB hst hS0 hW hB r)
      have hW1 : WE σ z (S_X3_way ξ σ η rows k).2 := (p_stE hz hW hW).2
      refine l_way C w hi ⟨Nat.le_refl _, Nat.le_refl _⟩ hl.1 (Nat.le_of_ble_eq_true rfl) dL_law_334 (fun H locs w => ?_)
      generalize (S_X3_way ξ σ η rows k).2 = η1 at w hW1
      refine lv_bipush (v := 9) hx hb dL_law_337 (by decide) ?_
      refine lv_icmp_gt (tgt := 375) hx hb dL_law_339 (by decide) (fun c_339 => ?_) (fun c_339 => ?_)
      · exact absurd c_339 b1
      · refine lv_aload_n hx hb dL_law_342 rfl (lv_at hl 3 rfl) ?_
        refine lv_iload hx hb dL_law_343 (lv_at hl 0 rfl) ?_
        have b2 : ¬ (9 : Int32) < (S_X3_first ξ σ η1 rows k).1 := p_gt9 (p_ftB hst hS0 hW1 hB r)
        have hW2 : WE σ z (S_X3_first ξ σ η1 rows k).2 := (p_ftE hz hW1 hW1).2
        refine l_first C w hi ⟨Nat.le_refl _, Nat.le_refl _⟩ hl.1 (Nat.le_of_ble_eq_true rfl) dL_law_345 (fun H locs w => ?_)
        generalize (S_X3_first ξ σ η1 rows k).2 = η2 at w hW2
        refine lv_bipush (v := 9) hx hb dL_law_348 (by decide) ?_
        refine lv_icmp_gt (tgt := 375) hx hb dL_law_350 (by decide) (fun c_350 => ?_) (fun c_350 => ?_)
        · exact absurd c_350 b2
        · refine lv_aload_n hx hb dL_law_353 rfl (lv_at hl 3 rfl) ?_
          refine lv_iload hx hb dL_law_354 (lv_at hl 0 rfl) ?_
          refine lv_iload hx hb dL_law_356 (lv_at hl 0 rfl) ?_
          refine l_alike C w hi hi ⟨Nat.le_refl _, Nat.le_refl _⟩ hl.1 (Nat.le_of_ble_eq_true rfl) dL_law_358 ?_
          rw [p_alike r.1]
          refine lv_if_ne (tgt := 375) hx hb dL_law_361 (by decide) (fun c_361 => ?_) (fun c_361 => ?_)
          · exact absurd rfl c_361
          · refine lv_aload_n hx hb dL_law_364 rfl (lv_at hl 3 rfl) ?_
            refine lv_iload hx hb dL_law_365 (lv_at hl 0 rfl) ?_
            obtain ⟨mx, hmx, emx⟩ := p_highest r.1
            refine l_high C w hi (by rw [emx]; exact p_mOK hmx) ⟨Nat.le_refl _, Nat.le_refl _⟩ hl.1 (Nat.le_of_ble_eq_true rfl) dL_law_367 ?_
            have eh : S_X3_high ξ σ η2 rows k = S_X3_metresOf (nI mx) := by unfold S_X3_high; rw [emx]
            rw [eh]
            refine lv_dconst0 hx hb dL_law_370 ?_
            refine lv_dcmp hx hb dL_law_371 ?_
            refine lv_if_ge (tgt := 377) hx hb dL_law_372 (by decide) (fun c_372 => ?_) (fun c_372 => ?_)
            · refine lv_iinc (v := (nI (k + 1))) (lv' := [(5, .int (nI (k + 1))), (3, .long (S_X3_digest ξ σ η0 rows).1), (2, .int v2), (1, .ref x), (0, .ref b)]) hx hb dL_law_377 hl (k := 0) rfl ((nI_succ _).symm) (by decide) rfl (fun ls hl => ?_)
              refine lv_goto (tgt := 325) hx hb dL_law_380 (by decide) ?_
              exact ih (k + 1) η2 H locs ls (by omega) hW2 w hl
            · exact absurd (p_high hmx) c_372
set_option maxHeartbeats 4000000 in
set_option maxRecDepth 100000 in
/-- from the first digest on, for a juggler of any beat -/
theorem law_317 (C : LC p s m c b L xs dC dI cI cR) (fin : ∀ (H : Heap) (locs : List Loc) (ls : Array Slot), (∀ q ∈ locs, s.heap.size ≤ q.base) → W p l e room_1 s m #[Value.ref b] below meth c H locs 50 1893 Q (F0 m 408 ls [.int 1])) (hR : ∀ i, i < 5 → ∃ n h, RI2 (rw_ rows i).2 n h) (hlen : rows.length = 5) {σ : JS} {pp bt jt : Nat} {v2 v3 : Int32} {H : Heap} {locs : List Loc} {ls : Array Slot} (hJ : JI σ pp bt) (ht : σ.2.2.2.2.2.2.2 = TT jt) (hj : jt ≤ 540) (w : CW dC dI cI cR s x rw j a1 a2 a3 y b1 b2 b3 ξ σ S_X2_init rows H locs) (hl : lv_has ls 11 [(3, .int v3), (2, .int v2), (1, .ref x), (0, .ref b)]) : W p l e room_1 s m #[Value.ref b] below meth c H locs 50 1893 Q (F0 m 317 ls []) := by
  obtain ⟨hx, hb, hml, hown, hts, hX, hbl, hE⟩ := id C
  obtain ⟨st, hst, hS0, -, -⟩ := hJ.state
  have hn : vf_n64 (FP.dmul 4620693217682128896 (S_X0_tiredness σ)) := by unfold S_X0_tiredness; rw [ht]; exact (p_tF1 ⟨jt, by omega⟩).2.2.1
  obtain ⟨-, hB, hzz⟩ := p_look2 (η := S_X2_init) hst (Or.inl rfl)
  generalize ez : S_X2_lookFrom S_X2_init (nI st) = z at hB hzz
  have hz : WE σ z z := by unfold WE; rw [hS0]; exact hzz
  have h0 : WE σ z S_X2_init := by unfold WE; rw [hS0]; exact ez
  have hd : WE σ z (S_X3_digest ξ σ S_X2_init rows).2 := (p_digest hz h0 h0).2
  refine lv_aload_n hx hb dL_law_317 rfl (lv_at hl 2 rfl) ?_
  refine l_digest C w hn ⟨Nat.le_refl _, Nat.le_refl _⟩ hl.1 (Nat.le_of_ble_eq_true rfl) dL_law_318 (fun H locs w => ?_)
  generalize (S_X3_digest ξ σ S_X2_init rows).2 = η1 at w hd
  refine lv_lstore_n (lv' := [(3, .long (S_X3_digest ξ σ S_X2_init rows).1), (2, .int v2), (1, .ref x), (0, .ref b)]) hx hb dL_law_321 rfl hl (by decide) rfl (fun ls hl => ?_)
  refine lv_iconst (v := 0) hx hb dL_law_322 (by decide) ?_
  refine lv_istore (lv' := [(5, .int 0), (3, .long (S_X3_digest ξ σ S_X2_init rows).1), (2, .int v2), (1, .ref x), (0, .ref b)]) hx hb dL_law_323 hl (by decide) rfl (fun ls hl => ?_)
  exact law_325 C fin hR hlen hst hS0 hB hz h0 hn 5 0 η1 H locs ls (by omega) hd w hl
end
