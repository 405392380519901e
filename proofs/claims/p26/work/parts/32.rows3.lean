/-! the law's rows, and what it takes: written by wip/p26/mk30.py -/
theorem PG.number {f : Nat → Int32} {d : Nat} (h8 : d ≤ 8) (h : PG f d) : ∃ v, v < 10 ^ d ∧ S_L_number d f = nI v := by
  have h2 : ∀ i, i < d → (f i).toNatClampNeg ≤ 9 ∧ f i = nI (f i).toNatClampNeg := by
    intro i hi
    obtain ⟨e, he, ef⟩ := h i hi
    rw [ef, nI_clamp (by omega)]
    exact ⟨he, rfl⟩
  exact ⟨_, p_number h8 h2⟩
theorem p_len8 : ∀ d : Fin 9, 1 ≤ d.val → S_X3_isWithin (nI d.val) 1 8 = 1 := by decide +kernel
theorem p_told7 : ∀ k : Fin 8, S_X3_isWithin (nI k.val) 0 (8 - 1) = 1 := by decide +kernel
theorem p_take6 : ∀ k : Fin 7, 1 ≤ k.val → S_X3_isWithin (nI k.val) 1 6 = 1 := by decide +kernel
theorem RI2.RI {ρ : RS} {n : Nat} {h : Nat → Nat} (r : RI2 ρ n h) : p_RI ρ := by
  refine ⟨by rw [r.1.len]; exact r.1.1, ?_⟩
  rcases r.2 with h | h
  · exact Or.inr h.1
  · exact Or.inl h
theorem p_of1 {ξ : XS} {σ : JS} {η : YS} {rows : List RD} {i : Nat} (h : S_X3_ofRow ξ σ η rows 1 i = 1) : (rw_ rows i).2.2.2.2.2.2.2 ≠ 0 := by
  intro h0
  unfold S_X3_ofRow S_X1_answer at h
  rw [if_neg (by decide), if_pos rfl, if_pos h0] at h
  exact absurd h (by decide)
section
variable {p : Program} {l : Launch} {e : Env} {s : State} {m : MethodId} {below : List Frame} {meth : Method} {c : Code} {Q : State → Prop} {b L : Nat} {xs : Nat → Int32} {dC : Nat → ClassId} {dI : Nat → Nat → Nat} {cI cR : ClassId} {x rw j a1 a2 a3 y b1 b2 b3 : Nat} {ξ : XS} {rows : List RD}
set_option maxHeartbeats 4000000 in
set_option maxRecDepth 100000 in
theorem law_60 (C : LC p s m c b L xs dC dI cI cR) (fin : ∀ (H : Heap) (locs : List Loc) (ls : Array Slot), (∀ q ∈ locs, s.heap.size ≤ q.base) → W p l e room_1 s m #[Value.ref b] below meth c H locs 50 1893 Q (F0 m 408 ls [.int 1])) (hR : ∀ i, i < 5 → ∃ n h, RI2 (rw_ rows i).2 n h) (hlen : rows.length = 5) (hL : L < 2 ^ 31) {v2 : Int32} {H : Heap} {locs : List Loc} {ls : Array Slot} (w : CW dC dI cI cR s x rw j a1 a2 a3 y b1 b2 b3 ξ S_X0_init S_X2_init rows H locs) (hl : lv_has ls 11 [(2, .int v2), (1, .ref x), (0, .ref b)]) : W p l e room_1 s m #[Value.ref b] below meth c H locs 50 1893 Q (F0 m 60 ls []) := by
  obtain ⟨hx, hb, hml, hown, hts, hX, hbl, hE⟩ := id C
  refine lv_iconst (v := 1) hx hb dL_law_60 (by decide) ?_
  refine lv_aload_n hx hb dL_law_61 rfl (lv_at hl 2 rfl) ?_
  refine lv_iconst (v := 5) hx hb dL_law_62 (by decide) ?_
  refine l_cell C w hL (by decide) ⟨Nat.le_refl _, Nat.le_refl _⟩ hl.1 (Nat.le_of_ble_eq_true rfl) dL_law_63 ?_
  generalize S_L_cell L xs 5 = Y
  refine lv_bipush (v := 6) hx hb dL_law_66 (by decide) ?_
  refine l_below C (by decide) ⟨Nat.le_refl _, Nat.le_refl _⟩ hl.1 (Nat.le_of_ble_eq_true rfl) dL_law_68 ?_
  refine lv_iadd hx hb dL_law_71 ?_
  obtain ⟨pp, hp1, hp6, ep⟩ : ∃ d, 1 ≤ d ∧ d ≤ 6 ∧ 1 + S_L_below Y 6 = nI d := by
    obtain ⟨b0, hb0, e0⟩ := p_below (v := Y) (n := 6) (by decide) (by decide)
    have e1 : S_L_below Y 6 = nI b0 := e0
    refine ⟨1 + b0, by omega, by omega, ?_⟩
    rw [e1]
    exact nI_add 1 b0
  rw [ep]
  refine lv_istore_n (lv' := [(2, .int (nI pp)), (1, .ref x), (0, .ref b)]) hx hb dL_law_72 rfl hl (by decide) rfl (fun ls hl => ?_)
  refine lv_aload_n hx hb dL_law_73 rfl (lv_at hl 1 rfl) ?_
  refine lv_iload_n hx hb dL_law_74 rfl (lv_at hl 0 rfl) ?_
  refine l_take C w (p_take6 ⟨pp, by omega⟩ hp1) ⟨Nat.le_refl _, Nat.le_refl _⟩ hl.1 (Nat.le_of_ble_eq_true rfl) dL_law_75 (fun H locs w => ?_)
  have w : CW dC dI cI cR s x rw j a1 a2 a3 y b1 b2 b3 ξ (S_X0_startWith S_X0_init (nI pp)) S_X2_init rows H locs := w
  refine lv_pop hx hb dL_law_78 rfl ?_
  refine lv_iconst (v := 0) hx hb dL_law_79 (by decide) ?_
  refine lv_istore_n (lv' := [(3, .int 0), (2, .int (nI pp)), (1, .ref x), (0, .ref b)]) hx hb dL_law_80 rfl hl (by decide) rfl (fun ls hl => ?_)
  obtain ⟨t1, t2, t3⟩ := p_take (σ := S_X0_init) hp6
  exact law_81 C fin hR hlen hL 60 0 _ 0 0 H locs ls (by omega) t1 t2 (by omega) t3 (by omega) w hl
set_option maxHeartbeats 4000000 in
set_option maxRecDepth 100000 in
theorem law_10 (C : LC p s m c b L xs dC dI cI cR) (fin : ∀ (H : Heap) (locs : List Loc) (ls : Array Slot), (∀ q ∈ locs, s.heap.size ≤ q.base) → W p l e room_1 s m #[Value.ref b] below meth c H locs 50 1893 Q (F0 m 408 ls [.int 1])) (hL : L < 2 ^ 31) : ∀ (mm k : Nat) (ξ : XS) (rows : List RD) (H : Heap) (locs : List Loc) (ls : Array Slot), k + mm = 5 → rows.length = k → (∀ i, i < k → ∃ n h, RI2 (rw_ rows i).2 n h) → CW dC dI cI cR s x rw j a1 a2 a3 y b1 b2 b3 ξ S_X0_init S_X2_init rows H locs → lv_has ls 11 [(2, .int (nI k)), (1, .ref x), (0, .ref b)] → W p l e room_1 s m #[Value.ref b] below meth c H locs (10 + 8 * k) (1578 + 63 * k) Q (F0 m 10 ls []) := by
  obtain ⟨hx, hb, hml, hown, hts, hX, hbl, hE⟩ := id C
  intro mm
  induction mm with
  | zero =>
    intro k ξ rows H locs ls hk hlen hR w hl
    obtain rfl : k = 5 := by omega
    refine lv_iload_n hx hb dL_law_10 rfl (lv_at hl 0 rfl) ?_
    refine lv_iconst (v := 5) hx hb dL_law_11 (by decide) ?_
    refine lv_icmp_ge (tgt := 60) hx hb dL_law_12 (by decide) (fun c_12 => ?_) (fun c_12 => ?_)
    · exact law_60 C fin hR hlen hL w hl
    · exact absurd (nI_le (Nat.le_refl 5) (by decide)) c_12
  | succ mm ih =>
    intro k ξ rows H locs ls hk hlen hR w hl
    refine lv_iload_n hx hb dL_law_10 rfl (lv_at hl 0 rfl) ?_
    refine lv_iconst (v := 5) hx hb dL_law_11 (by decide) ?_
    refine lv_icmp_ge (tgt := 60) hx hb dL_law_12 (by decide) (fun c_12 => ?_) (fun c_12 => ?_)
    · exact absurd c_12 (nI_ge (a := k) (b := 5) (by omega) (by decide))
    · refine lv_aload_n hx hb dL_law_15 rfl (lv_at hl 2 rfl) ?_
      refine lv_iconst (v := 3) hx hb dL_law_16 (by decide) ?_
      refine lv_iload_n hx hb dL_law_17 rfl (lv_at hl 0 rfl) ?_
      refine lv_imul hx hb dL_law_18 ?_
      have e3 : (3 : Int32) * nI k = nI (3 * k) := nI_mul 3 k
      rw [e3]
      refine l_row C w hL (show 3 * k < 1000 by omega) ⟨by omega, by omega⟩ hl.1 (Nat.le_of_ble_eq_true rfl) dL_law_19 (fun d f q H locs hd1 hd8 hg hPq w => ?_)
      refine lv_astore_n (lv' := [(3, .ref q), (2, .int (nI k)), (1, .ref x), (0, .ref b)]) hx hb dL_law_22 rfl hl (by decide) rfl (fun ls hl => ?_)
      refine lv_aload_n hx hb dL_law_23 rfl (lv_at hl 2 rfl) ?_
      refine lv_aload_n hx hb dL_law_24 rfl (lv_at hl 0 rfl) ?_
      refine l_number C (show d < 2 ^ 31 by omega) hPq ⟨by omega, by omega⟩ hl.1 (Nat.le_of_ble_eq_true rfl) dL_law_25 ?_
      refine lv_aload_n hx hb dL_law_28 rfl (lv_at hl 0 rfl) ?_
      refine va_alen (v := nI d) hx hb hE.1 hPq 0 0 rfl rfl rfl dL_law_29 ?_
      obtain ⟨v, hv, ev⟩ := hg.number hd8
      obtain ⟨hv31, hvl⟩ := p_tellable hd8 hv
      obtain ⟨hh, r⟩ := p_rowInit (v := v) (n := d) (by omega) hd8 hv31
      rw [ev]
      have e2 : ξ.2 = nI k := by rw [← hlen]; exact w.2.2.2.2.1
      refine l_tell C w ⟨hd1, hd8⟩ (nI_pos hv31) (p_len8 ⟨d, by omega⟩ hd1) hvl (by omega) (by rw [e2]; exact p_told7 ⟨k, by omega⟩) r.RI ⟨by omega, by omega⟩ hl.1 (Nat.le_of_ble_eq_true rfl) dL_law_30 (fun u H locs w => ?_)
      refine lv_pop hx hb dL_law_33 rfl ?_
      generalize hξ : (va_up ξ.1 ξ.2.toNatClampNeg (some u.1), ξ.2 + 1) = ξ' at w
      have hlen' : (rows ++ [(u, S_X1_init (nI v) d)]).length = k + 1 := by rw [List.length_append, hlen]; rfl
      have hlast : rw_ (rows ++ [(u, S_X1_init (nI v) d)]) k = (u, S_X1_init (nI v) d) := by rw [← hlen]; exact rw_last _ _
      have hR' : ∀ i, i < k + 1 → ∃ n h, RI2 (rw_ (rows ++ [(u, S_X1_init (nI v) d)]) i).2 n h := by
        intro i hi
        by_cases hik : i = k
        · rw [hik, hlast]
          exact ⟨d, hh, r⟩
        · obtain ⟨n, h, r2⟩ := hR i (by omega)
          refine ⟨n, h, ?_⟩
          have e9 : rw_ (rows ++ [(u, S_X1_init (nI v) d)]) i = rw_ rows i := by
            unfold rw_
            rw [List.getD_eq_getElem?_getD, List.getD_eq_getElem?_getD, List.getElem?_append_left (by omega)]
          rw [e9]
          exact r2
      have r' : RI2 (rw_ (rows ++ [(u, S_X1_init (nI v) d)]) k).2 d hh := by rw [hlast]; exact r
      generalize rows ++ [(u, S_X1_init (nI v) d)] = rows' at w hlen' hR' r' hlast
      have K54 : ∀ ls : Array Slot, lv_has ls 11 [(3, .ref q), (2, .int (nI k)), (1, .ref x), (0, .ref b)] → W p l e room_1 s m #[Value.ref b] below meth c H locs (10 + 8 * k + 2 + 6) (1578 + 63 * k + 16 + 47) Q (F0 m 54 ls []) := by
        intro ls hl
        refine lv_iinc (v := (nI (k + 1))) (lv' := [(2, .int (nI (k + 1))), (3, .ref q), (1, .ref x), (0, .ref b)]) hx hb dL_law_54 hl (k := 1) rfl ((nI_succ _).symm) (by decide) rfl (fun ls hl => ?_)
        refine lv_goto (tgt := 10) hx hb dL_law_57 (by decide) ?_
        refine W.widen (k := 10 + 8 * (k + 1)) (n := 1578 + 63 * (k + 1)) (by omega) (by omega) ?_
        exact ih (k + 1) ξ' rows' H locs ls (by omega) hlen' hR' w (lv_sub hl [0, 2, 3] rfl)
      refine lv_aload_n hx hb dL_law_34 rfl (lv_at hl 2 rfl) ?_
      refine lv_iload_n hx hb dL_law_35 rfl (lv_at hl 1 rfl) ?_
      refine lv_iconst (v := 1) hx hb dL_law_36 (by decide) ?_
      refine l_ofRow C w (show k < rows'.length by omega) (by decide) ⟨by omega, by omega⟩ hl.1 (Nat.le_of_ble_eq_true rfl) dL_law_37 ?_
      refine lv_iconst (v := 1) hx hb dL_law_40 (by decide) ?_
      refine lv_icmp_ne (tgt := 54) hx hb dL_law_41 (by decide) (fun c_41 => ?_) (fun c_41 => ?_)
      · exact K54 ls hl
      · obtain ⟨s1, s2, s3⟩ := p_isShared (ξ := ξ') (σ := S_X0_init) (η := S_X2_init) r' (p_of1 c_41)
        refine lv_aload_n hx hb dL_law_44 rfl (lv_at hl 2 rfl) ?_
        refine lv_iload_n hx hb dL_law_45 rfl (lv_at hl 1 rfl) ?_
        refine l_isShared C w (show k < rows'.length by omega) s2 s3 ⟨by omega, by omega⟩ hl.1 (Nat.le_of_ble_eq_true rfl) dL_law_46 ?_
        rw [s1]
        refine lv_if_ne (tgt := 54) hx hb dL_law_49 (by decide) (fun c_49 => ?_) (fun c_49 => ?_)
        · exact K54 ls hl
        · exact absurd c_49 (by decide)
end
