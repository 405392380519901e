/-! pure facts of what the methods answer -/
/-! what the law asks of a sound row -/
theorem p_isShared {ξ : XS} {σ : JS} {η : YS} {rows : List RD} {i n : Nat} {h : Nat → Nat} (r : RI2 (rw_ rows i).2 n h) (hs : (rw_ rows i).2.2.2.2.2.2.2 ≠ 0) : S_L_isShared ξ σ η rows i = 1 ∧ (∀ k, k < (S_X3_ofRow ξ σ η rows 0 i).toNatClampNeg → S_X1_hasSite (rw_ rows i).2 (nI k) = 1) ∧ ¬ S_X3_ofRow ξ σ η rows 8 i = 0 := by
  have w := r.1
  have h0 := w.1
  have h8 := w.2.1
  obtain ⟨a0, a2, hP, hS, hk, ⟨m, hm, a9⟩, ⟨o, ho, a5⟩, ⟨d, hd1, hd2, hd3, a8⟩⟩ := p_answers r hs
  have b0 : S_X3_ofRow ξ σ η rows 0 i = nI n := a0
  have b2 : S_X3_ofRow ξ σ η rows 2 i = nI (prN n h) := a2
  have b9 : S_X3_ofRow ξ σ η rows 9 i = nI m := a9
  have b5 : S_X3_ofRow ξ σ η rows 5 i = nI o := a5
  have b8 : S_X3_ofRow ξ σ η rows 8 i = nI d := a8
  have hnP : n * prN n h ≤ 72 := Nat.mul_le_mul h8 hP
  refine ⟨?_, fun k hkl => ?_, ?_⟩
  · have hG : ∀ mm k, k + mm = n → G_L_isShared_20 ξ σ η rows i mm k (nI (sm h k)) = 1 := by
      intro mm
      induction mm with
      | zero =>
        intro k hkn
        obtain rfl : k = n := by omega
        unfold G_L_isShared_20
        rw [b0, b2, b9, b5, b8, nI_mul, hS, if_pos rfl, if_neg (nI_nlt hm (by omega)), if_neg (nI_pos (show prN k h < 2 ^ 31 by omega)), if_neg (nI_nlt ho (by omega)), nI_rem (by omega) (by omega), hd3, if_pos (by decide)]
      | succ mm ih =>
        intro k hkn
        obtain ⟨c0, c1, ⟨s, hs5, c2, c3⟩, ⟨q, hq, c4, c5⟩⟩ := hk k (by omega)
        have d0 : S_X3_ofSite ξ σ η rows (nI k) 0 i = nI (h k) := c0
        have d2 : S_X3_ofSite ξ σ η rows (nI k) 2 i = nI s := c2
        have d3 : S_X3_ofSite ξ σ η rows (nI k) 3 i = nI (n * q) := c4
        have d4 : S_X3_ofSite ξ σ η rows (nI k) 4 i = nI q := c5
        have hbc := p_bc ⟨s, hs5⟩
        simp only at hbc
        unfold G_L_isShared_20
        rw [d0, d2, d3, d4, b0, b2, hbc, c3, if_pos rfl, if_neg (nI_nlt hq (by omega)), nI_mul, if_pos rfl, nI_add]
        exact ih (k + 1) (by omega)
    unfold S_L_isShared
    rw [b0, nI_clamp (by omega)]
    exact hG n 0 (by omega)
  · rw [b0, nI_clamp (by omega)] at hkl
    unfold S_X1_hasSite
    rw [if_neg (nI_pos (by omega)), w.2.2.1, if_neg (nI_ge hkl (by omega))]
  · rw [b8]
    exact nI_ne0 hd1 (by omega)
