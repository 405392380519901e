/-! pure facts of what the law makes -/
/-! a row's number -/
def numN (e : Nat → Nat) : Nat → Nat
  | 0 => 0
  | k + 1 => 10 * numN e k + e k
theorem numN_lt {e : Nat → Nat} {d : Nat} (he : ∀ i, i < d → e i ≤ 9) : ∀ k, k ≤ d → numN e k < 10 ^ k
  | 0, _ => by
    show 0 < 1
    decide
  | k + 1, hk => by
    show 10 * numN e k + e k < 10 ^ (k + 1)
    have := numN_lt he k (by omega)
    have := he k (by omega)
    rw [Nat.pow_succ]
    omega
theorem p_numG {e : Nat → Nat} {f : Nat → Int32} {d : Nat} (h8 : d ≤ 8) (hf : ∀ i, i < d → f i = nI (e i)) : ∀ mm k, k + mm = d → G_L_number_10 d f mm k (nI (numN e k)) = nI (numN e d) := by
  intro mm
  induction mm with
  | zero =>
    intro k hk
    obtain rfl : k = d := by omega
    rfl
  | succ mm ih =>
    intro k hk
    have e10 : (10 : Int32) = nI 10 := by decide
    show G_L_number_10 d f mm (k + 1) ((10 * nI (numN e k)) + (f (nI k).toNatClampNeg)) = _
    rw [nI_clamp (by omega), hf k (by omega), e10, nI_mul, nI_add]
    exact ih (k + 1) (by omega)
theorem p_number {e : Nat → Nat} {f : Nat → Int32} {d : Nat} (h8 : d ≤ 8) (hf : ∀ i, i < d → e i ≤ 9 ∧ f i = nI (e i)) : numN e d < 10 ^ d ∧ S_L_number d f = nI (numN e d) := ⟨numN_lt (fun i hi => (hf i hi).1) d (Nat.le_refl _), p_numG h8 (fun i hi => (hf i hi).2) d 0 (by omega)⟩
theorem p_longer : ∀ d : Fin 9, S_X3_firstNumberLongerThan (nI d.val) = nI (10 ^ d.val) := by decide +kernel
theorem p_tellable {v d : Nat} (h8 : d ≤ 8) (hv : v < 10 ^ d) : v < 2 ^ 31 ∧ nI v < S_X3_firstNumberLongerThan (nI d) := by
  have h1 := p_longer ⟨d, by omega⟩
  simp only at h1
  have h2 : 10 ^ d ≤ 10 ^ 8 := Nat.pow_le_pow_right (by decide) h8
  rw [h1]
  exact ⟨by omega, nI_lt hv (by omega)⟩
/-- below: an index -/
theorem p_below {v : Int32} {n : Nat} (h0 : 0 < n) (hn : n < 2 ^ 31) : ∃ j, j < n ∧ S_L_below v (nI n) = nI j := by
  have hz : ¬ (v &&& 2147483647) < 0 := by
    intro h
    have h2 : (v &&& 2147483647).toBitVec.msb = false := by
      rw [Int32.toBitVec_and, BitVec.msb_and]
      have : (2147483647 : Int32).toBitVec.msb = false := by decide
      rw [this, Bool.and_false]
    rw [Int32.lt_iff_toInt_lt] at h
    have h3 : (v &&& 2147483647).toInt = (v &&& 2147483647).toBitVec.toInt := rfl
    rw [h3, BitVec.toInt_eq_msb_cond, h2] at h
    simp at h
    omega
  obtain ⟨x, hx, e⟩ := nI_of hz
  unfold S_L_below
  rw [e, nI_rem hx hn]
  exact ⟨x % n, Nat.mod_lt _ h0, rfl⟩
/-- a throw that lands where it is to land, and is no higher than nine -/
theorem p_made {l d b : Nat} (hl : l ≤ 9) (hb : b < (9 - l) / d + 1) : l + d * b ≤ 9 := by
  have h1 : d * b ≤ d * ((9 - l) / d) := Nat.mul_le_mul_left d (by omega)
  have h2 := Nat.mul_div_le (9 - l) d
  omega
