/-! pure facts of what the methods answer -/
theorem nI_sub {a b : Nat} (h : b ≤ a) : nI a - nI b = nI (a - b) := by
  have e : nI a = nI (a - b) + nI b := by rw [nI_add, Nat.sub_add_cancel h]
  rw [e, Int32.add_sub_cancel]
theorem nI_m1 {a : Nat} (h : a < 2 ^ 31) : ¬ nI a = -1 := by
  intro e
  have := congrArg Int32.toInt e
  rw [nI_toInt h] at this
  have h2 : (-1 : Int32).toInt = -1 := by decide
  rw [h2] at this
  omega
theorem p_cell {n k : Nat} {f : Nat → Int32} (hk : k < n) (hn : n < 2 ^ 31) : S_X3_cell n f (nI k) = f k := by
  unfold S_X3_cell
  rw [if_neg (nI_pos (by omega)), if_neg (nI_ge hk hn), nI_clamp (by omega)]
theorem p_setCell {n k : Nat} {f : Nat → Int32} {v : Int32} (hk : k < n) (hn : n < 2 ^ 31) : S_X3_setCell n f (nI k) v = upd f k v := by
  unfold S_X3_setCell
  rw [if_neg (nI_pos (by omega)), if_neg (nI_ge hk hn), nI_clamp (by omega)]
/-! what a state is, as a number below 512 -/
def pcN (s : Nat) : Nat := s % 2 + s / 2 % 2 + s / 4 % 2 + s / 8 % 2 + s / 16 % 2 + s / 32 % 2 + s / 64 % 2 + s / 128 % 2 + s / 256 % 2
theorem p_bc : ∀ s : Fin 512, S_J6_bitCount_0f7a4 (nI s.val) = nI (pcN s.val) := by decide +kernel
theorem p_bit : ∀ s : Fin 512, ∀ b : Fin 10, ((nI s.val) ||| (1 <<< ((nI b.val) &&& 31)) : Int32) = nI (s.val ||| 1 <<< b.val) ∧ (s.val.testBit b.val = false → pcN (s.val ||| 1 <<< b.val) = if b.val = 9 then pcN s.val else pcN s.val + 1) := by decide +kernel
/-- the state behind a throw -/
def nxN (s h : Nat) : Option Nat := if s % 2 = 0 then (if h = 0 then some (s / 2) else none) else (if h = 0 ∨ s.testBit h then none else some (s / 2 ||| 1 <<< (h - 1)))
theorem p_nx : ∀ s : Fin 512, ∀ h : Fin 10, S_X3_stateBehind (nI s.val) (nI h.val) = (match nxN s.val h.val with | some t => nI t | none => -1) := by decide +kernel
/-- the state that stays, let or not -/
def nsN (s h : Nat) : Nat := match nxN s h with
  | some t => t
  | none => if s % 2 = 0 then s / 2 else if h = 0 then s / 2 else (s ^^^ 1 <<< h) / 2
theorem p_ns : ∀ s : Fin 512, ∀ h : Fin 10, nsN s.val h.val < 512 ∧ pcN (nsN s.val h.val) ≤ pcN s.val ∧ pcN s.val ≤ pcN (nsN s.val h.val) + 2 ∧ (s.val % 2 = 0 → pcN (nsN s.val h.val) = pcN s.val) := by decide +kernel
theorem p_nsB : ∀ s : Fin 512, ∀ h : Fin 10, ∀ b : Fin 9, (nsN s.val h.val).testBit b.val = (if s.val % 2 = 0 then s.val.testBit (b.val + 1) else if h.val = 0 then s.val.testBit (b.val + 1) else if s.val.testBit h.val then (s.val.testBit (b.val + 1) && decide (b.val + 1 ≠ h.val)) else (s.val.testBit (b.val + 1) || decide (b.val + 1 = h.val))) := by decide +kernel
theorem p_t512 {s b : Nat} (h : s < 512) (hb : 9 ≤ b) : s.testBit b = false := Nat.testBit_lt_two_pow (Nat.lt_of_lt_of_le h (Nat.pow_le_pow_right (n := 2) (by decide) hb))
