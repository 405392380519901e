/-! MY OWN: what every contract of this claim stands on -/
/-- the nest mates' private methods: their links -/
def cNL : List Cond := [.methodLinkNest RX0 32 yX3_setCell "Cascadecourt", .methodLinkNest RX0 42 yX3_cell "Cascadecourt", .methodLinkNest RX0 61 yX3_stateBehind "Cascadecourt"]
def cN (U : State) : Prop := ∀ w ∈ cNL, va_Nw w U
theorem cN_form : ∀ w ∈ cNL, ∃ a i x h, w = .methodLinkNest a i x h := by
  intro w h
  simp only [cNL, List.mem_cons, List.not_mem_nil, or_false] at h
  rcases h with rfl | rfl | rfl <;> exact ⟨_, _, _, _, rfl⟩
theorem cN.warm {s U : State} (hW : s.WarmedH U.vm) (h : cN s) : cN U := by
  intro w hw
  obtain ⟨a, i, x, n, rfl⟩ := cN_form w hw
  exact va_Nw.warmM hW (h _ hw)
abbrev cT (cI cR : ClassId) : List (ClassId × FieldType) := [(cI, .int), (cR, .object "Cascadecourt$Row")]
/-- the classes, the arrays and the links, as the tables have them -/
def cE (D : va_G) (cI cR : ClassId) (U : State) : Prop := va_K D vwCl (cT cI cR) U ∧ cN U
theorem cE.warm {D : va_G} {cI cR : ClassId} {s U : State} (hW : s.WarmedH U.vm) (h : cE D cI cR s) : cE D cI cR U := ⟨va_K.moved hW.alike h.1, h.2.warm hW⟩
theorem cE.same {D : va_G} {cI cR : ClassId} {s U : State} (hv : s.vm = U.vm) (h : cE D cI cR s) : cE D cI cR U := by
  refine ⟨va_K.moved (by rw [hv]; exact Vm.Alike.refl _) h.1, fun w hw => ?_⟩
  obtain ⟨a, i, x, n, rfl⟩ := cN_form w hw
  exact va_Nw.same rfl hv (h.2 _ hw)
/-- an element of a row, by the class's own look at its index -/
def p_cell (n : Int32) (f : Nat → Int32) (i : Int32) : Int32 := if i < 0 then 0 else if n ≤ i then 0 else f i.toNatClampNeg
theorem p_clt (x : Int32) : x.toNatClampNeg < 2147483648 := by
  have h := x.toInt_lt
  show x.toInt.toNat < _
  omega
theorem p_le {x : Int32} {k : Nat} (hk : k < 2147483648) : x ≤ nI k ↔ x.toNatClampNeg ≤ k := by
  rw [Int32.le_iff_toInt_le, nI_toInt hk]
  show _ ↔ x.toInt.toNat ≤ k
  omega
theorem p_lt {x : Int32} {k : Nat} (hk : k < 2147483648) : nI k < x ↔ k < x.toNatClampNeg := by
  rw [Int32.lt_iff_toInt_lt, nI_toInt hk]
  show _ ↔ k < x.toInt.toNat
  omega
theorem p_nar {r : Int32} (h : r = 0 ∨ r = 1) : narrow .boolean (.int r) = .int r := by
  rcases h with rfl | rfl <;> rfl
theorem p_fit {r : Int32} (h : r = 0 ∨ r = 1) : fits .boolean (.int r) = true := by
  rcases h with rfl | rfl <;> rfl
theorem p_vp {i : Int32} {n : Nat} (hn : n < 2 ^ 31) (h1 : ¬ i < 0) (h2 : ¬ nI n ≤ i) : vp_in i n := by
  intro h
  rcases h with h | h
  · exact h1 h
  · obtain ⟨k, hk, rfl⟩ := nI_of h1
    rw [nI_clamp hk] at h
    exact h2 (nI_le h hk)
