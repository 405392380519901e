/-! MY OWN: what every contract of this claim stands on -/
/-- the nest mates' private methods: their links -/
def cNL : List Cond := [.methodLinkNest RX0 32 yX3_setCell "Cascadecourt", .methodLinkNest RX0 42 yX3_cell "Cascadecourt", .methodLinkNest RX0 61 yX3_stateBehind "Cascadecourt", .methodLinkNest RX1 31 yX3_setCell "Cascadecourt", .methodLinkNest RX1 52 yX3_cell "Cascadecourt", .methodLinkNest RX2 25 yX3_cell "Cascadecourt", .methodLinkNest RX2 35 yX3_setCell "Cascadecourt", .methodLinkNest RX2 43 yX3_stateBehind "Cascadecourt", .methodLinkNest RX3 17 yX0_init "Cascadecourt", .methodLinkNest RX3 24 yX2_init "Cascadecourt"]
def cN (U : State) : Prop := ∀ w ∈ cNL, va_Nw w U
theorem cN_form : ∀ w ∈ cNL, ∃ a i x h, w = .methodLinkNest a i x h := by
  intro w h
  simp only [cNL, List.mem_cons, List.not_mem_nil, or_false] at h
  rcases h with rfl | rfl | rfl | rfl | rfl | rfl | rfl | rfl | rfl | rfl <;> exact ⟨_, _, _, _, rfl⟩
theorem cN.warm {s U : State} (hW : s.WarmedH U.vm) (h : cN s) : cN U := by
  intro w hw
  obtain ⟨a, i, x, n, rfl⟩ := cN_form w hw
  exact va_Nw.warmM hW (h _ hw)
abbrev cT (cI cR : ClassId) : List (ClassId × FieldType) := [(cI, .int), (cR, .object "Cascadecourt$Row")]
/-- the classes, the arrays and the links, as the tables have them -/
def cE (D : va_G) (cI cR : ClassId) (U : State) : Prop := va_K D vwCl (cT cI cR) U ∧ cN U
theorem cE.warm {D : va_G} {cI cR : ClassId} {s U : State} (hW : s.WarmedH U.vm) (h : cE D cI cR s) : cE D cI cR U := ⟨va_K.moved hW.alike h.1, h.2.warm hW⟩
theorem cE.same {D : va_G} {cI cR : ClassId} {s U : State} (hv : s.vm = U.vm) (h : cE D cI cR s) : cE D cI cR U := by
  refine ⟨va_K.moved (by rw [hv]; exact Vm.Alike.refl _) h.1, fun w hw => ?_⟩
  obtain ⟨a, i, x, n, rfl⟩ := cN_form w hw
  exact va_Nw.same rfl hv (h.2 _ hw)
theorem p_clt (x : Int32) : x.toNatClampNeg < 2147483648 := by
  have h := x.toInt_lt
  show x.toInt.toNat < _
  omega
theorem p_le {x : Int32} {k : Nat} (hk : k < 2147483648) : x ≤ nI k ↔ x.toNatClampNeg ≤ k := by
  rw [Int32.le_iff_toInt_le, nI_toInt hk]
  show _ ↔ x.toInt.toNat ≤ k
  omega
theorem p_lt {x : Int32} {k : Nat} (hk : k < 2147483648) : nI k < x ↔ k < x.toNatClampNeg := by
  rw [Int32.lt_iff_toInt_lt, nI_toInt hk]
  show _ ↔ k < x.toInt.toNat
  omega
theorem p_nar {r : Int32} (h : r = 0 ∨ r = 1) : narrow .boolean (.int r) = .int r := by
  rcases h with rfl | rfl <;> rfl
theorem p_fit {r : Int32} (h : r = 0 ∨ r = 1) : fits .boolean (.int r) = true := by
  rcases h with rfl | rfl <;> rfl
theorem p_vp {i : Int32} {n : Nat} (hn : n < 2 ^ 31) (h1 : ¬ i < 0) (h2 : ¬ nI n ≤ i) : vp_in i n := by
  intro h
  rcases h with h | h
  · exact h1 h
  · obtain ⟨k, hk, rfl⟩ := nI_of h1
    rw [nI_clamp hk] at h
    exact h2 (nI_le h hk)
/-! the worlds: a juggler, a row, the ways, a court: each a few cells, read off one value -/
abbrev JS : Type := (Nat → Int32) × (Nat → Int32) × (Nat → Int32) × Int32 × Int32 × Int32 × Int32 × UInt64
abbrev RS : Type := (Nat → Int32) × (Nat → Int32) × (Nat → Int32) × (Nat → Int32) × (Nat → Int32) × Int32 × Int32
abbrev YS : Type := (Nat → Int32) × (Nat → Int32) × (Nat → Int32) × Int32
abbrev XS : Type := (Nat → Option Nat) × Int32
abbrev wJ (cI : ClassId) (j a1 a2 a3 : Nat) (σ : JS) : va_W := [(j, .inr (0, [.ref a1, .ref a2, .ref a3, .int σ.2.2.2.1, .int σ.2.2.2.2.1, .int σ.2.2.2.2.2.1, .int σ.2.2.2.2.2.2.1, .double σ.2.2.2.2.2.2.2])), (a1, .inl (cI, 6, .inl σ.1)), (a2, .inl (cI, 6, .inl σ.2.1)), (a3, .inl (cI, 6, .inl σ.2.2.1))]
abbrev wR (cI : ClassId) (h h1 h2 h3 h4 h5 : Nat) (ρ : RS) : va_W := [(h, .inr (1, [.ref h1, .ref h2, .ref h3, .ref h4, .ref h5, .int ρ.2.2.2.2.2.1, .int ρ.2.2.2.2.2.2])), (h1, .inl (cI, 8, .inl ρ.1)), (h2, .inl (cI, 8, .inl ρ.2.1)), (h3, .inl (cI, 8, .inl ρ.2.2.1)), (h4, .inl (cI, 8, .inl ρ.2.2.2.1)), (h5, .inl (cI, 8, .inl ρ.2.2.2.2.1))]
abbrev wY (cI : ClassId) (y b1 b2 b3 : Nat) (η : YS) : va_W := [(y, .inr (2, [.ref b1, .ref b2, .ref b3, .int η.2.2.2])), (b1, .inl (cI, 512, .inl η.1)), (b2, .inl (cI, 512, .inl η.2.1)), (b3, .inl (cI, 512, .inl η.2.2.1))]
abbrev wX (_cI cR : ClassId) (x rw j y : Nat) (ξ : XS) : va_W := [(x, .inr (3, [.ref rw, .ref j, .ref y, .int ξ.2])), (rw, .inl (cR, 8, .inr (.inr (.inr (.inr ξ.1)))))]
theorem p_out3 {x : Int32} (k0 : ¬ x = 0) (k1 : ¬ x = 1) (k2 : ¬ x = 2) : x.toInt < 0 ∨ 2 < x.toInt := by
  by_cases h0 : x.toInt < 0
  · exact Or.inl h0
  · by_cases h1 : 2 < x.toInt
    · exact Or.inr h1
    · exfalso
      obtain ⟨j, hj, rfl⟩ := nI_of (x := x) (fun q => h0 (by rw [Int32.lt_iff_toInt_lt, Int32.toInt_zero] at q; exact q))
      rw [nI_toInt hj] at h1
      have hj2 : j < 3 := by omega
      match j, hj2 with
      | 0, _ => exact k0 rfl
      | 1, _ => exact k1 rfl
      | 2, _ => exact k2 rfl
theorem p_out4 {x : Int32} (k0 : ¬ x = 0) (k1 : ¬ x = 1) (k2 : ¬ x = 2) (k3 : ¬ x = 3) : x.toInt < 0 ∨ 3 < x.toInt := by
  by_cases h0 : x.toInt < 0
  · exact Or.inl h0
  · by_cases h1 : 3 < x.toInt
    · exact Or.inr h1
    · exfalso
      obtain ⟨j, hj, rfl⟩ := nI_of (x := x) (fun q => h0 (by rw [Int32.lt_iff_toInt_lt, Int32.toInt_zero] at q; exact q))
      rw [nI_toInt hj] at h1
      have hj2 : j < 4 := by omega
      match j, hj2 with
      | 0, _ => exact k0 rfl
      | 1, _ => exact k1 rfl
      | 2, _ => exact k2 rfl
      | 3, _ => exact k3 rfl
theorem p_out9 {x : Int32} (k0 : ¬ x = 0) (k1 : ¬ x = 1) (k2 : ¬ x = 2) (k3 : ¬ x = 3) (k4 : ¬ x = 4) (k5 : ¬ x = 5) (k6 : ¬ x = 6) (k7 : ¬ x = 7) (k8 : ¬ x = 8) : x.toInt < 0 ∨ 8 < x.toInt := by
  by_cases h0 : x.toInt < 0
  · exact Or.inl h0
  · by_cases h1 : 8 < x.toInt
    · exact Or.inr h1
    · exfalso
      obtain ⟨j, hj, rfl⟩ := nI_of (x := x) (fun q => h0 (by rw [Int32.lt_iff_toInt_lt, Int32.toInt_zero] at q; exact q))
      rw [nI_toInt hj] at h1
      have hj2 : j < 9 := by omega
      match j, hj2 with
      | 0, _ => exact k0 rfl
      | 1, _ => exact k1 rfl
      | 2, _ => exact k2 rfl
      | 3, _ => exact k3 rfl
      | 4, _ => exact k4 rfl
      | 5, _ => exact k5 rfl
      | 6, _ => exact k6 rfl
      | 7, _ => exact k7 rfl
      | 8, _ => exact k8 rfl
theorem p_pos {x : Int32} (h : ¬ x ≤ 0) : ¬ x = 0 := fun e => h (by rw [e]; decide)
theorem p_9 {k : Nat} (h : 9 < k) (hk : k < 2147483648) : (9 : Int32) < nI k := nI_lt (a := 9) h hk
theorem p_9n {k : Nat} (h : k ≤ 9) : ¬ (9 : Int32) < nI k := nI_nlt (b := k) (a := 9) h (by decide)
theorem p_512 {k : Nat} (h : 512 ≤ k) (hk : k < 2147483648) : (512 : Int32) ≤ nI k := nI_le (a := 512) h hk
theorem p_512n {k : Nat} (h : k < 512) : ¬ (512 : Int32) ≤ nI k := nI_ge (a := k) (b := 512) h (by decide)
/-- a juggler's tiredness can go on by that throw without any NaN -/
def tOK (x : UInt64) (h : Int32) : Prop := vf_n64 (FP.dsub x 4598175219545276416) ∧ vf_n64 (FP.dmul (FP.i2d h) 4593671619917905920) ∧ vf_n64 (FP.dadd x (FP.dmul (FP.i2d h) 4593671619917905920))
/-! the rows of a court: a list, each with its addresses and its value -/
abbrev RD : Type := (Nat × Nat × Nat × Nat × Nat × Nat) × RS
abbrev wRd (cI : ClassId) (r : RD) : va_W := wR cI r.1.1 r.1.2.1 r.1.2.2.1 r.1.2.2.2.1 r.1.2.2.2.2.1 r.1.2.2.2.2.2 r.2
def wRs (cI : ClassId) (rows : List RD) : va_W := rows.flatMap (wRd cI)
def rd0 : RD := ((0, 0, 0, 0, 0, 0), (fun _ => 0, fun _ => 0, fun _ => 0, fun _ => 0, fun _ => 0, 0, 0))
def rw_ (rows : List RD) (i : Nat) : RD := rows.getD i rd0
theorem rw_mem {rows : List RD} {i : Nat} (h : i < rows.length) : rw_ rows i ∈ rows := by
  unfold rw_
  rw [List.getD_eq_getElem?_getD, List.getElem?_eq_getElem h]
  exact List.getElem_mem h
def p_RI (ρ : RS) : Prop := 1 ≤ ρ.2.2.2.2.2.1.toNatClampNeg ∧ (ρ.2.2.2.2.2.2 = 0 ∨ ρ.2.2.2.2.2.2 = 1)
def p_CI (ξ : XS) (rows : List RD) : Prop := rows.length ≤ 8 ∧ ξ.2 = nI rows.length ∧ (∀ i, i < rows.length → ξ.1 i = some (rw_ rows i).1.1) ∧ ∀ r ∈ rows, p_RI r.2
abbrev wC (cI cR : ClassId) (x rw j a1 a2 a3 y b1 b2 b3 : Nat) (ξ : XS) (σ : JS) (η : YS) (rows : List RD) : va_W :=
  [(x, .inr (3, [.ref rw, .ref j, .ref y, .int ξ.2])), (rw, .inl (cR, 8, .inr (.inr (.inr (.inr ξ.1))))), (j, .inr (0, [.ref a1, .ref a2, .ref a3, .int σ.2.2.2.1, .int σ.2.2.2.2.1, .int σ.2.2.2.2.2.1, .int σ.2.2.2.2.2.2.1, .double σ.2.2.2.2.2.2.2])), (a1, .inl (cI, 6, .inl σ.1)), (a2, .inl (cI, 6, .inl σ.2.1)), (a3, .inl (cI, 6, .inl σ.2.2.1)), (y, .inr (2, [.ref b1, .ref b2, .ref b3, .int η.2.2.2])), (b1, .inl (cI, 512, .inl η.1)), (b2, .inl (cI, 512, .inl η.2.1)), (b3, .inl (cI, 512, .inl η.2.2.1))] ++ wRs cI rows
theorem p_row {D : va_G} {cl : List vw_C} {cI : ClassId} {fx : va_W} {rows : List RD} {r : RD} {H : Heap} (hP : va_P D cl (fx ++ wRs cI rows) H) (hr : r ∈ rows) : va_P D cl (wRd cI r) H := by
  intro k q hq
  have h1 : q ∈ fx ++ wRs cI rows := List.mem_append_right _ (List.mem_flatMap.mpr ⟨r, hr, List.mem_of_getElem? hq⟩)
  obtain ⟨i, hi⟩ := List.getElem?_of_mem h1
  exact hP i q hi
theorem p_freeT {A : Nat → Prop} {ws : va_W} {H0 H : Heap} {locs : List Loc} (hD : va_D A ws) (hS : va_S A H0 H locs) (hA : ∀ q, H0.size ≤ q → A q) : ∀ q, va_A ws H.size q → A q := by
  intro q h
  rcases h with ⟨k, e, h⟩ | h
  · exact hD.2 k (q, e) h
  · exact hA q (Nat.le_trans hS.1 h)
