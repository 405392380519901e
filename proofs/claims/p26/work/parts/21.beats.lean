/-! pure facts of what the methods answer -/
/-- beats till a prop's landing -/
abbrev tl (σ : JS) (i : Nat) : Int32 := S_X0_beatsTillLanding σ (nI i)
/-- a juggler as it may be: p props, at the beat b -/
def JI (σ : JS) (p b : Nat) : Prop := p ≤ 6 ∧ σ.2.2.2.1 = nI p ∧ σ.2.2.2.2.1 = nI b ∧ b < 1000 ∧ (∀ i, i < p → σ.1 i = -1 ∨ ∃ t, t ≤ 8 ∧ σ.1 i = nI (b + t)) ∧ (∀ i q, i < p → q < p → σ.1 i ≠ -1 → σ.1 i = σ.1 q → i = q)
theorem JI.p6 {σ : JS} {p b : Nat} (h : JI σ p b) : p ≤ 6 := h.1
theorem JI.props {σ : JS} {p b : Nat} (h : JI σ p b) : σ.2.2.2.1 = nI p := h.2.1
theorem JI.beat {σ : JS} {p b : Nat} (h : JI σ p b) : σ.2.2.2.2.1 = nI b := h.2.2.1
theorem JI.b9 {σ : JS} {p b : Nat} (h : JI σ p b) : b < 1000 := h.2.2.2.1
theorem JI.land {σ : JS} {p b : Nat} (h : JI σ p b) : ∀ i, i < p → σ.1 i = -1 ∨ ∃ t, t ≤ 8 ∧ σ.1 i = nI (b + t) := h.2.2.2.2.1
theorem JI.dist {σ : JS} {p b : Nat} (h : JI σ p b) : ∀ i q, i < p → q < p → σ.1 i ≠ -1 → σ.1 i = σ.1 q → i = q := h.2.2.2.2.2
theorem tl_eq {σ : JS} {i : Nat} (hi : i < 6) : tl σ i = if σ.1 i = -1 then -1 else σ.1 i - σ.2.2.2.2.1 := by
  show S_X0_beatsTillLanding σ (nI i) = _
  unfold S_X0_beatsTillLanding
  rw [p_cell hi (by decide)]
theorem JI.tls {σ : JS} {p b i : Nat} (h : JI σ p b) (hi : i < p) : (tl σ i = -1 ∧ σ.1 i = -1) ∨ ∃ t, t ≤ 8 ∧ tl σ i = nI t ∧ σ.1 i = nI (b + t) := by
  have hp := h.p6
  have hb := h.b9
  rw [tl_eq (by omega)]
  rcases h.land i hi with e | ⟨t, ht, e⟩
  · exact Or.inl ⟨by rw [if_pos e], e⟩
  · refine Or.inr ⟨t, ht, ?_, e⟩
    rw [e, if_neg (nI_m1 (by omega)), h.beat, nI_sub (by omega), Nat.add_sub_cancel_left]
theorem JI.iff {σ : JS} {p b i t : Nat} (h : JI σ p b) (hi : i < p) (ht : t < 1000) : tl σ i = nI t ↔ σ.1 i = nI (b + t) := by
  have hb := h.b9
  rcases h.tls hi with ⟨e1, e2⟩ | ⟨u, hu, e1, e2⟩
  · rw [e1, e2]
    exact ⟨fun e => absurd e.symm (nI_m1 (by omega)), fun e => absurd e.symm (nI_m1 (by omega))⟩
  · rw [e1, e2, nI_eq (by omega) (by omega), nI_eq (by omega) (by omega)]
    omega
theorem JI.dist2 {σ : JS} {p b i q t : Nat} (h : JI σ p b) (hi : i < p) (hq : q < p) (ht : t < 1000) (e1 : tl σ i = nI t) (e2 : tl σ q = nI t) : i = q := by
  have hb := h.b9
  rw [h.iff hi ht] at e1
  rw [h.iff hq ht] at e2
  exact h.dist i q hi hq (by rw [e1]; exact nI_m1 (by omega)) (by rw [e1, e2])
theorem p_or512 {a c : Nat} (ha : a < 512) (hc : c < 512) : a ||| c < 512 := Nat.or_lt_two_pow (n := 9) ha hc
theorem p_shl512 {c : Nat} (hc : c ≤ 8) : 1 <<< c < 512 := by
  have : c = 0 ∨ c = 1 ∨ c = 2 ∨ c = 3 ∨ c = 4 ∨ c = 5 ∨ c = 6 ∨ c = 7 ∨ c = 8 := by omega
  rcases this with rfl | rfl | rfl | rfl | rfl | rfl | rfl | rfl | rfl <;> decide
theorem p_tb {s c x : Nat} : (s ||| 1 <<< c).testBit x = (s.testBit x || decide (x = c)) := by
  rw [Nat.testBit_or, Nat.one_shiftLeft, Nat.testBit_two_pow]
  congr 1
  exact decide_eq_decide.mpr ⟨Eq.symm, Eq.symm⟩
/-- how many of the first k props lie on the floor -/
def dN (σ : JS) : Nat → Nat
  | 0 => 0
  | k + 1 => dN σ k + (if σ.1 k = -1 then 1 else 0)
theorem dN_le (σ : JS) (k : Nat) : dN σ k ≤ k := by
  induction k with
  | zero => exact Nat.le_refl _
  | succ k ih =>
    unfold dN
    split <;> omega
theorem p_stateG {σ : JS} {p b : Nat} (h : JI σ p b) : ∀ mm k s, k + mm = p → s < 512 → (∀ x, s.testBit x = true ↔ ∃ i, i < k ∧ tl σ i = nI x ∧ x < 1000) → pcN s + dN σ k = k → ∃ s2, s2 < 512 ∧ G_X0_state_4 σ mm k (nI s) = nI s2 ∧ (∀ x, s2.testBit x = true ↔ ∃ i, i < p ∧ tl σ i = nI x ∧ x < 1000) ∧ pcN s2 + dN σ p = p := by
  intro mm
  induction mm with
  | zero =>
    intro k s hk hs hx hd
    obtain rfl : k = p := by omega
    exact ⟨s, hs, rfl, hx, hd⟩
  | succ mm ih =>
    intro k s hk hs hx hd
    have hkp : k < p := by omega
    show ∃ s2, s2 < 512 ∧ (if tl σ k = (-1) then G_X0_state_4 σ mm (k + 1) (nI s) else G_X0_state_4 σ mm (k + 1) ((nI s) ||| (1 <<< ((tl σ k) &&& 31)))) = nI s2 ∧ _
    rcases h.tls hkp with ⟨e1, e2⟩ | ⟨t, ht, e1, e2⟩
    · rw [if_pos e1]
      refine ih (k + 1) s (by omega) hs (fun x => ?_) ?_
      · rw [hx]
        refine ⟨fun ⟨i, hi, e⟩ => ⟨i, by omega, e⟩, fun ⟨i, hi, e, hx9⟩ => ?_⟩
        refine ⟨i, ?_, e, hx9⟩
        rcases Nat.lt_or_ge i k with hlt | hge
        · exact hlt
        · obtain rfl : i = k := by omega
          rw [e1] at e
          exact absurd e.symm (nI_m1 (by omega))
      · unfold dN
        rw [if_pos e2]
        omega
    · have e3 : ¬ tl σ k = -1 := by rw [e1]; exact nI_m1 (by omega)
      have e4 : ¬ σ.1 k = -1 := by rw [e2]; exact nI_m1 (by have := h.b9; omega)
      rw [if_neg e3, e1]
      have hbit := p_bit ⟨s, hs⟩ ⟨t, by omega⟩
      simp only at hbit
      rw [hbit.1]
      have hno : s.testBit t = false := by
        cases hq : s.testBit t with
        | false => rfl
        | true =>
          obtain ⟨i, hi, e, _⟩ := (hx t).mp hq
          have := h.dist2 (show i < p by omega) hkp (show t < 1000 by omega) e e1
          omega
      refine ih (k + 1) (s ||| 1 <<< t) (by omega) (p_or512 hs (p_shl512 ht)) (fun x => ?_) ?_
      · rw [p_tb, Bool.or_eq_true, decide_eq_true_iff, hx]
        constructor
        · rintro (⟨i, hi, e⟩ | rfl)
          · exact ⟨i, by omega, e⟩
          · exact ⟨k, by omega, e1, by omega⟩
        · rintro ⟨i, hi, e, hx9⟩
          rcases Nat.lt_or_ge i k with hlt | hge
          · exact Or.inl ⟨i, hlt, e, hx9⟩
          · obtain rfl : i = k := by omega
            rw [e1, nI_eq (by omega) (by omega)] at e
            exact Or.inr e.symm
      · have h9 : t ≠ 9 := by omega
        have := hbit.2 hno
        rw [if_neg h9] at this
        unfold dN
        rw [if_neg e4]
        omega
theorem JI.state {σ : JS} {p b : Nat} (h : JI σ p b) : ∃ s, s < 512 ∧ S_X0_state σ = nI s ∧ (∀ x, s.testBit x = true ↔ ∃ i, i < p ∧ tl σ i = nI x ∧ x < 1000) ∧ pcN s + dN σ p = p := by
  have hp := h.p6
  have := p_stateG h p 0 0 (by omega) (by decide) (fun x => by
    rw [Nat.zero_testBit]
    exact ⟨fun e => absurd e (by decide), fun ⟨i, hi, _⟩ => absurd hi (Nat.not_lt_zero _)⟩) rfl
  unfold S_X0_state
  rw [h.props, nI_clamp (by omega)]
  exact this
theorem p_dropG {σ : JS} {p : Nat} (hp : p ≤ 6) : ∀ mm k, k + mm = p → G_X0_droppedProps_4 σ mm k (nI (dN σ k)) = nI (dN σ p) := by
  intro mm
  induction mm with
  | zero =>
    intro k hk
    obtain rfl : k = p := by omega
    rfl
  | succ mm ih =>
    intro k hk
    have hkp : k < 6 := by omega
    show (if (S_X0_isDropped σ (nI k)) = 0 then G_X0_droppedProps_4 σ mm (k + 1) (nI (dN σ k)) else G_X0_droppedProps_4 σ mm (k + 1) (nI (dN σ k) + 1)) = _
    have e : S_X0_isDropped σ (nI k) = if σ.1 k = -1 then 1 else 0 := by
      unfold S_X0_isDropped
      rw [p_cell hkp (by decide)]
    have ih2 := ih (k + 1) (by omega)
    have ed : dN σ (k + 1) = dN σ k + (if σ.1 k = -1 then 1 else 0) := rfl
    rw [ed] at ih2
    rw [e]
    by_cases hd : σ.1 k = -1
    · rw [if_pos hd] at ih2 ⊢
      rw [if_neg (by decide), nI_1]
      exact ih2
    · rw [if_neg hd] at ih2 ⊢
      rw [if_pos rfl]
      exact ih2
theorem JI.dropped {σ : JS} {p b : Nat} (h : JI σ p b) : S_X0_droppedProps σ = nI (dN σ p) := by
  have hp := h.p6
  unfold S_X0_droppedProps
  rw [h.props, nI_clamp (by omega)]
  exact p_dropG hp p 0 (by omega)
theorem p_landG {σ : JS} {p : Nat} {c : Int32} : ∀ mm k, k + mm = p → (G_X0_propLandingIn_2 σ c mm k = -1 ∧ ∀ i, k ≤ i → i < p → tl σ i ≠ c) ∨ ∃ i, k ≤ i ∧ i < p ∧ tl σ i = c ∧ G_X0_propLandingIn_2 σ c mm k = nI i := by
  intro mm
  induction mm with
  | zero =>
    intro k hk
    exact Or.inl ⟨rfl, fun i h1 h2 => by omega⟩
  | succ mm ih =>
    intro k hk
    show ((if tl σ k = c then nI k else G_X0_propLandingIn_2 σ c mm (k + 1)) = -1 ∧ _) ∨ ∃ i, k ≤ i ∧ i < p ∧ tl σ i = c ∧ (if tl σ k = c then nI k else G_X0_propLandingIn_2 σ c mm (k + 1)) = nI i
    by_cases e : tl σ k = c
    · exact Or.inr ⟨k, by omega, by omega, e, by rw [if_pos e]⟩
    · rw [if_neg e]
      rcases ih (k + 1) (by omega) with ⟨h1, h2⟩ | ⟨i, h1, h2, h3, h4⟩
      · refine Or.inl ⟨h1, fun i hi hp => ?_⟩
        rcases Nat.lt_or_ge k i with hlt | hge
        · exact h2 i hlt hp
        · obtain rfl : i = k := by omega
          exact e
      · exact Or.inr ⟨i, by omega, h2, h3, h4⟩
theorem JI.landing {σ : JS} {p b : Nat} (h : JI σ p b) (c : Int32) : (S_X0_propLandingIn σ c = -1 ∧ ∀ i, i < p → tl σ i ≠ c) ∨ ∃ i, i < p ∧ tl σ i = c ∧ S_X0_propLandingIn σ c = nI i := by
  have hp := h.p6
  unfold S_X0_propLandingIn
  rw [h.props, nI_clamp (by omega)]
  rcases p_landG (σ := σ) (p := p) (c := c) p 0 (by omega) with ⟨h1, h2⟩ | ⟨i, h1, h2, h3, h4⟩
  · exact Or.inl ⟨h1, fun i hi => h2 i (by omega) hi⟩
  · exact Or.inr ⟨i, h2, h3, h4⟩
/-- the props that land x beats from now, read off the state -/
theorem JI.bits {σ : JS} {p b s : Nat} (h : JI σ p b) (hx : ∀ x, s.testBit x = true ↔ ∃ i, i < p ∧ tl σ i = nI x ∧ x < 1000) {x : Nat} (h1 : x < 1000) : s.testBit x = true ↔ ∃ i, i < p ∧ σ.1 i = nI (b + x) := by
  rw [hx]
  exact ⟨fun ⟨i, hi, e, _⟩ => ⟨i, hi, (h.iff hi h1).mp e⟩, fun ⟨i, hi, e⟩ => ⟨i, hi, (h.iff hi h1).mpr e, h1⟩⟩
theorem p_next {σ σ' : JS} {p b s i0 c n : Nat} (h : JI σ p b) (hb : b < 900) (hx : ∀ x, x < 1000 → (s.testBit x = true ↔ ∃ i, i < p ∧ σ.1 i = nI (b + x))) (ep : σ'.2.2.2.1 = nI p) (eb : σ'.2.2.2.2.1 = nI (b + 1)) (hn : n < 512)
    (hR : ∀ i, i < p → σ'.1 i = -1 ∨ (σ'.1 i = σ.1 i ∧ σ.1 i ≠ nI b) ∨ (i = i0 ∧ σ'.1 i = nI (b + c) ∧ 1 ≤ c ∧ c ≤ 9 ∧ s.testBit c = false))
    (hB : ∀ x, x < 9 → (n.testBit x = true ↔ ∃ i, i < p ∧ σ'.1 i = nI (b + 1 + x))) : JI σ' p (b + 1) ∧ S_X0_state σ' = nI n := by
  have hJ : JI σ' p (b + 1) := by
    refine ⟨h.p6, ep, eb, by omega, fun i hi => ?_, fun i q hi hq hne he => ?_⟩
    · rcases hR i hi with e | ⟨e, e2⟩ | ⟨_, e, e2, e3, _⟩
      · exact Or.inl e
      · rcases h.land i hi with e4 | ⟨t, ht, e4⟩
        · exact Or.inl (e.trans e4)
        · have : t ≠ 0 := fun e5 => e2 (by rw [e4, e5, Nat.add_zero])
          exact Or.inr ⟨t - 1, by omega, by rw [e, e4]; congr 1; omega⟩
      · exact Or.inr ⟨c - 1, by omega, by rw [e]; congr 1; omega⟩
    · have key : ∀ i q, i < p → q < p → σ'.1 i = σ'.1 q → (σ'.1 i = σ.1 i ∧ σ.1 i ≠ nI b) → (q = i0 ∧ σ'.1 q = nI (b + c) ∧ 1 ≤ c ∧ c ≤ 9 ∧ s.testBit c = false) → False := by
        intro i q hi hq he ⟨e1, _⟩ ⟨_, e2, _, h9, e3⟩
        have : s.testBit c = true := (hx c (by omega)).mpr ⟨i, hi, by rw [← e1, he, e2]⟩
        rw [this] at e3
        exact absurd e3 (by decide)
      rcases hR i hi with e | e | e
      · exact absurd e hne
      · rcases hR q hq with e2 | e2 | e2
        · exact absurd (he.trans e2) hne
        · exact h.dist i q hi hq (by rw [← e.1]; exact hne) (by rw [← e.1, he, e2.1])
        · exact (key i q hi hq he e e2).elim
      · rcases hR q hq with e2 | e2 | e2
        · exact absurd (he.trans e2) hne
        · exact (key q i hq hi he.symm e2 e).elim
        · exact e.1.trans e2.1.symm
  refine ⟨hJ, ?_⟩
  obtain ⟨s2, h1, h2, h3, _⟩ := hJ.state
  rw [h2]
  congr 1
  refine Nat.eq_of_testBit_eq fun x => ?_
  rcases Nat.lt_or_ge x 9 with hlt | hge
  · have : s2.testBit x = true ↔ n.testBit x = true := by rw [hJ.bits h3 (by omega), hB x hlt]
    exact Bool.eq_iff_iff.mpr this
  · rw [p_t512 h1 hge, p_t512 hn hge]
theorem upd_same {f : Nat → Int32} {k : Nat} {v : Int32} : upd f k v k = v := by
  unfold upd
  rw [if_pos rfl]
theorem upd_other {f : Nat → Int32} {k i : Nat} {v : Int32} (h : i ≠ k) : upd f k v i = f i := by
  unfold upd
  rw [if_neg h]
theorem p_tire {σ : JS} {c : Int32} {h j : Nat} (ht : σ.2.2.2.2.2.2.2 = TT j) (hj : j ≤ 540) (hh : h ≤ 9) : ∃ j2, j2 ≤ j + 9 ∧ S_X0_tire σ c (nI h) = (σ.1, σ.2.1, σ.2.2.1, σ.2.2.2.1, σ.2.2.2.2.1, σ.2.2.2.2.2.1, σ.2.2.2.2.2.2.1, TT j2) := by
  have hF := p_tF1 ⟨j, by omega⟩
  have hG := p_tF1 ⟨j + h, by omega⟩
  have hA := p_tF2 ⟨j, by omega⟩ ⟨h, by omega⟩
  simp only at hF hG hA
  unfold S_X0_tire
  rw [ht]
  by_cases hc : c = -1
  · rw [if_pos hc]
    by_cases h2 : 2 ≤ j
    · have h5 := hF.2.2.2.2
      rw [if_pos h2] at h5
      have hM := p_tF1 ⟨j - 2, by omega⟩
      rw [h5, if_pos hM.2.2.2.1]
      exact ⟨j - 2, by omega, rfl⟩
    · have h5 := hF.2.2.2.2
      rw [if_neg h2] at h5
      rw [if_neg h5, ← p_TT0]
      exact ⟨0, by omega, rfl⟩
  · rw [if_neg hc]
    have e : FP.dmul (FP.i2d (nI h)) 4593671619917905920 = TT h := rfl
    rw [e, hA, if_pos hG.2.2.2.1]
    exact ⟨j + h, by omega, rfl⟩
theorem p_tOK {σ : JS} {h j : Nat} (ht : σ.2.2.2.2.2.2.2 = TT j) (hj : j ≤ 540) (hh : h ≤ 9) : tOK σ.2.2.2.2.2.2.2 (nI h) := by
  have hF := p_tF1 ⟨j, by omega⟩
  have hH := p_tF1 ⟨h, by omega⟩
  have hG := p_tF1 ⟨j + h, by omega⟩
  have hA := p_tF2 ⟨j, by omega⟩ ⟨h, by omega⟩
  simp only at hF hG hA hH
  rw [ht]
  refine ⟨hF.1, hH.2.1, ?_⟩
  have e : FP.dmul (FP.i2d (nI h)) 4593671619917905920 = TT h := rfl
  rw [e, hA]
  exact hG.2.1
theorem p_dropProp {σ : JS} {i : Nat} (hi : i < 6) : ∃ d, S_X0_dropProp σ (nI i) = (upd σ.1 i (-1), σ.2.1, d, σ.2.2.2.1, σ.2.2.2.2.1, σ.2.2.2.2.2.1, σ.2.2.2.2.2.2.1, σ.2.2.2.2.2.2.2) := by
  refine ⟨S_X3_setCell 6 σ.2.2.1 (nI i) ((S_X3_cell 6 σ.2.2.1 (nI i)) + 1), ?_⟩
  unfold S_X0_dropProp
  rw [if_neg (nI_m1 (by omega)), p_setCell hi (by decide)]
theorem p_dropPropN {σ : JS} : S_X0_dropProp σ (-1) = σ := by
  unfold S_X0_dropProp
  rw [if_pos rfl]
theorem p_sendUp {σ : JS} {i : Nat} {v : Int32} (hi : i < 6) : ∃ d, S_X0_sendUp σ (nI i) v = (upd σ.1 i (σ.2.2.2.2.1 + v), d, σ.2.2.1, σ.2.2.2.1, σ.2.2.2.2.1, σ.2.2.2.2.2.1, σ.2.2.2.2.2.2.1, σ.2.2.2.2.2.2.2) := by
  refine ⟨S_X3_setCell 6 σ.2.1 (nI i) ((S_X3_cell 6 σ.2.1 (nI i)) + 1), ?_⟩
  unfold S_X0_sendUp
  rw [if_neg (nI_m1 (by omega)), p_setCell hi (by decide)]
theorem p_sendUpN {σ : JS} {v : Int32} : S_X0_sendUp σ (-1) v = σ := by
  unfold S_X0_sendUp
  rw [if_pos rfl]
/-- a beat: what becomes of a juggler -/
theorem p_throw {σ : JS} {p b s h j : Nat} (hJ : JI σ p b) (hb : b < 900) (hs : s < 512) (hS : S_X0_state σ = nI s) (hx : ∀ x, s.testBit x = true ↔ ∃ i, i < p ∧ tl σ i = nI x ∧ x < 1000) (hh : h ≤ 9) (ht : σ.2.2.2.2.2.2.2 = TT j) (hj : j ≤ 540) :
    JI (S_X0_throwNow σ (nI h)).2 p (b + 1) ∧ S_X0_state (S_X0_throwNow σ (nI h)).2 = nI (nsN s h) ∧ (∃ j2, j2 ≤ j + 9 ∧ (S_X0_throwNow σ (nI h)).2.2.2.2.2.2.2.2 = TT j2)
    ∧ (nxN s h = none → (S_X0_throwNow σ (nI h)).1 = -1 ∧ (S_X0_throwNow σ (nI h)).2.2.2.2.2.2.1 = σ.2.2.2.2.2.1 + 1) ∧ (∀ t, nxN s h = some t → (S_X0_throwNow σ (nI h)).2.2.2.2.2.2.1 = σ.2.2.2.2.2.1 ∧ nsN s h = t) := by
  have hp := hJ.p6
  have hN := p_nx ⟨s, hs⟩ ⟨h, by omega⟩
  have hns := p_ns ⟨s, hs⟩ ⟨h, by omega⟩
  have hnb := fun x hx => p_nsB ⟨s, hs⟩ ⟨h, by omega⟩ ⟨x, hx⟩
  simp only at hN hns hnb
  have hX : ∀ x, x < 1000 → (s.testBit x = true ↔ ∃ i, i < p ∧ σ.1 i = nI (b + x)) := fun x h1 => hJ.bits hx h1
  have h0 : s.testBit 0 = decide (s % 2 = 1) := Nat.testBit_zero s
  have hb9 : s.testBit 9 = false := p_t512 hs (Nat.le_refl _)
  -- none lands where the state's least bit is off
  have hev : s % 2 = 0 → ∀ i, i < p → σ.1 i ≠ nI b := by
    intro he i hi e
    have : s.testBit 0 = true := (hX 0 (by decide)).mpr ⟨i, hi, by rw [e, Nat.add_zero]⟩
    rw [h0, he] at this
    exact absurd this (by decide)
  have hcore : ∀ σ' : JS, σ'.2.2.2.1 = nI p → σ'.2.2.2.2.1 = nI (b + 1) → σ'.1 = σ.1 → s % 2 = 0 → JI σ' p (b + 1) ∧ S_X0_state σ' = nI (nsN s h) := by
    intro σ' e1 e2 e3 he
    refine p_next (i0 := 0) (c := 0) hJ hb hX e1 e2 hns.1 (fun i hi => ?_) (fun x hx9 => ?_)
    · exact Or.inr (Or.inl ⟨by rw [e3], hev he i hi⟩)
    · rw [hnb x hx9, if_pos he, hX (x + 1) (by omega), e3]
      have : b + (x + 1) = b + 1 + x := by omega
      rw [this]
  unfold S_X0_throwNow
  rw [hS]
  cases hq : nxN s h with
  | none =>
    have hN1 : S_X3_stateBehind (nI s) (nI h) = -1 := by rw [hN, hq]
    rw [if_pos hN1]
    obtain ⟨j2, hj2, e2⟩ : ∃ j2, j2 ≤ j + 9 ∧ S_X0_tire (S_X0_slip σ (nI h)) (-1) (nI h) = ((S_X0_slip σ (nI h)).1, (S_X0_slip σ (nI h)).2.1, (S_X0_slip σ (nI h)).2.2.1, (S_X0_slip σ (nI h)).2.2.2.1, (S_X0_slip σ (nI h)).2.2.2.2.1, (S_X0_slip σ (nI h)).2.2.2.2.2.1, (S_X0_slip σ (nI h)).2.2.2.2.2.2.1, TT j2) ∧ True := by
      have : (S_X0_slip σ (nI h)).2.2.2.2.2.2.2 = TT j := by
        unfold S_X0_slip S_X0_dropProp
        split <;> split <;> (try split) <;> (try split) <;> exact ht
      obtain ⟨j2, a, c⟩ := p_tire (c := -1) this hj hh
      exact ⟨j2, a, c, trivial⟩
    rw [e2.1]
    have hsl : (S_X0_slip σ (nI h)).2.2.2.1 = σ.2.2.2.1 ∧ (S_X0_slip σ (nI h)).2.2.2.2.1 = σ.2.2.2.2.1 ∧ (S_X0_slip σ (nI h)).2.2.2.2.2.1 = σ.2.2.2.2.2.1 + 1 := by
      unfold S_X0_slip S_X0_dropProp
      split <;> split <;> (try split) <;> (try split) <;> exact ⟨rfl, rfl, rfl⟩
    suffices hL : JI ((S_X0_slip σ (nI h)).1, (S_X0_slip σ (nI h)).2.1, (S_X0_slip σ (nI h)).2.2.1, (S_X0_slip σ (nI h)).2.2.2.1, (S_X0_slip σ (nI h)).2.2.2.2.1 + 1, (S_X0_slip σ (nI h)).2.2.2.2.2.1, (S_X0_slip σ (nI h)).2.2.2.2.2.2.1 + 1, TT j2) p (b + 1) ∧ S_X0_state ((S_X0_slip σ (nI h)).1, (S_X0_slip σ (nI h)).2.1, (S_X0_slip σ (nI h)).2.2.1, (S_X0_slip σ (nI h)).2.2.2.1, (S_X0_slip σ (nI h)).2.2.2.2.1 + 1, (S_X0_slip σ (nI h)).2.2.2.2.2.1, (S_X0_slip σ (nI h)).2.2.2.2.2.2.1 + 1, TT j2) = nI (nsN s h) from
      ⟨hL.1, hL.2, ⟨j2, hj2, rfl⟩, fun _ => ⟨rfl, hsl.2.2⟩, fun t e => absurd e (by simp)⟩
    have eP : (S_X0_slip σ (nI h)).2.2.2.1 = nI p := hsl.1.trans hJ.props
    have eB : (S_X0_slip σ (nI h)).2.2.2.2.1 + 1 = nI (b + 1) := by rw [hsl.2.1, hJ.beat, nI_1]
    by_cases he : s % 2 = 0
    · refine hcore _ eP eB ?_ he
      have hl0 : S_X0_propLandingIn σ 0 = -1 := by
        rcases hJ.landing 0 with ⟨e, _⟩ | ⟨i, hi, e, _⟩
        · exact e
        · exact absurd (by have := (hJ.iff hi (t := 0) (by decide)).mp e; rwa [Nat.add_zero] at this) (hev he i hi)
      show (S_X0_slip σ (nI h)).1 = σ.1
      unfold S_X0_slip
      rw [hl0, if_pos rfl, if_pos rfl]
      split <;> rfl
    · -- one lands, and drops
      have ho : s.testBit 0 = true := by rw [h0]; exact decide_eq_true (by omega)
      obtain ⟨i0, hi0, el0⟩ := (hX 0 (by decide)).mp ho
      obtain ⟨i1, hi1, et1, el1⟩ : ∃ i, i < p ∧ tl σ i = nI 0 ∧ S_X0_propLandingIn σ 0 = nI i := by
        rcases hJ.landing 0 with ⟨_, e⟩ | ⟨i, hi, e1, e2⟩
        · exact absurd ((hJ.iff hi0 (t := 0) (by decide)).mpr el0) (e i0 hi0)
        · exact ⟨i, hi, e1, e2⟩
      have en1 : σ.1 i1 = nI b := by have := (hJ.iff hi1 (t := 0) (by decide)).mp et1; rwa [Nat.add_zero] at this
      have hoth : ∀ i, i < p → i ≠ i1 → σ.1 i ≠ nI b := fun i hi hne e => hne (hJ.dist i i1 hi hi1 (by rw [e]; exact nI_m1 (by omega)) (by rw [e, en1]))
      by_cases hz : h = 0
      · have eL : (S_X0_slip σ (nI h)).1 = upd σ.1 i1 (-1) := by
          unfold S_X0_slip
          rw [el1, if_neg (nI_m1 (by omega)), if_neg (nI_m1 (by omega)), hz, if_pos (by decide), p_dropPropN]
          obtain ⟨d, e⟩ := p_dropProp (σ := (σ.1, σ.2.1, σ.2.2.1, σ.2.2.2.1, σ.2.2.2.2.1, σ.2.2.2.2.2.1 + 1, σ.2.2.2.2.2.2.1, σ.2.2.2.2.2.2.2)) (i := i1) (by omega)
          rw [e]
        refine p_next (i0 := 0) (c := 0) hJ hb hX eP eB hns.1 (fun i hi => ?_) (fun x hx9 => ?_)
        · show (S_X0_slip σ (nI h)).1 i = -1 ∨ ((S_X0_slip σ (nI h)).1 i = σ.1 i ∧ _) ∨ _
          rw [eL]
          by_cases hii : i = i1
          · exact Or.inl (by rw [hii]; exact upd_same)
          · exact Or.inr (Or.inl ⟨upd_other hii, hoth i hi hii⟩)
        · show _ ↔ ∃ i, i < p ∧ (S_X0_slip σ (nI h)).1 i = nI (b + 1 + x)
          rw [hnb x hx9, if_neg he, if_pos hz, hX (x + 1) (by omega), eL]
          constructor
          · rintro ⟨i, hi, e⟩
            refine ⟨i, hi, ?_⟩
            have hii : i ≠ i1 := by
              rintro rfl
              rw [en1, nI_eq (by omega) (by omega)] at e
              omega
            rw [upd_other hii, e]
            congr 1
            omega
          · rintro ⟨i, hi, e⟩
            refine ⟨i, hi, ?_⟩
            have hii : i ≠ i1 := by
              rintro rfl
              rw [upd_same] at e
              exact absurd e.symm (nI_m1 (by omega))
            rw [upd_other hii] at e
            rw [e]
            congr 1
            omega
      · have hbh : s.testBit h = true := by
          unfold nxN at hq
          rw [if_neg he] at hq
          by_cases hc : h = 0 ∨ s.testBit h
          · rcases hc with hc | hc
            · exact absurd hc hz
            · exact hc
          · rw [if_neg hc] at hq
            exact absurd hq (by simp)
        obtain ⟨m0, hm0, em0⟩ := (hX h (by omega)).mp hbh
        obtain ⟨m1, hm1, etm, elm⟩ : ∃ i, i < p ∧ tl σ i = nI h ∧ S_X0_propLandingIn σ (nI h) = nI i := by
          rcases hJ.landing (nI h) with ⟨_, e⟩ | ⟨i, hi, e1, e2⟩
          · exact absurd ((hJ.iff hm0 (t := h) (by omega)).mpr em0) (e m0 hm0)
          · exact ⟨i, hi, e1, e2⟩
        have enm : σ.1 m1 = nI (b + h) := (hJ.iff hm1 (t := h) (by omega)).mp etm
        have hothm : ∀ i, i < p → i ≠ m1 → σ.1 i ≠ nI (b + h) := fun i hi hne e => hne (hJ.dist i m1 hi hm1 (by rw [e]; exact nI_m1 (by omega)) (by rw [e, enm]))
        have eL : (S_X0_slip σ (nI h)).1 = upd (upd σ.1 i1 (-1)) m1 (-1) := by
          unfold S_X0_slip
          rw [el1, if_neg (nI_m1 (by omega)), if_neg (nI_m1 (by omega)), elm, if_neg (nI_nle (by omega) (by omega))]
          obtain ⟨d, e⟩ := p_dropProp (σ := (σ.1, σ.2.1, σ.2.2.1, σ.2.2.2.1, σ.2.2.2.2.1, σ.2.2.2.2.2.1 + 1, σ.2.2.2.2.2.2.1, σ.2.2.2.2.2.2.2)) (i := i1) (by omega)
          rw [e]
          obtain ⟨d2, e3⟩ := p_dropProp (σ := (upd σ.1 i1 (-1), σ.2.1, d, σ.2.2.2.1, σ.2.2.2.2.1, σ.2.2.2.2.2.1 + 1, σ.2.2.2.2.2.2.1, σ.2.2.2.2.2.2.2)) (i := m1) (by omega)
          rw [e3]
        refine p_next (i0 := 0) (c := 0) hJ hb hX eP eB hns.1 (fun i hi => ?_) (fun x hx9 => ?_)
        · show (S_X0_slip σ (nI h)).1 i = -1 ∨ ((S_X0_slip σ (nI h)).1 i = σ.1 i ∧ _) ∨ _
          rw [eL]
          by_cases him : i = m1
          · exact Or.inl (by rw [him]; exact upd_same)
          · rw [upd_other him]
            by_cases hii : i = i1
            · exact Or.inl (by rw [hii]; exact upd_same)
            · exact Or.inr (Or.inl ⟨upd_other hii, hoth i hi hii⟩)
        · show _ ↔ ∃ i, i < p ∧ (S_X0_slip σ (nI h)).1 i = nI (b + 1 + x)
          rw [hnb x hx9, if_neg he, if_neg hz, if_pos hbh, Bool.and_eq_true, decide_eq_true_iff, hX (x + 1) (by omega), eL]
          constructor
          · rintro ⟨⟨i, hi, e⟩, hne⟩
            refine ⟨i, hi, ?_⟩
            have hii : i ≠ i1 := by
              rintro rfl
              rw [en1, nI_eq (by omega) (by omega)] at e
              omega
            have him : i ≠ m1 := by
              rintro rfl
              rw [enm, nI_eq (by omega) (by omega)] at e
              omega
            rw [upd_other him, upd_other hii, e]
            congr 1
            omega
          · rintro ⟨i, hi, e⟩
            have him : i ≠ m1 := by
              rintro rfl
              rw [upd_same] at e
              exact absurd e.symm (nI_m1 (by omega))
            rw [upd_other him] at e
            have hii : i ≠ i1 := by
              rintro rfl
              rw [upd_same] at e
              exact absurd e.symm (nI_m1 (by omega))
            rw [upd_other hii] at e
            refine ⟨⟨i, hi, ?_⟩, fun hc => ?_⟩
            · rw [e]
              congr 1
              omega
            · refine hothm i hi him ?_
              rw [e]
              congr 1
              omega
  | some t =>
    have hN1 : S_X3_stateBehind (nI s) (nI h) = nI t := by rw [hN, hq]
    have ht512 : t < 512 := by
      have : nsN s h = t := by unfold nsN; rw [hq]
      rw [← this]; exact hns.1
    rw [if_neg (by rw [hN1]; exact nI_m1 (by omega))]
    have hnt : nsN s h = t := by unfold nsN; rw [hq]
    obtain ⟨j2, hj2, e2⟩ : ∃ j2, j2 ≤ j + 9 ∧ S_X0_tire (S_X0_sendUp σ (S_X0_propLandingIn σ 0) (nI h)) (S_X0_propLandingIn σ 0) (nI h) = ((S_X0_sendUp σ (S_X0_propLandingIn σ 0) (nI h)).1, (S_X0_sendUp σ (S_X0_propLandingIn σ 0) (nI h)).2.1, (S_X0_sendUp σ (S_X0_propLandingIn σ 0) (nI h)).2.2.1, (S_X0_sendUp σ (S_X0_propLandingIn σ 0) (nI h)).2.2.2.1, (S_X0_sendUp σ (S_X0_propLandingIn σ 0) (nI h)).2.2.2.2.1, (S_X0_sendUp σ (S_X0_propLandingIn σ 0) (nI h)).2.2.2.2.2.1, (S_X0_sendUp σ (S_X0_propLandingIn σ 0) (nI h)).2.2.2.2.2.2.1, TT j2) ∧ True := by
      have : (S_X0_sendUp σ (S_X0_propLandingIn σ 0) (nI h)).2.2.2.2.2.2.2 = TT j := by
        unfold S_X0_sendUp
        split <;> exact ht
      obtain ⟨j2, a, c⟩ := p_tire (c := S_X0_propLandingIn σ 0) this hj hh
      exact ⟨j2, a, c, trivial⟩
    rw [e2.1]
    have hsl : (S_X0_sendUp σ (S_X0_propLandingIn σ 0) (nI h)).2.2.2.1 = σ.2.2.2.1 ∧ (S_X0_sendUp σ (S_X0_propLandingIn σ 0) (nI h)).2.2.2.2.1 = σ.2.2.2.2.1 ∧ (S_X0_sendUp σ (S_X0_propLandingIn σ 0) (nI h)).2.2.2.2.2.1 = σ.2.2.2.2.2.1 := by
      unfold S_X0_sendUp
      split <;> exact ⟨rfl, rfl, rfl⟩
    have eP := hsl.1.trans hJ.props
    have eB : (S_X0_sendUp σ (S_X0_propLandingIn σ 0) (nI h)).2.2.2.2.1 + 1 = nI (b + 1) := by rw [hsl.2.1, hJ.beat, nI_1]
    suffices hL : JI ((S_X0_sendUp σ (S_X0_propLandingIn σ 0) (nI h)).1, (S_X0_sendUp σ (S_X0_propLandingIn σ 0) (nI h)).2.1, (S_X0_sendUp σ (S_X0_propLandingIn σ 0) (nI h)).2.2.1, (S_X0_sendUp σ (S_X0_propLandingIn σ 0) (nI h)).2.2.2.1, (S_X0_sendUp σ (S_X0_propLandingIn σ 0) (nI h)).2.2.2.2.1 + 1, (S_X0_sendUp σ (S_X0_propLandingIn σ 0) (nI h)).2.2.2.2.2.1, (S_X0_sendUp σ (S_X0_propLandingIn σ 0) (nI h)).2.2.2.2.2.2.1 + 1, TT j2) p (b + 1) ∧ S_X0_state ((S_X0_sendUp σ (S_X0_propLandingIn σ 0) (nI h)).1, (S_X0_sendUp σ (S_X0_propLandingIn σ 0) (nI h)).2.1, (S_X0_sendUp σ (S_X0_propLandingIn σ 0) (nI h)).2.2.1, (S_X0_sendUp σ (S_X0_propLandingIn σ 0) (nI h)).2.2.2.1, (S_X0_sendUp σ (S_X0_propLandingIn σ 0) (nI h)).2.2.2.2.1 + 1, (S_X0_sendUp σ (S_X0_propLandingIn σ 0) (nI h)).2.2.2.2.2.1, (S_X0_sendUp σ (S_X0_propLandingIn σ 0) (nI h)).2.2.2.2.2.2.1 + 1, TT j2) = nI (nsN s h) from
      ⟨hL.1, hL.2, ⟨j2, hj2, rfl⟩, fun e => absurd e (by simp), fun t' e => ⟨hsl.2.2, hnt.trans (Option.some.inj e)⟩⟩
    by_cases he : s % 2 = 0
    · refine hcore _ eP eB ?_ he
      have hl0 : S_X0_propLandingIn σ 0 = -1 := by
        rcases hJ.landing 0 with ⟨e, _⟩ | ⟨i, hi, e, _⟩
        · exact e
        · exact absurd (by have := (hJ.iff hi (t := 0) (by decide)).mp e; rwa [Nat.add_zero] at this) (hev he i hi)
      show (S_X0_sendUp σ (S_X0_propLandingIn σ 0) (nI h)).1 = σ.1
      rw [hl0, p_sendUpN]
    · have ho : s.testBit 0 = true := by rw [h0]; exact decide_eq_true (by omega)
      obtain ⟨i0, hi0, el0⟩ := (hX 0 (by decide)).mp ho
      obtain ⟨i1, hi1, et1, el1⟩ : ∃ i, i < p ∧ tl σ i = nI 0 ∧ S_X0_propLandingIn σ 0 = nI i := by
        rcases hJ.landing 0 with ⟨_, e⟩ | ⟨i, hi, e1, e2⟩
        · exact absurd ((hJ.iff hi0 (t := 0) (by decide)).mpr el0) (e i0 hi0)
        · exact ⟨i, hi, e1, e2⟩
      have en1 : σ.1 i1 = nI b := by have := (hJ.iff hi1 (t := 0) (by decide)).mp et1; rwa [Nat.add_zero] at this
      have hoth : ∀ i, i < p → i ≠ i1 → σ.1 i ≠ nI b := fun i hi hne e => hne (hJ.dist i i1 hi hi1 (by rw [e]; exact nI_m1 (by omega)) (by rw [e, en1]))
      have hz : h ≠ 0 ∧ s.testBit h = false := by
        unfold nxN at hq
        rw [if_neg he] at hq
        by_cases hc : h = 0 ∨ s.testBit h
        · rw [if_pos hc] at hq
          exact absurd hq (by simp)
        · exact ⟨fun e => hc (Or.inl e), by
            cases e : s.testBit h with
            | false => rfl
            | true => exact absurd (Or.inr e) hc⟩
      have eL : (S_X0_sendUp σ (S_X0_propLandingIn σ 0) (nI h)).1 = upd σ.1 i1 (nI (b + h)) := by
        rw [el1]
        obtain ⟨d, e⟩ := p_sendUp (σ := σ) (i := i1) (v := nI h) (by omega)
        rw [e, hJ.beat, nI_add]
      refine p_next (i0 := i1) (c := h) hJ hb hX eP eB hns.1 (fun i hi => ?_) (fun x hx9 => ?_)
      · show (S_X0_sendUp σ (S_X0_propLandingIn σ 0) (nI h)).1 i = -1 ∨ ((S_X0_sendUp σ (S_X0_propLandingIn σ 0) (nI h)).1 i = σ.1 i ∧ _) ∨ (_ ∧ (S_X0_sendUp σ (S_X0_propLandingIn σ 0) (nI h)).1 i = _ ∧ _)
        rw [eL]
        by_cases hii : i = i1
        · exact Or.inr (Or.inr ⟨hii, by rw [hii]; exact upd_same, by omega, hh, hz.2⟩)
        · exact Or.inr (Or.inl ⟨upd_other hii, hoth i hi hii⟩)
      · show _ ↔ ∃ i, i < p ∧ (S_X0_sendUp σ (S_X0_propLandingIn σ 0) (nI h)).1 i = nI (b + 1 + x)
        rw [hnb x hx9, if_neg he, if_neg hz.1, hz.2, if_neg (by decide), Bool.or_eq_true, decide_eq_true_iff, hX (x + 1) (by omega), eL]
        constructor
        · rintro (⟨i, hi, e⟩ | hc)
          · refine ⟨i, hi, ?_⟩
            have hii : i ≠ i1 := by
              rintro rfl
              rw [en1, nI_eq (by omega) (by omega)] at e
              omega
            rw [upd_other hii, e]
            congr 1
            omega
          · refine ⟨i1, hi1, ?_⟩
            rw [upd_same]
            congr 1
            omega
        · rintro ⟨i, hi, e⟩
          by_cases hii : i = i1
          · rw [hii, upd_same, nI_eq (by omega) (by omega)] at e
            exact Or.inr (by omega)
          · rw [upd_other hii] at e
            refine Or.inl ⟨i, hi, ?_⟩
            rw [e]
            congr 1
            omega
theorem p_startG {σ : JS} {p : Nat} (hp : p ≤ 6) : ∀ mm k (f g d : Nat → Int32), k + mm = p → (∀ i, i < k → f i = nI i) → ∃ f' g' d', G_X0_startWith_17 σ (nI p) mm k f g d = (f', g', d', nI p, 0, σ.2.2.2.2.2.1, σ.2.2.2.2.2.2.1, FP.dconst0) ∧ ∀ i, i < p → f' i = nI i := by
  intro mm
  induction mm with
  | zero =>
    intro k f g d hk hf
    obtain rfl : k = p := by omega
    exact ⟨f, g, d, rfl, hf⟩
  | succ mm ih =>
    intro k f g d hk hf
    refine ih (k + 1) _ _ _ (by omega) (fun i hi => ?_)
    rw [p_setCell (show k < 6 by omega) (by decide)]
    by_cases e : i = k
    · rw [e]; exact upd_same
    · rw [upd_other e]; exact hf i (by omega)
theorem p_take {σ : JS} {p : Nat} (hp : p ≤ 6) : JI (S_X0_startWith σ (nI p)) p 0 ∧ (S_X0_startWith σ (nI p)).2.2.2.2.2.2.2 = TT 0 ∧ (S_X0_startWith σ (nI p)).2.2.2.2.2.1 = σ.2.2.2.2.2.1 := by
  unfold S_X0_startWith
  rw [nI_clamp (by omega)]
  obtain ⟨f', g', d', e, hf⟩ := p_startG (σ := σ) hp p 0 σ.1 σ.2.1 σ.2.2.1 (by omega) (fun i hi => absurd hi (Nat.not_lt_zero _))
  rw [e]
  refine ⟨⟨hp, rfl, rfl, by decide, fun i hi => Or.inr ⟨i, by omega, ?_⟩, fun i q hi hq _ he => ?_⟩, p_TT0.symm, rfl⟩
  · show f' i = _
    rw [hf i hi, Nat.zero_add]
  · have he : f' i = f' q := he
    rw [hf i hi, hf q hq, nI_eq (by omega) (by omega)] at he
    exact he
theorem p_pickG {σ : JS} {p : Nat} (hp : p ≤ 6) : ∀ mm k, k + mm = p → G_X0_pickUp_13 σ mm k = (-1, σ) ∨ ∃ i, i < p ∧ σ.1 i = -1 ∧ G_X0_pickUp_13 σ mm k = (nI i, (upd σ.1 i σ.2.2.2.2.1, σ.2.1, σ.2.2.1, σ.2.2.2.1, σ.2.2.2.2.1, σ.2.2.2.2.2.1, σ.2.2.2.2.2.2.1, σ.2.2.2.2.2.2.2)) := by
  intro mm
  induction mm with
  | zero =>
    intro k hk
    exact Or.inl rfl
  | succ mm ih =>
    intro k hk
    have hk6 : k < 6 := by omega
    have e : S_X0_isDropped σ (nI k) = if σ.1 k = -1 then 1 else 0 := by
      unfold S_X0_isDropped
      rw [p_cell hk6 (by decide)]
    show (if (S_X0_isDropped σ (nI k)) = 0 then G_X0_pickUp_13 σ mm (k + 1) else (nI k, ((S_X3_setCell 6 σ.1 (nI k) σ.2.2.2.2.1), σ.2.1, σ.2.2.1, σ.2.2.2.1, σ.2.2.2.2.1, σ.2.2.2.2.2.1, σ.2.2.2.2.2.2.1, σ.2.2.2.2.2.2.2))) = _ ∨ ∃ i, i < p ∧ σ.1 i = -1 ∧ (if (S_X0_isDropped σ (nI k)) = 0 then G_X0_pickUp_13 σ mm (k + 1) else (nI k, ((S_X3_setCell 6 σ.1 (nI k) σ.2.2.2.2.1), σ.2.1, σ.2.2.1, σ.2.2.2.1, σ.2.2.2.2.1, σ.2.2.2.2.2.1, σ.2.2.2.2.2.2.1, σ.2.2.2.2.2.2.2))) = _
    rw [e]
    by_cases hd : σ.1 k = -1
    · rw [if_pos hd, if_neg (by decide), p_setCell hk6 (by decide)]
      exact Or.inr ⟨k, by omega, hd, rfl⟩
    · rw [if_neg hd, if_pos rfl]
      exact ih (k + 1) (by omega)
theorem p_pick {σ : JS} {p b : Nat} (hJ : JI σ p b) (hb : b < 900) : JI (S_X0_pickUp σ).2 p b ∧ (S_X0_pickUp σ).2.2.2.2.2.2.2.2 = σ.2.2.2.2.2.2.2 ∧ (S_X0_pickUp σ).2.2.2.2.2.2.1 = σ.2.2.2.2.2.1 ∧ (0 ≤ (S_X0_pickUp σ).1 → 0 ≤ S_X0_propLandingIn (S_X0_pickUp σ).2 0) := by
  have hp := hJ.p6
  have hno : JI (-1, σ).2 p b ∧ ((-1 : Int32), σ).2.2.2.2.2.2.2.2 = σ.2.2.2.2.2.2.2 ∧ ((-1 : Int32), σ).2.2.2.2.2.2.1 = σ.2.2.2.2.2.1 ∧ (0 ≤ ((-1 : Int32), σ).1 → 0 ≤ S_X0_propLandingIn ((-1 : Int32), σ).2 0) :=
    ⟨hJ, rfl, rfl, fun h => absurd (show (0 : Int32) ≤ -1 from h) (by decide)⟩
  unfold S_X0_pickUp
  rcases hJ.landing 0 with ⟨e, hn⟩ | ⟨i, hi, e1, e2⟩
  · rw [if_pos e, hJ.props, nI_clamp (by omega)]
    rcases p_pickG (σ := σ) hp p 0 (by omega) with e2 | ⟨i, hi, hd, e2⟩
    · rw [e2]
      exact hno
    · rw [e2]
      have hn0 : ∀ q, q < p → σ.1 q ≠ nI b := fun q hq e3 => hn q hq ((hJ.iff hq (t := 0) (by decide)).mpr (by rw [e3, Nat.add_zero]))
      have hJ2 : JI (upd σ.1 i σ.2.2.2.2.1, σ.2.1, σ.2.2.1, σ.2.2.2.1, σ.2.2.2.2.1, σ.2.2.2.2.2.1, σ.2.2.2.2.2.2.1, σ.2.2.2.2.2.2.2) p b := by
        refine ⟨hp, hJ.props, hJ.beat, hJ.b9, fun q hq => ?_, fun q r hq hr hne he => ?_⟩
        · show upd σ.1 i σ.2.2.2.2.1 q = -1 ∨ ∃ t, t ≤ 8 ∧ upd σ.1 i σ.2.2.2.2.1 q = nI (b + t)
          by_cases e3 : q = i
          · rw [e3, upd_same, hJ.beat]
            exact Or.inr ⟨0, by decide, rfl⟩
          · rw [upd_other e3]
            exact hJ.land q hq
        · have he : upd σ.1 i σ.2.2.2.2.1 q = upd σ.1 i σ.2.2.2.2.1 r := he
          have hne : upd σ.1 i σ.2.2.2.2.1 q ≠ -1 := hne
          by_cases e3 : q = i
          · by_cases e4 : r = i
            · rw [e3, e4]
            · rw [e3, upd_same, upd_other e4, hJ.beat] at he
              exact absurd he.symm (hn0 r hr)
          · by_cases e4 : r = i
            · rw [e4, upd_same, upd_other e3, hJ.beat] at he
              exact absurd he (hn0 q hq)
            · rw [upd_other e3] at he hne
              rw [upd_other e4] at he
              exact hJ.dist q r hq hr hne he
      refine ⟨hJ2, rfl, rfl, fun _ => ?_⟩
      rcases hJ2.landing 0 with ⟨_, e4⟩ | ⟨r, hr, _, e4⟩
      · exfalso
        refine e4 i hi ?_
        have : upd σ.1 i σ.2.2.2.2.1 i = nI (b + 0) := by rw [upd_same, hJ.beat, Nat.add_zero]
        exact (hJ2.iff hi (t := 0) (by decide)).mpr this
      · show 0 ≤ S_X0_propLandingIn (upd σ.1 i σ.2.2.2.2.1, σ.2.1, σ.2.2.1, σ.2.2.2.1, σ.2.2.2.2.1, σ.2.2.2.2.2.1, σ.2.2.2.2.2.2.1, σ.2.2.2.2.2.2.2) 0
        rw [e4]
        exact nI_pos' (by omega)
  · rw [if_neg (by rw [e2]; exact nI_m1 (by omega))]
    exact hno
/-- what the law asks of a beat -/
theorem p_beat {σ : JS} {p b h j : Nat} (hJ : JI σ p b) (hb : b < 900) (hh : h ≤ 9) (ht : σ.2.2.2.2.2.2.2 = TT j) (hj : j ≤ 540) :
    ∃ s d d2, s < 512 ∧ d ≤ p ∧ S_X0_state σ = nI s ∧ S_X0_droppedProps σ = nI d ∧ JI (S_X0_throwNow σ (nI h)).2 p (b + 1)
      ∧ S_X0_state (S_X0_throwNow σ (nI h)).2 = nI (nsN s h) ∧ S_X0_droppedProps (S_X0_throwNow σ (nI h)).2 = nI d2 ∧ d ≤ d2 ∧ d2 ≤ d + 2 ∧ d2 ≤ p ∧ pcN (nsN s h) + d2 = p ∧ (s % 2 = 0 → d2 = d) ∧ nsN s h < 512
      ∧ (∃ j2, j2 ≤ j + 9 ∧ (S_X0_throwNow σ (nI h)).2.2.2.2.2.2.2.2 = TT j2)
      ∧ ((S_X3_stateBehind (nI s) (nI h) = -1 ∧ (S_X0_throwNow σ (nI h)).1 = -1 ∧ (S_X0_throwNow σ (nI h)).2.2.2.2.2.2.1 = σ.2.2.2.2.2.1 + 1) ∨ (S_X3_stateBehind (nI s) (nI h) = nI (nsN s h) ∧ (S_X0_throwNow σ (nI h)).2.2.2.2.2.2.1 = σ.2.2.2.2.2.1)) := by
  obtain ⟨s, hs, e1, hx, hd⟩ := hJ.state
  obtain ⟨hJ2, e2, e3, e4, e5⟩ := p_throw hJ hb hs e1 hx hh ht hj
  obtain ⟨s2, hs2, f1, _, hd2⟩ := hJ2.state
  have hns := p_ns ⟨s, hs⟩ ⟨h, by omega⟩
  have hN := p_nx ⟨s, hs⟩ ⟨h, by omega⟩
  simp only at hns hN
  have es : s2 = nsN s h := by
    have := f1.symm.trans e2
    exact (nI_eq (by omega) (by omega)).mp this
  rw [es] at hd2
  refine ⟨s, dN σ p, dN (S_X0_throwNow σ (nI h)).2 p, hs, dN_le σ p, e1, hJ.dropped, hJ2, e2, hJ2.dropped, by omega, by omega, dN_le _ p, hd2, fun he => ?_, hns.1, e3, ?_⟩
  · have := hns.2.2.2 he
    omega
  · cases hq : nxN s h with
    | none =>
      have hN1 : S_X3_stateBehind (nI s) (nI h) = -1 := by rw [hN, hq]
      exact Or.inl ⟨hN1, e4 hq⟩
    | some t =>
      have hN1 : S_X3_stateBehind (nI s) (nI h) = nI t := by rw [hN, hq]
      have := e5 t hq
      rw [this.2]
      exact Or.inr ⟨hN1, this.1⟩
