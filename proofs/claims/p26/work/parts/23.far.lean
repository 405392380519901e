/-! pure facts of what the methods answer -/
/-! the shortest ways -/
/-- how many states are found -/
def fdN (f : Nat → Int32) (m : Nat) : Nat := sm (fun v => if f v = -1 then 0 else 1) m
theorem fdN_le (f : Nat → Int32) (m : Nat) : fdN f m ≤ m := by
  have := sm_le (f := fun v => if f v = -1 then 0 else 1) (g := fun _ => 1) (n := m) (fun k _ => by split <;> omega)
  rw [sm_const] at this
  unfold fdN
  omega
theorem fdN_upd {f : Nat → Int32} {v : Nat} {x : Int32} (hf : f v = -1) (hx : x ≠ -1) : ∀ m, fdN (upd f v x) m = fdN f m + (if v < m then 1 else 0)
  | 0 => rfl
  | m + 1 => by
    have ih := fdN_upd hf hx m
    have e1 : fdN (upd f v x) (m + 1) = fdN (upd f v x) m + (if upd f v x m = -1 then 0 else 1) := rfl
    have e2 : fdN f (m + 1) = fdN f m + (if f m = -1 then 0 else 1) := rfl
    rw [e1, e2, ih]
    by_cases e : m = v
    · rw [e, upd_same, if_neg hx, if_pos hf, if_neg (Nat.lt_irrefl v), if_pos (show v < v + 1 by omega)]
    · rw [upd_other e]
      by_cases hl : v < m
      · rw [if_pos hl, if_pos (show v < m + 1 by omega)]
        omega
      · rw [if_neg hl, if_neg (show ¬ v < m + 1 by omega)]
        omega
/-- the queue of states: found so far c, at work at the k-th -/
def QI (f w : Nat → Int32) (s c k : Nat) : Prop :=
  fdN f 512 = c ∧ (∀ v, v < 512 → f v = -1 ∨ ∃ d, d < c ∧ f v = nI d) ∧ (∀ i, i < c → ∃ v, v < 512 ∧ w i = nI v ∧ f v ≠ -1) ∧ (∀ v, v < 512 → f v ≠ -1 → ∃ i, i < c ∧ w i = nI v)
  ∧ (∀ i q u v du dv, i ≤ q → q < c → u < 512 → v < 512 → w i = nI u → w q = nI v → f u = nI du → f v = nI dv → du < 512 → dv < 512 → du ≤ dv)
  ∧ (∀ i u v du dv, k < c → i < c → u < 512 → v < 512 → w i = nI u → w k = nI v → f u = nI du → f v = nI dv → du < 512 → dv < 512 → du ≤ dv + 1)
  ∧ f s = nI 0
/-- the throws below m of a state are looked at -/
def done (f : Nat → Int32) (u du m : Nat) : Prop := ∀ x t, x < m → x ≤ 9 → nxN u x = some t → ∃ d, d ≤ du + 1 ∧ f t = nI d
theorem done_upd {f : Nat → Int32} {u du m v : Nat} {x : Int32} (h : done f u du m) (hf : f v = -1) (hd : du < 512) : done (upd f v x) u du m := by
  intro y t h1 h2 h3
  obtain ⟨d, hd2, e⟩ := h y t h1 h2 h3
  refine ⟨d, hd2, ?_⟩
  rw [upd_other ?_, e]
  intro e2
  rw [e2, hf] at e
  exact nI_m1 (a := d) (by omega) e.symm
theorem p_lookOn {f0 t0 w0 : Nat → Int32} {g3 p1 : Int32} {s k u du : Nat} (hk : k < 512) (hu : u < 512) (hdu : du < 512) : ∀ mm x c (f t w : Nat → Int32), x + mm = 10 → k < c → QI f w s c k → w k = nI u → f u = nI du → done f u du x → (∀ v, v < 512 → f v ≠ -1 → t v = -1 ∨ ∃ y, y ≤ 9 ∧ t v = nI y)
    → ∃ c2 f2 t2 w2, G_X2_lookOnFrom_5 (f0, t0, w0, g3) (nI u) p1 mm x (nI c) f t w = (nI c2, (f2, t2, w2, g3)) ∧ c ≤ c2 ∧ QI f2 w2 s c2 k ∧ w2 k = nI u ∧ f2 u = nI du ∧ done f2 u du 10 ∧ (∀ v, v < 512 → f2 v ≠ -1 → t2 v = -1 ∨ ∃ y, y ≤ 9 ∧ t2 v = nI y) ∧ (∀ v, f v ≠ -1 → f2 v = f v) ∧ (∀ i, i < c → w2 i = w i) := by
  intro mm
  induction mm with
  | zero =>
    intro x c f t w hx hkc hQ hw hfu hd ht
    obtain rfl : x = 10 := by omega
    exact ⟨c, f, t, w, rfl, Nat.le_refl _, hQ, hw, hfu, hd, ht, fun v _ => rfl, fun i _ => rfl⟩
  | succ mm ih =>
    intro x c f t w hx hkc hQ hw hfu hd ht
    have hx9 : x ≤ 9 := by omega
    have hN := p_nx ⟨u, hu⟩ ⟨x, by omega⟩
    have hns := p_ns ⟨u, hu⟩ ⟨x, by omega⟩
    simp only at hN hns
    show ∃ c2 f2 t2 w2, (if (S_X3_stateBehind (nI u) (nI x)) = (-1) then G_X2_lookOnFrom_5 (f0, t0, w0, g3) (nI u) p1 mm (x + 1) (nI c) f t w else (if (S_X3_cell 512 f (S_X3_stateBehind (nI u) (nI x))) = (-1) then (if (nI u) = g3 then G_X2_lookOnFrom_5 (f0, t0, w0, g3) (nI u) p1 mm (x + 1) (nI c + 1) (S_X3_setCell 512 f (S_X3_stateBehind (nI u) (nI x)) ((S_X3_cell 512 f (nI u)) + 1)) (S_X3_setCell 512 t (S_X3_stateBehind (nI u) (nI x)) (nI x)) (S_X3_setCell 512 w (nI c) (S_X3_stateBehind (nI u) (nI x))) else G_X2_lookOnFrom_5 (f0, t0, w0, g3) (nI u) p1 mm (x + 1) (nI c + 1) (S_X3_setCell 512 f (S_X3_stateBehind (nI u) (nI x)) ((S_X3_cell 512 f (nI u)) + 1)) (S_X3_setCell 512 t (S_X3_stateBehind (nI u) (nI x)) (S_X3_cell 512 t (nI u))) (S_X3_setCell 512 w (nI c) (S_X3_stateBehind (nI u) (nI x)))) else G_X2_lookOnFrom_5 (f0, t0, w0, g3) (nI u) p1 mm (x + 1) (nI c) f t w)) = _ ∧ _
    cases hq : nxN u x with
    | none =>
      have hN1 : S_X3_stateBehind (nI u) (nI x) = -1 := by rw [hN, hq]
      rw [if_pos hN1]
      refine ih (x + 1) c f t w (by omega) hkc hQ hw hfu (fun y b h1 h2 h3 => ?_) ht
      rcases Nat.lt_or_ge y x with hlt | hge
      · exact hd y b hlt h2 h3
      · obtain rfl : y = x := by omega
        rw [hq] at h3
        exact absurd h3 (by simp)
    | some b =>
      have hN1 : S_X3_stateBehind (nI u) (nI x) = nI b := by rw [hN, hq]
      have hb : b < 512 := by
        have : nsN u x = b := by unfold nsN; rw [hq]
        rw [← this]; exact hns.1
      obtain ⟨q1, q2, q3, q4, q5, q6, q7⟩ := hQ
      rw [hN1, if_neg (nI_m1 (by omega)), p_cell hb (by decide), p_cell hu (by decide), hfu]
      by_cases hc : f b = -1
      · rw [if_pos hc]
        have hc2 : c < 512 := by
          have h1 := fdN_upd (x := nI 0) hc (nI_m1 (by decide)) 512
          rw [if_pos hb, q1] at h1
          have h2 := fdN_le (upd f b (nI 0)) 512
          omega
        have hub : u ≠ b := by
          intro e
          rw [← e, hfu] at hc
          exact nI_m1 (by omega) hc
        have hduc : du < c := by
          rcases q2 u hu with e | ⟨d, h1, e⟩
          · rw [hfu] at e
            exact absurd e (nI_m1 (by omega))
          · rw [hfu, nI_eq (by omega) (by omega)] at e
            omega
        -- the new queue
        have hQ2 : QI (upd f b (nI (du + 1))) (upd w c (nI b)) s (c + 1) k := by
          have hn1 : nI (du + 1) ≠ -1 := nI_m1 (by omega)
          have old : ∀ i v, i < c + 1 → v < 512 → upd w c (nI b) i = nI v → (i = c ∧ v = b ∧ upd f b (nI (du + 1)) v = nI (du + 1)) ∨ (i < c ∧ w i = nI v ∧ v ≠ b ∧ upd f b (nI (du + 1)) v = f v) := by
            intro i v hi hv e
            by_cases ei : i = c
            · rw [ei, upd_same, nI_eq (by omega) (by omega)] at e
              exact Or.inl ⟨ei, e.symm, by rw [← e, upd_same]⟩
            · rw [upd_other ei] at e
              obtain ⟨v2, hv2, e2, e3⟩ := q3 i (by omega)
              rw [e, nI_eq (by omega) (by omega)] at e2
              have hvb : v ≠ b := by
                intro e4
                rw [← e2, e4] at e3
                exact e3 hc
              exact Or.inr ⟨by omega, e, hvb, upd_other hvb⟩
          refine ⟨?_, fun v hv => ?_, fun i hi => ?_, fun v hv hne => ?_, ?_, ?_, ?_⟩
          · have := fdN_upd hc hn1 512
            rw [if_pos hb, q1] at this
            exact this
          · by_cases e : v = b
            · rw [e, upd_same]
              exact Or.inr ⟨du + 1, by omega, rfl⟩
            · rw [upd_other e]
              rcases q2 v hv with e2 | ⟨d, h1, e2⟩
              · exact Or.inl e2
              · exact Or.inr ⟨d, by omega, e2⟩
          · by_cases ei : i = c
            · exact ⟨b, hb, by rw [ei, upd_same], by rw [upd_same]; exact hn1⟩
            · obtain ⟨v, hv, e2, e3⟩ := q3 i (by omega)
              refine ⟨v, hv, by rw [upd_other ei, e2], ?_⟩
              rw [upd_other ?_]
              · exact e3
              · intro e4
                rw [e4] at e3
                exact e3 hc
          · by_cases e : v = b
            · exact ⟨c, by omega, by rw [upd_same, e]⟩
            · rw [upd_other e] at hne
              obtain ⟨i, hi, e2⟩ := q4 v hv hne
              exact ⟨i, by omega, by rw [upd_other (by omega), e2]⟩
          · intro i q a v da dv hiq hqc ha hv e1 e2 e3 e4 h5 h6
            rcases old i a (by omega) ha e1 with ⟨o1, o2, o3⟩ | ⟨o1, o2, o3, o4⟩
            · rcases old q v hqc hv e2 with ⟨p1, p2, p3⟩ | ⟨p1, p2, p3, p4⟩
              · rw [e3, nI_eq (by omega) (by omega)] at o3
                rw [e4, nI_eq (by omega) (by omega)] at p3
                omega
              · omega
            · rw [e3] at o4
              rcases old q v hqc hv e2 with ⟨p1, p2, p3⟩ | ⟨p1, p2, p3, p4⟩
              · rw [e4, nI_eq (by omega) (by omega)] at p3
                have := q6 i a u da du hkc o1 ha hu o2 hw o4.symm hfu h5 hdu
                omega
              · rw [e4] at p4
                exact q5 i q a v da dv hiq p1 ha hv o2 p2 o4.symm p4.symm h5 h6
          · intro i a v da dv _ hi ha hv e1 e2 e3 e4 h5 h6
            have hkv : v = u := by
              rw [upd_other (show k ≠ c by omega), hw, nI_eq (by omega) (by omega)] at e2
              exact e2.symm
            rw [hkv, upd_other hub, hfu, nI_eq (by omega) (by omega)] at e4
            rcases old i a hi ha e1 with ⟨o1, o2, o3⟩ | ⟨o1, o2, o3, o4⟩
            · rw [e3, nI_eq (by omega) (by omega)] at o3
              omega
            · rw [e3] at o4
              have := q6 i a u da du hkc o1 ha hu o2 hw o4.symm hfu h5 hdu
              omega
          · rw [upd_other ?_, q7]
            intro e
            rw [e, hc] at q7
            exact nI_m1 (by decide) q7.symm
        have hd2 : done (upd f b (nI (du + 1))) u du (x + 1) := by
          intro y t2 h1 h2 h3
          rcases Nat.lt_or_ge y x with hlt | hge
          · exact done_upd hd hc hdu y t2 hlt h2 h3
          · obtain rfl : y = x := by omega
            rw [hq] at h3
            have := Option.some.inj h3
            rw [← this]
            exact ⟨du + 1, Nat.le_refl _, upd_same⟩
        have hw2 : upd w c (nI b) k = nI u := by rw [upd_other (by omega), hw]
        have hf2 : upd f b (nI (du + 1)) u = nI du := by rw [upd_other hub, hfu]
        rw [nI_1, nI_1, p_setCell hb (by decide), p_setCell hc2 (by decide), p_setCell (f := t) hb (by decide), p_setCell (f := t) hb (by decide), p_cell (f := t) hu (by decide)]
        have hkeep : ∀ v, f v ≠ -1 → upd f b (nI (du + 1)) v = f v := fun v hv => upd_other (fun e => hv (by rw [e]; exact hc))
        have fin : ∀ val : Int32, (val = -1 ∨ ∃ y, y ≤ 9 ∧ val = nI y) → ∃ c2 f2 t2 w2, G_X2_lookOnFrom_5 (f0, t0, w0, g3) (nI u) p1 mm (x + 1) (nI (c + 1)) (upd f b (nI (du + 1))) (upd t b val) (upd w c (nI b)) = (nI c2, (f2, t2, w2, g3)) ∧ c ≤ c2 ∧ QI f2 w2 s c2 k ∧ w2 k = nI u ∧ f2 u = nI du ∧ done f2 u du 10 ∧ (∀ v, v < 512 → f2 v ≠ -1 → t2 v = -1 ∨ ∃ y, y ≤ 9 ∧ t2 v = nI y) ∧ (∀ v, f v ≠ -1 → f2 v = f v) ∧ (∀ i, i < c → w2 i = w i) := by
          intro val hval
          obtain ⟨c2, f2, t2, w2, a1, a2, a3, a4, a5, a6, a7, a8, a9⟩ := ih (x + 1) (c + 1) (upd f b (nI (du + 1))) (upd t b val) (upd w c (nI b)) (by omega) (by omega) hQ2 hw2 hf2 hd2 (fun v hv hne => by
            by_cases e : v = b
            · rw [e, upd_same]
              exact hval
            · rw [upd_other e] at hne ⊢
              exact ht v hv hne)
          refine ⟨c2, f2, t2, w2, a1, by omega, a3, a4, a5, a6, a7, fun v hv => ?_, fun i hi => ?_⟩
          · rw [a8 v (by rw [hkeep v hv]; exact hv), hkeep v hv]
          · rw [a9 i (by omega), upd_other (by omega)]
        by_cases hg : nI u = g3
        · rw [if_pos hg]
          exact fin (nI x) (Or.inr ⟨x, hx9, rfl⟩)
        · rw [if_neg hg]
          exact fin (t u) (ht u hu (by rw [hfu]; exact nI_m1 (by omega)))
      · rw [if_neg hc]
        refine ih (x + 1) c f t w (by omega) hkc ⟨q1, q2, q3, q4, q5, q6, q7⟩ hw hfu (fun y t2 h1 h2 h3 => ?_) ht
        rcases Nat.lt_or_ge y x with hlt | hge
        · exact hd y t2 hlt h2 h3
        · obtain rfl : y = x := by omega
          rw [hq] at h3
          have := Option.some.inj h3
          rw [← this]
          obtain ⟨i, hi, ei⟩ := q4 b hb hc
          rcases q2 b hb with e | ⟨d, h4, e⟩
          · exact absurd e hc
          · have hcc := fdN_le f 512
            rw [q1] at hcc
            exact ⟨d, q6 i b u d du hkc hi hb hu ei hw e hfu (by omega) hdu, e⟩
theorem pc_bits : ∀ s : Fin 512, pcN s.val = (s.val.testBit 0).toNat + (s.val.testBit 1).toNat + (s.val.testBit 2).toNat + (s.val.testBit 3).toNat + (s.val.testBit 4).toNat + (s.val.testBit 5).toNat + (s.val.testBit 6).toNat + (s.val.testBit 7).toNat + (s.val.testBit 8).toNat := by decide +kernel
theorem b_le (b : Bool) : b.toNat ≤ 1 := by cases b <;> decide
theorem b_imp {a b : Bool} (h : a = true → b = true) : a.toNat ≤ b.toNat := by
  cases a with
  | false => exact Nat.zero_le _
  | true => rw [h rfl]; exact Nat.le_refl _
/-- after i beats of nine: what lies behind the nine is wanted there -/
def nine (t i u : Nat) : Prop := ∀ b, b < i → u.testBit (9 + b - i) = true → t.testBit b = true
theorem p_free {i u t : Nat} (hi : i < 9) (hu : u < 512) (ht : t < 512) (hpc : pcN u = pcN t) (h0 : u.testBit 0 = true) : t.testBit i = true ∨ (∃ b, b < i ∧ t.testBit b = true ∧ u.testBit (9 + b - i) = false) ∨ ∃ j, 1 ≤ j ∧ j < 9 - i ∧ u.testBit j = false := by
  by_cases c1 : t.testBit i = true
  · exact Or.inl c1
  by_cases c2 : ∃ b, b < i ∧ t.testBit b = true ∧ u.testBit (9 + b - i) = false
  · exact Or.inr (Or.inl c2)
  by_cases c3 : ∃ j, 1 ≤ j ∧ j < 9 - i ∧ u.testBit j = false
  · exact Or.inr (Or.inr c3)
  exfalso
  have e1 : t.testBit i = false := by cases e : t.testBit i with | false => rfl | true => exact absurd e c1
  have e2 : ∀ b, b < i → (t.testBit b).toNat ≤ (u.testBit (9 + b - i)).toNat := fun b hb => b_imp fun h => by
    cases e : u.testBit (9 + b - i) with
    | true => rfl
    | false => exact absurd ⟨b, hb, h, e⟩ c2
  have e3 : ∀ j, j < 9 - i → u.testBit j = true := fun j hj => by
    cases e : u.testBit j with
    | true => rfl
    | false =>
      rcases Nat.eq_zero_or_pos j with hz | hz
      · rw [hz, h0] at e
        exact absurd e (by decide)
      · exact absurd ⟨j, hz, hj, e⟩ c3
  rw [pc_bits ⟨u, hu⟩, pc_bits ⟨t, ht⟩] at hpc
  simp only at hpc
  have l := fun k => b_le (t.testBit k)
  have l0 := l 0
  have l1 := l 1
  have l2 := l 2
  have l3 := l 3
  have l4 := l 4
  have l5 := l 5
  have l6 := l 6
  have l7 := l 7
  have l8 := l 8
  have tt : (true : Bool).toNat = 1 := rfl
  have ff : (false : Bool).toNat = 0 := rfl
  have hcase : i = 0 ∨ i = 1 ∨ i = 2 ∨ i = 3 ∨ i = 4 ∨ i = 5 ∨ i = 6 ∨ i = 7 ∨ i = 8 := by omega
  rcases hcase with rfl | rfl | rfl | rfl | rfl | rfl | rfl | rfl | rfl
  · rw [e3 0 (by decide), e3 1 (by decide), e3 2 (by decide), e3 3 (by decide), e3 4 (by decide), e3 5 (by decide), e3 6 (by decide), e3 7 (by decide), e3 8 (by decide), e1, tt, ff] at hpc
    omega
  · rw [e3 0 (by decide), e3 1 (by decide), e3 2 (by decide), e3 3 (by decide), e3 4 (by decide), e3 5 (by decide), e3 6 (by decide), e3 7 (by decide), e1, tt, ff] at hpc
    have : (t.testBit 0).toNat ≤ (u.testBit 8).toNat := e2 0 (by decide)
    omega
  · rw [e3 0 (by decide), e3 1 (by decide), e3 2 (by decide), e3 3 (by decide), e3 4 (by decide), e3 5 (by decide), e3 6 (by decide), e1, tt, ff] at hpc
    have : (t.testBit 0).toNat ≤ (u.testBit 7).toNat := e2 0 (by decide)
    have : (t.testBit 1).toNat ≤ (u.testBit 8).toNat := e2 1 (by decide)
    omega
  · rw [e3 0 (by decide), e3 1 (by decide), e3 2 (by decide), e3 3 (by decide), e3 4 (by decide), e3 5 (by decide), e1, tt, ff] at hpc
    have : (t.testBit 0).toNat ≤ (u.testBit 6).toNat := e2 0 (by decide)
    have : (t.testBit 1).toNat ≤ (u.testBit 7).toNat := e2 1 (by decide)
    have : (t.testBit 2).toNat ≤ (u.testBit 8).toNat := e2 2 (by decide)
    omega
  · rw [e3 0 (by decide), e3 1 (by decide), e3 2 (by decide), e3 3 (by decide), e3 4 (by decide), e1, tt, ff] at hpc
    have : (t.testBit 0).toNat ≤ (u.testBit 5).toNat := e2 0 (by decide)
    have : (t.testBit 1).toNat ≤ (u.testBit 6).toNat := e2 1 (by decide)
    have : (t.testBit 2).toNat ≤ (u.testBit 7).toNat := e2 2 (by decide)
    have : (t.testBit 3).toNat ≤ (u.testBit 8).toNat := e2 3 (by decide)
    omega
  · rw [e3 0 (by decide), e3 1 (by decide), e3 2 (by decide), e3 3 (by decide), e1, tt, ff] at hpc
    have : (t.testBit 0).toNat ≤ (u.testBit 4).toNat := e2 0 (by decide)
    have : (t.testBit 1).toNat ≤ (u.testBit 5).toNat := e2 1 (by decide)
    have : (t.testBit 2).toNat ≤ (u.testBit 6).toNat := e2 2 (by decide)
    have : (t.testBit 3).toNat ≤ (u.testBit 7).toNat := e2 3 (by decide)
    have : (t.testBit 4).toNat ≤ (u.testBit 8).toNat := e2 4 (by decide)
    omega
  · rw [e3 0 (by decide), e3 1 (by decide), e3 2 (by decide), e1, tt, ff] at hpc
    have : (t.testBit 0).toNat ≤ (u.testBit 3).toNat := e2 0 (by decide)
    have : (t.testBit 1).toNat ≤ (u.testBit 4).toNat := e2 1 (by decide)
    have : (t.testBit 2).toNat ≤ (u.testBit 5).toNat := e2 2 (by decide)
    have : (t.testBit 3).toNat ≤ (u.testBit 6).toNat := e2 3 (by decide)
    have : (t.testBit 4).toNat ≤ (u.testBit 7).toNat := e2 4 (by decide)
    have : (t.testBit 5).toNat ≤ (u.testBit 8).toNat := e2 5 (by decide)
    omega
  · rw [e3 0 (by decide), e3 1 (by decide), e1, tt, ff] at hpc
    have : (t.testBit 0).toNat ≤ (u.testBit 2).toNat := e2 0 (by decide)
    have : (t.testBit 1).toNat ≤ (u.testBit 3).toNat := e2 1 (by decide)
    have : (t.testBit 2).toNat ≤ (u.testBit 4).toNat := e2 2 (by decide)
    have : (t.testBit 3).toNat ≤ (u.testBit 5).toNat := e2 3 (by decide)
    have : (t.testBit 4).toNat ≤ (u.testBit 6).toNat := e2 4 (by decide)
    have : (t.testBit 5).toNat ≤ (u.testBit 7).toNat := e2 5 (by decide)
    have : (t.testBit 6).toNat ≤ (u.testBit 8).toNat := e2 6 (by decide)
    omega
  · rw [e3 0 (by decide), e1, tt, ff] at hpc
    have : (t.testBit 0).toNat ≤ (u.testBit 1).toNat := e2 0 (by decide)
    have : (t.testBit 1).toNat ≤ (u.testBit 2).toNat := e2 1 (by decide)
    have : (t.testBit 2).toNat ≤ (u.testBit 3).toNat := e2 2 (by decide)
    have : (t.testBit 3).toNat ≤ (u.testBit 4).toNat := e2 3 (by decide)
    have : (t.testBit 4).toNat ≤ (u.testBit 5).toNat := e2 4 (by decide)
    have : (t.testBit 5).toNat ≤ (u.testBit 6).toNat := e2 5 (by decide)
    have : (t.testBit 6).toNat ≤ (u.testBit 7).toNat := e2 6 (by decide)
    have : (t.testBit 7).toNat ≤ (u.testBit 8).toNat := e2 7 (by decide)
    omega
theorem p_step9 {i u t : Nat} (hi : i < 9) (hu : u < 512) (ht : t < 512) (hpc : pcN u = pcN t) (hF : nine t i u) : ∃ x u2, x ≤ 9 ∧ nxN u x = some u2 ∧ u2 < 512 ∧ pcN u2 = pcN t ∧ nine t (i + 1) u2 := by
  have h9 := p_t512 hu (Nat.le_refl 9)
  have hz : u.testBit 0 = decide (u % 2 = 1) := Nat.testBit_zero u
  have fin : ∀ x u2, x ≤ 9 → nxN u x = some u2 → (∀ b, b < i + 1 → u2.testBit (8 + b - i) = true → u.testBit (9 + b - i) = true ∨ t.testBit b = true) → ∃ x u2, x ≤ 9 ∧ nxN u x = some u2 ∧ u2 < 512 ∧ pcN u2 = pcN t ∧ nine t (i + 1) u2 := by
    intro x u2 hx hn hb
    have h1 := (p_ns ⟨u, hu⟩ ⟨x, by omega⟩).1
    simp only at h1
    have h2 : nsN u x = u2 := by unfold nsN; rw [hn]
    refine ⟨x, u2, hx, hn, by rw [← h2]; exact h1, (p_nxpc ⟨u, hu⟩ ⟨x, by omega⟩ u2 hn).trans hpc, fun b hb1 hb2 => ?_⟩
    have e : 9 + b - (i + 1) = 8 + b - i := by omega
    rw [e] at hb2
    rcases hb b hb1 hb2 with h | h
    · rcases Nat.lt_or_ge b i with hlt | hge
      · exact hF b hlt h
      · have : 9 + b - i = 9 := by omega
        rw [this, h9] at h
        exact absurd h (by decide)
    · exact h
  cases h0 : u.testBit 0 with
  | false =>
    have he : u % 2 = 0 := by
      rw [h0] at hz
      have := of_decide_eq_false hz.symm
      omega
    refine fin 0 (u / 2) (by decide) (by unfold nxN; rw [if_pos he, if_pos rfl]) (fun b hb h => Or.inl ?_)
    rw [← Nat.testBit_succ] at h
    have e : (8 + b - i).succ = 9 + b - i := by omega
    rw [e] at h
    exact h
  | true =>
    have he : ¬ u % 2 = 0 := by
      rw [h0] at hz
      have := of_decide_eq_true hz.symm
      omega
    -- a throw to a free place
    have go : ∀ x, 1 ≤ x → x ≤ 9 → u.testBit x = false → (∀ b, b < i + 1 → 9 + b - i = x → t.testBit b = true) → ∃ x u2, x ≤ 9 ∧ nxN u x = some u2 ∧ u2 < 512 ∧ pcN u2 = pcN t ∧ nine t (i + 1) u2 := by
      intro x h1 hx hb hw
      refine fin x (u / 2 ||| 1 <<< (x - 1)) hx (by
        unfold nxN
        rw [if_neg he, if_neg (fun e => e.elim (fun e => by omega) (fun e => by rw [hb] at e; exact absurd e (by decide)))]) (fun b hb1 h => ?_)
      rw [p_tb, Bool.or_eq_true, decide_eq_true_iff, ← Nat.testBit_succ] at h
      have e : (8 + b - i).succ = 9 + b - i := by omega
      rw [e] at h
      rcases h with h | h
      · exact Or.inl h
      · exact Or.inr (hw b hb1 (by omega))
    rcases p_free hi hu ht hpc h0 with c | ⟨b, hb, c1, c2⟩ | ⟨j, hj1, hj2, c⟩
    · exact go 9 (by decide) (Nat.le_refl _) h9 (fun b hb e => by
        have : b = i := by omega
        rw [this]
        exact c)
    · exact go (9 + b - i) (by omega) (by omega) c2 (fun b2 hb2 e => by
        have : b2 = b := by omega
        rw [this]
        exact c1)
    · exact go j hj1 (by omega) c (fun b hb e => by omega)
theorem p_end9 {u t : Nat} (hu : u < 512) (ht : t < 512) (hpc : pcN u = pcN t) (hF : nine t 9 u) : u = t := by
  have e : ∀ b, b < 9 → (u.testBit b).toNat ≤ (t.testBit b).toNat := fun b hb => b_imp fun h => hF b hb (by
    have : 9 + b - 9 = b := by omega
    rw [this]
    exact h)
  rw [pc_bits ⟨u, hu⟩, pc_bits ⟨t, ht⟩] at hpc
  simp only at hpc
  have e0 := e 0 (by decide)
  have e1 := e 1 (by decide)
  have e2 := e 2 (by decide)
  have e3 := e 3 (by decide)
  have e4 := e 4 (by decide)
  have e5 := e 5 (by decide)
  have e6 := e 6 (by decide)
  have e7 := e 7 (by decide)
  have e8 := e 8 (by decide)
  have inj : ∀ a b : Bool, a.toNat = b.toNat → a = b := by decide
  refine Nat.eq_of_testBit_eq fun x => ?_
  rcases Nat.lt_or_ge x 9 with h | h
  · refine inj _ _ ?_
    have : x = 0 ∨ x = 1 ∨ x = 2 ∨ x = 3 ∨ x = 4 ∨ x = 5 ∨ x = 6 ∨ x = 7 ∨ x = 8 := by omega
    rcases this with rfl | rfl | rfl | rfl | rfl | rfl | rfl | rfl | rfl <;> omega
  · rw [p_t512 hu h, p_t512 ht h]
/-- what a search has left behind: the shortest ways from s -/
def BF (f t : Nat → Int32) (s : Nat) : Prop := f s = nI 0 ∧ ∀ v, v < 512 → f v = -1 ∨ ∃ d, d < 512 ∧ f v = nI d ∧ done f v d 10 ∧ (t v = -1 ∨ ∃ y, y ≤ 9 ∧ t v = nI y)
theorem BF.nineD {f t : Nat → Int32} {s tg : Nat} (B : BF f t s) (hs : s < 512) (ht : tg < 512) (hpc : pcN s = pcN tg) : ∃ d, d ≤ 9 ∧ f tg = nI d := by
  have key : ∀ i, i ≤ 9 → ∃ u d, u < 512 ∧ d ≤ i ∧ f u = nI d ∧ pcN u = pcN tg ∧ nine tg i u := by
    intro i
    induction i with
    | zero => exact fun _ => ⟨s, 0, hs, Nat.le_refl _, B.1, hpc, fun b hb => absurd hb (Nat.not_lt_zero _)⟩
    | succ i ih =>
      intro hi
      obtain ⟨u, d, h1, h2, h3, h4, h5⟩ := ih (by omega)
      obtain ⟨x, u2, g1, g2, g3, g4, g5⟩ := p_step9 (by omega) h1 ht h4 h5
      rcases B.2 u h1 with e | ⟨d2, e1, e2, e3, _⟩
      · rw [h3] at e
        exact absurd e (nI_m1 (by omega))
      · rw [h3, nI_eq (by omega) (by omega)] at e2
        obtain ⟨d3, e4, e5⟩ := e3 x u2 (by omega) g1 g2
        exact ⟨u2, d3, g3, by omega, e5, g4, g5⟩
  obtain ⟨u, d, h1, h2, h3, h4, h5⟩ := key 9 (Nat.le_refl _)
  have := p_end9 h1 ht h4 h5
  rw [this] at h3
  exact ⟨d, h2, h3⟩
theorem p_fillG {n : Nat} {f0 : Nat → Int32} {v : Int32} (hn : n < 2 ^ 31) : ∀ mm k (f : Nat → Int32), k + mm = n → (∀ i, i < k → f i = v) → ∀ i, i < n → G_J7_fill_53178_5 n f0 v mm k f i = v := by
  intro mm
  induction mm with
  | zero =>
    intro k f hk hf i hi
    exact hf i (by omega)
  | succ mm ih =>
    intro k f hk hf
    refine ih (k + 1) _ (by omega) (fun i hi => ?_)
    rw [nI_clamp (by omega)]
    by_cases e : i = k
    · rw [e, upd_same]
    · rw [upd_other e]
      exact hf i (by omega)
theorem p_fill {f : Nat → Int32} {v : Int32} {i : Nat} (hi : i < 512) : S_J7_fill_53178 512 f v i = v := p_fillG (by decide) 512 0 f (by omega) (fun i hi => absurd hi (Nat.not_lt_zero _)) i hi
theorem p_lookG {η : YS} {s : Nat} (hs : s < 512) {p0 : Int32} : ∀ mm k c (f t w : Nat → Int32), k + mm = 512 → k ≤ c → QI f w s c k → (∀ i v d, i < k → v < 512 → w i = nI v → f v = nI d → d < 512 → done f v d 10) → (∀ v, v < 512 → f v ≠ -1 → t v = -1 ∨ ∃ y, y ≤ 9 ∧ t v = nI y)
    → ∃ f2 t2 w2, G_X2_lookFrom_53 η p0 mm k (nI c) f t w (nI s) = (f2, t2, w2, nI s) ∧ BF f2 t2 s := by
  intro mm
  induction mm with
  | zero =>
    intro k c f t w hk hkc hQ hd ht
    have hc := fdN_le f 512
    obtain ⟨q1, q2, q3, q4, q5, q6, q7⟩ := hQ
    refine ⟨f, t, w, ?_, q7, fun v hv => ?_⟩
    · show (if nI c ≤ nI k then (f, t, w, nI s) else (f, t, w, nI s)) = _
      rw [if_pos (nI_le (by omega) (by omega))]
    · rcases q2 v hv with e | ⟨d, h1, e⟩
      · exact Or.inl e
      · have hne : f v ≠ -1 := by rw [e]; exact nI_m1 (by omega)
        obtain ⟨i, hi, ei⟩ := q4 v hv hne
        exact Or.inr ⟨d, by omega, e, hd i v d (by omega) hv ei e (by omega), ht v hv hne⟩
  | succ mm ih =>
    intro k c f t w hk hkc hQ hd ht
    have hcl := fdN_le f 512
    obtain ⟨q1, q2, q3, q4, q5, q6, q7⟩ := hQ
    by_cases hlt : c ≤ k
    · obtain rfl : k = c := by omega
      refine ⟨f, t, w, ?_, q7, fun v hv => ?_⟩
      · show (if nI k ≤ nI k then (f, t, w, nI s) else _) = _
        rw [if_pos (nI_le (Nat.le_refl _) (by omega))]
      · rcases q2 v hv with e | ⟨d, h1, e⟩
        · exact Or.inl e
        · have hne : f v ≠ -1 := by rw [e]; exact nI_m1 (by omega)
          obtain ⟨i, hi, ei⟩ := q4 v hv hne
          exact Or.inr ⟨d, by omega, e, hd i v d hi hv ei e (by omega), ht v hv hne⟩
    · have hkc2 : k < c := by omega
      obtain ⟨u, hu, ew, hne⟩ := q3 k hkc2
      rcases q2 u hu with e | ⟨du, hdu, e⟩
      · exact absurd e hne
      · obtain ⟨c2, f2, t2, w2, a1, a2, a3, a4, a5, a6, a7, a8, a9⟩ := p_lookOn (f0 := f) (t0 := t) (w0 := w) (g3 := nI s) (p1 := nI c) (s := s) (by omega : k < 512) hu (by omega : du < 512) 10 0 c f t w rfl hkc2 ⟨q1, q2, q3, q4, q5, q6, q7⟩ ew e (fun x t h => absurd h (Nat.not_lt_zero _)) ht
        have hL : S_X2_lookOnFrom (f, t, w, nI s) (S_X3_cell 512 w (nI k)) (nI c) = (nI c2, (f2, t2, w2, nI s)) := by
          rw [p_cell (by omega) (by decide), ew]
          exact a1
        have hstep : G_X2_lookFrom_53 η p0 (mm + 1) k (nI c) f t w (nI s) = G_X2_lookFrom_53 η p0 mm (k + 1) (nI c2) f2 t2 w2 (nI s) := by
          show (if nI c ≤ nI k then (f, t, w, nI s) else G_X2_lookFrom_53 η p0 mm (k + 1) ((S_X2_lookOnFrom (f, t, w, nI s) (S_X3_cell 512 w (nI k)) (nI c)).1) (((S_X2_lookOnFrom (f, t, w, nI s) (S_X3_cell 512 w (nI k)) (nI c)).2).1) (((S_X2_lookOnFrom (f, t, w, nI s) (S_X3_cell 512 w (nI k)) (nI c)).2).2.1) (((S_X2_lookOnFrom (f, t, w, nI s) (S_X3_cell 512 w (nI k)) (nI c)).2).2.2.1) (((S_X2_lookOnFrom (f, t, w, nI s) (S_X3_cell 512 w (nI k)) (nI c)).2).2.2.2)) = _
          rw [if_neg (nI_ge hkc2 (by omega)), hL]
        rw [hstep]
        obtain ⟨b1, b2, b3, b4, b5, b6, b7⟩ := a3
        have hc2 := fdN_le f2 512
        refine ih (k + 1) c2 f2 t2 w2 (by omega) (by omega) ⟨b1, b2, b3, b4, b5, ?_, b7⟩ (fun i v d hi hv e1 e2 hd2 => ?_) a7
        · intro i a v da dv h1 h2 ha hv e1 e2 e3 e4 h5 h6
          have h7 := b6 i a u da du (by omega) h2 ha hu e1 a4 e3 a5 h5 (by omega)
          have h8 := b5 k (k + 1) u v du dv (by omega) h1 hu hv a4 e2 a5 e4 (by omega) h6
          omega
        · rcases Nat.lt_or_ge i k with hik | hik
          · rw [a9 i (by omega)] at e1
            have hfv : f v ≠ -1 := by
              obtain ⟨v2, hv2, e5, e6⟩ := q3 i (by omega)
              rw [e1, nI_eq (by omega) (by omega)] at e5
              rw [e5]
              exact e6
            have e7 := a8 v hfv
            rw [e7] at e2
            intro x t3 h1 h2 h3
            obtain ⟨d3, h4, h5⟩ := hd i v d hik hv e1 e2 hd2 x t3 h1 h2 h3
            refine ⟨d3, h4, ?_⟩
            rw [a8 t3 (by rw [h5]; exact nI_m1 (by omega)), h5]
          · obtain rfl : i = k := by omega
            rw [a4, nI_eq (by omega) (by omega)] at e1
            rw [← e1] at e2 ⊢
            rw [a5, nI_eq (by omega) (by omega)] at e2
            rw [← e2]
            exact a6
theorem fdN_all {f : Nat → Int32} : ∀ m, (∀ i, i < m → f i = -1) → fdN f m = 0
  | 0, _ => rfl
  | m + 1, h => by
    have e : fdN f (m + 1) = fdN f m + (if f m = -1 then 0 else 1) := rfl
    rw [e, fdN_all m (fun i hi => h i (by omega)), if_pos (h m (by omega))]
/-- a search leaves the shortest ways behind -/
theorem p_look {η : YS} {s : Nat} (hs : s < 512) (hne : nI s ≠ η.2.2.2) : ∃ f2 t2 w2, S_X2_lookFrom η (nI s) = (f2, t2, w2, nI s) ∧ BF f2 t2 s := by
  unfold S_X2_lookFrom
  rw [if_neg hne, p_setCell hs (by decide), p_setCell (f := η.2.1) hs (by decide)]
  have e0 : S_X3_setCell 512 η.2.2.1 0 (nI s) = upd η.2.2.1 0 (nI s) := p_setCell (k := 0) (by decide) (by decide)
  rw [e0]
  have hz : (0 : Int32) = nI 0 := nI_0.symm
  have hf : ∀ v, v < 512 → upd (S_J7_fill_53178 512 η.1 (-1)) s 0 v = if v = s then nI 0 else -1 := by
    intro v hv
    by_cases e : v = s
    · rw [e, upd_same, if_pos rfl, nI_0]
    · rw [upd_other e, if_neg e, p_fill hv]
  have hfd : fdN (upd (S_J7_fill_53178 512 η.1 (-1)) s 0) 512 = 1 := by
    rw [fdN_upd (p_fill hs) (by decide) 512, fdN_all 512 (fun i hi => p_fill hi), if_pos hs]
  refine p_lookG hs 512 0 1 _ _ _ rfl (by decide) ⟨hfd, fun v hv => ?_, fun i hi => ?_, fun v hv hn => ?_, ?_, ?_, ?_⟩ (fun i v d hi => absurd hi (Nat.not_lt_zero _)) (fun v hv hn => ?_)
  · rw [hf v hv]
    by_cases e : v = s
    · rw [if_pos e]
      exact Or.inr ⟨0, by decide, rfl⟩
    · rw [if_neg e]
      exact Or.inl rfl
  · obtain rfl : i = 0 := by omega
    exact ⟨s, hs, upd_same, by rw [hf s hs, if_pos rfl]; exact nI_m1 (by decide)⟩
  · rw [hf v hv] at hn
    by_cases e : v = s
    · exact ⟨0, by decide, by rw [upd_same, e]⟩
    · rw [if_neg e] at hn
      exact absurd rfl hn
  · intro i q u v du dv hiq hq hu hv e1 e2 e3 e4 h5 h6
    obtain rfl : q = 0 := by omega
    obtain rfl : i = 0 := by omega
    rw [upd_same, nI_eq (by omega) (by omega)] at e1 e2
    rw [← e1] at e3
    rw [← e2] at e4
    rw [e3, nI_eq (by omega) (by omega)] at e4
    omega
  · intro i u v du dv _ hi hu hv e1 e2 e3 e4 h5 h6
    obtain rfl : i = 0 := by omega
    rw [upd_same, nI_eq (by omega) (by omega)] at e1 e2
    rw [← e1] at e3
    rw [← e2] at e4
    rw [e3, nI_eq (by omega) (by omega)] at e4
    omega
  · rw [hf s hs, if_pos rfl]
  · rw [hf v hv] at hn
    by_cases e : v = s
    · rw [e, upd_same]
      exact Or.inl rfl
    · rw [if_neg e] at hn
      exact absurd rfl hn
/-- the ways as they may be: nothing looked for yet, or the shortest ways from one state -/
def WI (η : YS) : Prop := η.2.2.2 = -1 ∨ ∃ c, c < 512 ∧ η.2.2.2 = nI c ∧ BF η.1 η.2.1 c
theorem p_look2 {η : YS} {s : Nat} (hs : s < 512) (W : WI η) : (S_X2_lookFrom η (nI s)).2.2.2 = nI s ∧ BF (S_X2_lookFrom η (nI s)).1 (S_X2_lookFrom η (nI s)).2.1 s ∧ S_X2_lookFrom (S_X2_lookFrom η (nI s)) (nI s) = S_X2_lookFrom η (nI s) := by
  by_cases hne : nI s = η.2.2.2
  · have e : S_X2_lookFrom η (nI s) = η := by
      unfold S_X2_lookFrom
      rw [if_pos hne]
    rw [e, e]
    refine ⟨hne.symm, ?_, rfl⟩
    rcases W with h | ⟨c, hc, h1, h2⟩
    · rw [h] at hne
      exact absurd hne (nI_m1 (by omega))
    · rw [h1, nI_eq (by omega) (by omega)] at hne
      rw [hne]
      exact h2
  · obtain ⟨f2, t2, w2, e, B⟩ := p_look hs hne
    rw [e]
    refine ⟨rfl, B, ?_⟩
    unfold S_X2_lookFrom
    exact if_pos rfl
/-- these ways end in those, from this state -/
def WE (σ : JS) (z η : YS) : Prop := S_X2_lookFrom η (S_X0_state σ) = z
theorem p_stG {ξ : XS} {σ : JS} {η η' z : YS} {rows : List RD} {ro : RD} (h : WE σ z η) (h' : WE σ z η') : ∀ mm k v, G_X3_stepsInto_34 ξ σ η rows ro mm k v = G_X3_stepsInto_34 ξ σ η' rows ro mm k v ∧ (G_X3_stepsInto_34 ξ σ η rows ro mm k v).2 = z := by
  have h : S_X2_lookFrom η (S_X0_state σ) = z := h
  have h' : S_X2_lookFrom η' (S_X0_state σ) = z := h'
  intro mm
  induction mm with
  | zero =>
    intro k v
    simp only [G_X3_stepsInto_34, h, h', and_self]
  | succ mm ih =>
    intro k v
    simp only [G_X3_stepsInto_34, h, h']
    split
    · exact ih _ _
    · split
      · exact ih _ _
      · split
        · exact ih _ _
        · exact ih _ _
theorem p_stE {ξ : XS} {σ : JS} {η η' z : YS} {rows : List RD} {ro : RD} (hz : WE σ z z) (h : WE σ z η) (h' : WE σ z η') : (S_X3_stepsInto ξ σ η rows ro).1 = (S_X3_stepsInto ξ σ η' rows ro).1 ∧ WE σ z (S_X3_stepsInto ξ σ η rows ro).2 := by
  unfold S_X3_stepsInto
  split
  · obtain ⟨e1, e2⟩ := p_stG (ξ := ξ) (rows := rows) (ro := ro) h h' ((S_X1_length ro.2).toNatClampNeg) 0 (-1)
    rw [← e1, e2]
    exact ⟨rfl, hz⟩
  · exact ⟨rfl, h⟩
theorem p_stZ {ξ : XS} {σ : JS} {η z : YS} {rows : List RD} {ro : RD} (h : WE σ z η) (hne : (S_X3_stepsInto ξ σ η rows ro).1 ≠ -1) : (S_X3_stepsInto ξ σ η rows ro).2 = z := by
  unfold S_X3_stepsInto at hne ⊢
  split
  · exact (p_stG (ξ := ξ) (rows := rows) (ro := ro) h h _ _ _).2
  · rename_i hc
    rw [if_neg hc] at hne
    exact absurd rfl hne
theorem p_ftG {ξ : XS} {σ : JS} {η η' : YS} {rows : List RD} {ro : RD} (h : S_X3_stepsInto ξ σ η rows ro = S_X3_stepsInto ξ σ η' rows ro) : ∀ mm k v, G_X3_firstThrowInto_22 ξ σ η rows ro mm k v = G_X3_firstThrowInto_22 ξ σ η' rows ro mm k v := by
  intro mm
  induction mm with
  | zero =>
    intro k v
    simp only [G_X3_firstThrowInto_22, h]
  | succ mm ih =>
    intro k v
    simp only [G_X3_firstThrowInto_22, h, ih]
theorem p_ftG2 {ξ : XS} {σ : JS} {η : YS} {rows : List RD} {ro : RD} : ∀ mm k v, (G_X3_firstThrowInto_22 ξ σ η rows ro mm k v).2 = (S_X3_stepsInto ξ σ η rows ro).2 := by
  intro mm
  induction mm with
  | zero =>
    intro k v
    rfl
  | succ mm ih =>
    intro k v
    simp only [G_X3_firstThrowInto_22]
    split
    · split
      · exact ih _ _
      · split
        · exact ih _ _
        · exact ih _ _
    · exact ih _ _
theorem p_ftE {ξ : XS} {σ : JS} {η η' z : YS} {rows : List RD} {ro : RD} (hz : WE σ z z) (h : WE σ z η) (h' : WE σ z η') : (S_X3_firstThrowInto ξ σ η rows ro).1 = (S_X3_firstThrowInto ξ σ η' rows ro).1 ∧ WE σ z (S_X3_firstThrowInto ξ σ η rows ro).2 := by
  obtain ⟨e1, e2⟩ := p_stE (ξ := ξ) (rows := rows) (ro := ro) hz h h'
  unfold S_X3_firstThrowInto
  by_cases c1 : (S_X3_stepsInto ξ σ η rows ro).1 = -1
  · have d1 : (S_X3_stepsInto ξ σ η' rows ro).1 = -1 := e1.symm.trans c1
    rw [if_pos c1, if_pos d1]
    exact ⟨rfl, e2⟩
  · have d1 : ¬ (S_X3_stepsInto ξ σ η' rows ro).1 = -1 := fun e => c1 (e1.trans e)
    rw [if_neg c1, if_neg d1]
    by_cases c2 : (S_X3_stepsInto ξ σ η rows ro).1 = 0
    · have d2 : (S_X3_stepsInto ξ σ η' rows ro).1 = 0 := e1.symm.trans c2
      rw [if_pos c2, if_pos d2]
      exact ⟨rfl, e2⟩
    · have d2 : ¬ (S_X3_stepsInto ξ σ η' rows ro).1 = 0 := fun e => c2 (e1.trans e)
      rw [if_neg c2, if_neg d2]
      have e3 : S_X3_stepsInto ξ σ η rows ro = S_X3_stepsInto ξ σ η' rows ro := Prod.ext e1 (by rw [p_stZ h c1, p_stZ h' (by rw [← e1]; exact c1)])
      rw [p_ftG e3]
      refine ⟨rfl, ?_⟩
      rw [p_ftG2, ← e3]
      exact e2
/-! how far, and by which throw -/
theorem p_stB {ξ : XS} {σ : JS} {η z : YS} {rows : List RD} {ro : RD} {s n : Nat} {h : Nat → Nat} (hs : s < 512) (hS : S_X0_state σ = nI s) (hE : WE σ z η) (B : BF z.1 z.2.1 s) (r : RI2 ro.2 n h) : (S_X3_stepsInto ξ σ η rows ro).1 = -1 ∨ ∃ d, d ≤ 9 ∧ (S_X3_stepsInto ξ σ η rows ro).1 = nI d := by
  have hE : S_X2_lookFrom η (S_X0_state σ) = z := hE
  have hbc := p_bc ⟨s, hs⟩
  simp only at hbc
  have hpc : ∀ s : Fin 512, pcN s.val ≤ 9 := by decide +kernel
  have hpcs := hpc ⟨s, hs⟩
  simp only at hpcs
  obtain ⟨w, hr⟩ := r
  unfold S_X3_stepsInto
  by_cases hc : S_X1_props ro.2 = S_J6_bitCount_0f7a4 (S_X0_state σ)
  · rw [if_pos hc]
    rw [hS, hbc] at hc
    rcases hr with ⟨h1, H, hR⟩ | h0
    · have hP := prN_le H
      rw [p_propsR w H h1, nI_eq (by omega) (by omega)] at hc
      have hT : ∀ k, k < n → ∃ d, d ≤ 9 ∧ S_X2_stepsTo z (S_X1_stateAt ro.2 (nI k)) = nI d := by
        intro k hk
        have h8 := w.2.1
        unfold S_X2_stepsTo S_X1_stateAt
        rw [p_cell (by omega) (by decide), (hR k hk).2, p_cell (stN_lt H) (by decide)]
        exact B.nineD hs (stN_lt H) (by rw [stN_pc H k, hc])
      have hG : ∀ mm k v, k + mm = n → (v = -1 ∨ ∃ d, d ≤ 9 ∧ v = nI d) → (G_X3_stepsInto_34 ξ σ η rows ro mm k v).1 = -1 ∨ ∃ d, d ≤ 9 ∧ (G_X3_stepsInto_34 ξ σ η rows ro mm k v).1 = nI d := by
        intro mm
        induction mm with
        | zero =>
          intro k v hk hv
          exact hv
        | succ mm ih =>
          intro k v hk hv
          simp only [G_X3_stepsInto_34, hE]
          have hT2 := hT k (by omega)
          split
          · exact ih _ _ (by omega) hv
          · split
            · exact ih _ _ (by omega) (Or.inr hT2)
            · split
              · exact ih _ _ (by omega) hv
              · exact ih _ _ (by omega) (Or.inr hT2)
      have : (S_X1_length ro.2).toNatClampNeg = n := w.len
      rw [this]
      exact hG n 0 (-1) (by omega) (Or.inl rfl)
    · unfold S_X1_props at hc
      rw [if_pos h0] at hc
      exact absurd hc.symm (nI_m1 (by omega))
  · rw [if_neg hc]
    exact Or.inl rfl
theorem p_ftB {ξ : XS} {σ : JS} {η z : YS} {rows : List RD} {ro : RD} {s n : Nat} {h : Nat → Nat} (hs : s < 512) (hS : S_X0_state σ = nI s) (hE : WE σ z η) (B : BF z.1 z.2.1 s) (r : RI2 ro.2 n h) : (S_X3_firstThrowInto ξ σ η rows ro).1 = -1 ∨ ∃ d, d ≤ 9 ∧ (S_X3_firstThrowInto ξ σ η rows ro).1 = nI d := by
  have hbc := p_bc ⟨s, hs⟩
  simp only at hbc
  have hpc : ∀ s : Fin 512, pcN s.val ≤ 9 := by decide +kernel
  have hpcs := hpc ⟨s, hs⟩
  simp only at hpcs
  unfold S_X3_firstThrowInto
  by_cases c1 : (S_X3_stepsInto ξ σ η rows ro).1 = -1
  · rw [if_pos c1]
    exact Or.inl rfl
  · rw [if_neg c1]
    by_cases c2 : (S_X3_stepsInto ξ σ η rows ro).1 = 0
    · rw [if_pos c2]
      exact Or.inl rfl
    · rw [if_neg c2]
      have e2 := p_stZ hE c1
      obtain ⟨w, hr⟩ := r
      have hsnd : snd_ n h ∧ ∀ i, i < n → RT n h ro.2.2.2.2.1 ro.2.2.2.2.2.1 i := by
        rcases hr with ⟨_, H, hR⟩ | h0
        · exact ⟨H, hR⟩
        · exfalso
          unfold S_X3_stepsInto at c1
          by_cases hc : S_X1_props ro.2 = S_J6_bitCount_0f7a4 (S_X0_state σ)
          · unfold S_X1_props at hc
            rw [if_pos h0, hS, hbc] at hc
            exact absurd hc.symm (nI_m1 (by omega))
          · rw [if_neg hc] at c1
            exact absurd rfl c1
      obtain ⟨H, hR⟩ := hsnd
      have h8 := w.2.1
      have hT : ∀ k, k < n → S_X2_stepsTo z (S_X1_stateAt ro.2 (nI k)) ≠ -1 → S_X2_firstThrowTo z (S_X1_stateAt ro.2 (nI k)) = -1 ∨ ∃ d, d ≤ 9 ∧ S_X2_firstThrowTo z (S_X1_stateAt ro.2 (nI k)) = nI d := by
        intro k hk hne
        unfold S_X2_stepsTo S_X1_stateAt at hne
        unfold S_X2_firstThrowTo S_X1_stateAt
        rw [p_cell (by omega) (by decide), (hR k hk).2, p_cell (stN_lt H) (by decide)] at hne ⊢
        rcases B.2 _ (stN_lt H) with e | ⟨d, _, _, _, e⟩
        · exact absurd e hne
        · exact e
      have hG : ∀ mm k v, k + mm = n → (v = -1 ∨ ∃ d, d ≤ 9 ∧ v = nI d) → (G_X3_firstThrowInto_22 ξ σ η rows ro mm k v).1 = -1 ∨ ∃ d, d ≤ 9 ∧ (G_X3_firstThrowInto_22 ξ σ η rows ro mm k v).1 = nI d := by
        intro mm
        induction mm with
        | zero =>
          intro k v hk hv
          exact hv
        | succ mm ih =>
          intro k v hk hv
          simp only [G_X3_firstThrowInto_22, e2]
          split
          · rename_i h5
            have hT2 := hT k (by omega) (by rw [h5]; exact c1)
            split
            · exact ih _ _ (by omega) hT2
            · split
              · exact ih _ _ (by omega) hv
              · exact ih _ _ (by omega) hT2
          · exact ih _ _ (by omega) hv
      have : (S_X1_length ro.2).toNatClampNeg = n := w.len
      rw [this]
      exact hG n 0 (-1) (by omega) (Or.inl rfl)
theorem p_ar56 {ξ : XS} {σ : JS} {η η' z : YS} {rows : List RD} {ro : RD} {p0 a : Int64} {k : Nat} {b b' : Int64} {kont kont' : Int64 → Int64 × YS} (hk : ∀ v, (kont v).1 = (kont' v).1 ∧ WE σ z (kont v).2) : ∀ mm k2 v, (G_X3_addRow_56 ξ σ η rows ro p0 a k b kont mm k2 v).1 = (G_X3_addRow_56 ξ σ η' rows ro p0 a k b' kont' mm k2 v).1 ∧ WE σ z (G_X3_addRow_56 ξ σ η rows ro p0 a k b kont mm k2 v).2 := by
  intro mm
  induction mm with
  | zero => exact fun k2 v => hk v
  | succ mm ih => exact fun k2 v => ih _ _
theorem p_ar44 {ξ : XS} {σ : JS} {η η' z : YS} {rows : List RD} {ro : RD} {p0 a : Int64} (hz : WE σ z z) (h : WE σ z η) (h' : WE σ z η') : ∀ mm k v, (G_X3_addRow_44 ξ σ η rows ro p0 a mm k v).1 = (G_X3_addRow_44 ξ σ η' rows ro p0 a mm k v).1 ∧ WE σ z (G_X3_addRow_44 ξ σ η rows ro p0 a mm k v).2 := by
  intro mm
  induction mm with
  | zero =>
    intro k v
    obtain ⟨e1, e2⟩ := p_stE (ξ := ξ) (rows := rows) (ro := ro) hz h h'
    obtain ⟨_, e2'⟩ := p_stE (ξ := ξ) (rows := rows) (ro := ro) hz h' h
    obtain ⟨e3, e4⟩ := p_ftE (ξ := ξ) (rows := rows) (ro := ro) hz e2 e2'
    refine ⟨?_, e4⟩
    show (((v * 31) + (((S_X3_stepsInto ξ σ η rows ro).1).toInt64)) * 31) + (((S_X3_firstThrowInto ξ σ ((S_X3_stepsInto ξ σ η rows ro).2) rows ro).1).toInt64) = (((v * 31) + (((S_X3_stepsInto ξ σ η' rows ro).1).toInt64)) * 31) + (((S_X3_firstThrowInto ξ σ ((S_X3_stepsInto ξ σ η' rows ro).2) rows ro).1).toInt64)
    rw [e1, e3]
  | succ mm ih =>
    intro k v
    exact p_ar56 (fun v => ih (k + 1) v) 5 0 v
theorem p_ar12 {ξ : XS} {σ : JS} {η η' z : YS} {rows : List RD} {ro : RD} {p0 : Int64} (hz : WE σ z z) (h : WE σ z η) (h' : WE σ z η') : ∀ mm k v, (G_X3_addRow_12 ξ σ η rows ro p0 mm k v).1 = (G_X3_addRow_12 ξ σ η' rows ro p0 mm k v).1 ∧ WE σ z (G_X3_addRow_12 ξ σ η rows ro p0 mm k v).2 := by
  intro mm
  induction mm with
  | zero =>
    intro k v
    exact p_ar44 hz h h' _ _ _
  | succ mm ih => exact fun k v => ih _ _
theorem p_arE {ξ : XS} {σ : JS} {η η' z : YS} {rows : List RD} {ro : RD} {p0 : Int64} (hz : WE σ z z) (h : WE σ z η) (h' : WE σ z η') : (S_X3_addRow ξ σ η rows ro p0).1 = (S_X3_addRow ξ σ η' rows ro p0).1 ∧ WE σ z (S_X3_addRow ξ σ η rows ro p0).2 := p_ar12 hz h h' _ _ _
theorem p_dg112 {ξ : XS} {σ : JS} {η η' z : YS} {rows : List RD} {a a' c c' e e' : Int64} {g0 g1 g2 g0' g1' g2' : Nat → Int32} {g3 g3' : Int32} (h : WE σ z (g0, g1, g2, g3)) : ∀ mm k v, (G_X3_digest_112 ξ σ η rows a c g0 g1 g2 g3 e mm k v).1 = (G_X3_digest_112 ξ σ η' rows a' c' g0' g1' g2' g3' e' mm k v).1 ∧ WE σ z (G_X3_digest_112 ξ σ η rows a c g0 g1 g2 g3 e mm k v).2 := by
  intro mm
  induction mm with
  | zero => exact fun k v => ⟨rfl, h⟩
  | succ mm ih => exact fun k v => ih _ _
theorem p_dg74 {ξ : XS} {σ : JS} {η η' z : YS} {rows : List RD} {a a' c c' e e' : Int64} {g0 g1 g2 g0' g1' g2' : Nat → Int32} {g3 g3' : Int32} {k : Nat} {kont kont' : Int64 → Int64 × YS} (hk : ∀ v, (kont v).1 = (kont' v).1 ∧ WE σ z (kont v).2) : ∀ mm k2 v, (G_X3_digest_74 ξ σ η rows a c g0 g1 g2 g3 k e kont mm k2 v).1 = (G_X3_digest_74 ξ σ η' rows a' c' g0' g1' g2' g3' k e' kont' mm k2 v).1 ∧ WE σ z (G_X3_digest_74 ξ σ η rows a c g0 g1 g2 g3 k e kont mm k2 v).2 := by
  intro mm
  induction mm with
  | zero => exact fun k2 v => hk v
  | succ mm ih => exact fun k2 v => ih _ _
theorem p_dg60 {ξ : XS} {σ : JS} {η η' z : YS} {rows : List RD} {a a' c c' : Int64} {g0 g1 g2 g0' g1' g2' : Nat → Int32} {g3 g3' : Int32} (h : WE σ z (g0, g1, g2, g3)) : ∀ mm k v, (G_X3_digest_60 ξ σ η rows a c g0 g1 g2 g3 mm k v).1 = (G_X3_digest_60 ξ σ η' rows a' c' g0' g1' g2' g3' mm k v).1 ∧ WE σ z (G_X3_digest_60 ξ σ η rows a c g0 g1 g2 g3 mm k v).2 := by
  intro mm
  induction mm with
  | zero => exact fun k v => p_dg112 h _ _ _
  | succ mm ih => exact fun k v => p_dg74 (fun v => ih (k + 1) v) 4 0 v
theorem p_dg33 {ξ : XS} {σ : JS} {η η' z : YS} {rows : List RD} {a a' : Int64} (hz : WE σ z z) : ∀ mm k v (g0 g1 g2 g0' g1' g2' : Nat → Int32) (g3 g3' : Int32), WE σ z (g0, g1, g2, g3) → WE σ z (g0', g1', g2', g3') → (G_X3_digest_33 ξ σ η rows a mm k v g0 g1 g2 g3).1 = (G_X3_digest_33 ξ σ η' rows a' mm k v g0' g1' g2' g3').1 ∧ WE σ z (G_X3_digest_33 ξ σ η rows a mm k v g0 g1 g2 g3).2 := by
  intro mm
  induction mm with
  | zero => exact fun k v g0 g1 g2 g0' g1' g2' g3 g3' h h' => p_dg60 h _ _ _
  | succ mm ih =>
    intro k v g0 g1 g2 g0' g1' g2' g3 g3' h h'
    obtain ⟨e1, e2⟩ := p_arE (ξ := ξ) (rows := rows) (ro := rw_ rows k) (p0 := v) hz h h'
    obtain ⟨_, e2'⟩ := p_arE (ξ := ξ) (rows := rows) (ro := rw_ rows k) (p0 := v) hz h' h
    unfold G_X3_digest_33
    rw [← e1]
    exact ih _ _ _ _ _ _ _ _ _ _ e2 e2'
theorem p_srG {ξ : XS} {σ : JS} {η η' : YS} {rows : List RD} : ∀ mm k v, G_X3_soundRows_4 ξ σ η rows mm k v = G_X3_soundRows_4 ξ σ η' rows mm k v := by
  intro mm
  induction mm with
  | zero => exact fun k v => rfl
  | succ mm ih =>
    intro k v
    simp only [G_X3_soundRows_4, ih]
theorem p_hm {ξ : XS} {σ : JS} {η η' : YS} {rows : List RD} {c : Int32} : S_X3_howMany ξ σ η rows c = S_X3_howMany ξ σ η' rows c := by
  unfold S_X3_howMany S_X3_soundRows
  rw [p_srG (η' := η')]
theorem p_dg6 {ξ : XS} {σ : JS} {η η' z : YS} {rows : List RD} (hz : WE σ z z) (h : WE σ z η) (h' : WE σ z η') : ∀ mm k v, (G_X3_digest_6 ξ σ η rows mm k v).1 = (G_X3_digest_6 ξ σ η' rows mm k v).1 ∧ WE σ z (G_X3_digest_6 ξ σ η rows mm k v).2 := by
  intro mm
  induction mm with
  | zero => exact fun k v => p_dg33 hz _ _ _ _ _ _ _ _ _ _ _ h h'
  | succ mm ih =>
    intro k v
    unfold G_X3_digest_6
    rw [p_hm (η := η) (η' := η')]
    exact ih _ _
/-- the checksum stays, however far one has looked -/
theorem p_digest {ξ : XS} {σ : JS} {η η' z : YS} {rows : List RD} (hz : WE σ z z) (h : WE σ z η) (h' : WE σ z η') : (S_X3_digest ξ σ η rows).1 = (S_X3_digest ξ σ η' rows).1 ∧ WE σ z (S_X3_digest ξ σ η rows).2 := p_dg6 hz h h' _ _ _
theorem p_srf : S_X3_soundRowsFrom_0 0 (3 * 2) = 19 := by decide +kernel
theorem p_count {ξ : XS} {σ : JS} {η : YS} {rows : List RD} : S_X3_count ξ σ η rows = 19 := p_srf
