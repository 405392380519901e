/-! pure facts of what the methods answer -/
/-! sums, masks and sound rows, as numbers -/
def sm (f : Nat → Nat) : Nat → Nat
  | 0 => 0
  | k + 1 => sm f k + f k
theorem sm_congr {f g : Nat → Nat} : ∀ {n : Nat}, (∀ k, k < n → f k = g k) → sm f n = sm g n
  | 0, _ => rfl
  | n + 1, h => by
    show sm f n + f n = sm g n + g n
    rw [sm_congr (fun k hk => h k (by omega)), h n (by omega)]
theorem sm_add (f g : Nat → Nat) : ∀ n : Nat, sm (fun k => f k + g k) n = sm f n + sm g n
  | 0 => rfl
  | n + 1 => by
    show sm (fun k => f k + g k) n + (f n + g n) = (sm f n + f n) + (sm g n + g n)
    rw [sm_add f g n]
    omega
theorem sm_mul (c : Nat) (f : Nat → Nat) : ∀ n : Nat, sm (fun k => c * f k) n = c * sm f n
  | 0 => rfl
  | n + 1 => by
    show sm (fun k => c * f k) n + c * f n = c * (sm f n + f n)
    rw [sm_mul c f n, Nat.mul_add]
theorem sm_const (c : Nat) : ∀ n : Nat, sm (fun _ => c) n = n * c
  | 0 => (Nat.zero_mul c).symm
  | n + 1 => by
    show sm (fun _ => c) n + c = (n + 1) * c
    rw [sm_const c n, Nat.succ_mul]
theorem sm_zero : ∀ n : Nat, sm (fun _ => 0) n = 0
  | 0 => rfl
  | n + 1 => sm_zero n
theorem sm_le {f g : Nat → Nat} : ∀ {n : Nat}, (∀ k, k < n → f k ≤ g k) → sm f n ≤ sm g n
  | 0, _ => Nat.le_refl _
  | n + 1, h => Nat.add_le_add (sm_le (fun k hk => h k (by omega))) (h n (by omega))
theorem sm_swap (A : Nat → Nat → Nat) (m : Nat) : ∀ n : Nat, sm (fun k => sm (fun a => A k a) m) n = sm (fun a => sm (fun k => A k a) n) m
  | 0 => (sm_zero m).symm
  | n + 1 => by
    show sm (fun k => sm (fun a => A k a) m) n + sm (fun a => A n a) m = sm (fun a => sm (fun k => A k a) n + A n a) m
    rw [sm_swap A m n, sm_add (fun a => sm (fun k => A k a) n) (fun a => A n a) m]
theorem sm_front (f : Nat → Nat) : ∀ n : Nat, sm (fun k => f (k + 1)) n + f 0 = sm f n + f n
  | 0 => rfl
  | n + 1 => by
    show (sm (fun k => f (k + 1)) n + f (n + 1)) + f 0 = (sm f n + f n) + f (n + 1)
    have := sm_front f n
    omega
theorem sm_shift1 (f : Nat → Nat) {n : Nat} (hn : 0 < n) : sm (fun k => f ((k + 1) % n)) n = sm f n := by
  obtain ⟨m, rfl⟩ : ∃ m, n = m + 1 := ⟨n - 1, by omega⟩
  show sm (fun k => f ((k + 1) % (m + 1))) m + f ((m + 1) % (m + 1)) = sm f m + f m
  rw [Nat.mod_self, ← sm_front f m]
  congr 1
  exact sm_congr fun k hk => by rw [Nat.mod_eq_of_lt (show k + 1 < m + 1 by omega)]
theorem sm_shift {n : Nat} (hn : 0 < n) : ∀ (r : Nat) (f : Nat → Nat), sm (fun k => f ((k + r) % n)) n = sm f n
  | 0, f => sm_congr fun k hk => by rw [Nat.add_zero, Nat.mod_eq_of_lt hk]
  | r + 1, f => by
    rw [← sm_shift hn r f, ← sm_shift1 (fun x => f ((x + r) % n)) hn]
    refine sm_congr fun k hk => ?_
    show f ((k + (r + 1)) % n) = f (((k + 1) % n + r) % n)
    rw [Nat.mod_add_mod]
    congr 2
    omega
/-- the sum over the sites that a mask names -/
def bsum (f : Nat → Nat) (s : Nat) : Nat := 0 + (if s.testBit 0 = true then f 0 else 0) + (if s.testBit 1 = true then f 1 else 0) + (if s.testBit 2 = true then f 2 else 0) + (if s.testBit 3 = true then f 3 else 0) + (if s.testBit 4 = true then f 4 else 0) + (if s.testBit 5 = true then f 5 else 0) + (if s.testBit 6 = true then f 6 else 0) + (if s.testBit 7 = true then f 7 else 0)
theorem p_8 {c : Nat} (h : c < 8) : c = 0 ∨ c = 1 ∨ c = 2 ∨ c = 3 ∨ c = 4 ∨ c = 5 ∨ c = 6 ∨ c = 7 := by omega
theorem bsum_set {f : Nat → Nat} {s c : Nat} (hc : c < 8) (hb : s.testBit c = false) : bsum f (s ||| 1 <<< c) = bsum f s + f c := by
  unfold bsum
  simp only [p_tb]
  rcases p_8 hc with rfl | rfl | rfl | rfl | rfl | rfl | rfl | rfl <;> simp [hb] <;> omega
theorem bsum_full {f : Nat → Nat} {n : Nat} (hn : n ≤ 8) : bsum f (2 ^ n - 1) = sm f n := by
  have : n = 0 ∨ n = 1 ∨ n = 2 ∨ n = 3 ∨ n = 4 ∨ n = 5 ∨ n = 6 ∨ n = 7 ∨ n = 8 := by omega
  rcases this with rfl | rfl | rfl | rfl | rfl | rfl | rfl | rfl | rfl <;> rfl
theorem bsum_add (f g : Nat → Nat) (s : Nat) : bsum (fun k => f k + g k) s = bsum f s + bsum g s := by
  unfold bsum
  have e : ∀ (b : Bool) (x y : Nat), (if b = true then x + y else 0) = (if b = true then x else 0) + (if b = true then y else 0) := by
    intro b x y
    cases b <;> rfl
  rw [e, e, e, e, e, e, e, e]
  omega
theorem bsum_sub (f : Nat → Nat) {s n : Nat} (hn : n ≤ 8) (hs : s < 2 ^ n) : bsum f s ≤ sm f n := by
  rw [← bsum_full hn]
  have key : ∀ c, s.testBit c = true → (2 ^ n - 1).testBit c = true := by
    intro c hc
    rw [Nat.testBit_two_pow_sub_one]
    refine decide_eq_true ?_
    rcases Nat.lt_or_ge c n with h | h
    · exact h
    · rw [Nat.testBit_lt_two_pow (Nat.lt_of_lt_of_le hs (Nat.pow_le_pow_right (by decide) h))] at hc
      exact absurd hc (by decide)
  have e : ∀ c x, (if s.testBit c = true then x else 0) ≤ (if (2 ^ n - 1).testBit c = true then x else 0) := by
    intro c x
    by_cases h : s.testBit c = true
    · rw [if_pos h, if_pos (key c h)]
      exact Nat.le_refl _
    · rw [if_neg h]
      exact Nat.zero_le _
  unfold bsum
  have h0 := e 0 (f 0)
  have h1 := e 1 (f 1)
  have h2 := e 2 (f 2)
  have h3 := e 3 (f 3)
  have h4 := e 4 (f 4)
  have h5 := e 5 (f 5)
  have h6 := e 6 (f 6)
  have h7 := e 7 (f 7)
  omega
theorem p_orsame {s c : Nat} (h : s.testBit c = true) : s ||| 1 <<< c = s := Nat.eq_of_testBit_eq fun x => by
  rw [p_tb]
  by_cases e : x = c
  · rw [e, h]
    rfl
  · rw [decide_eq_false e, Bool.or_false]
theorem p_full8 : ∀ n : Fin 9, ∀ s : Fin 256, s.val < 2 ^ n.val → pcN s.val = n.val → s.val = 2 ^ n.val - 1 := by decide +kernel
/-- where the first k throws land, as a mask -/
def lnd (n : Nat) (h : Nat → Nat) : Nat → Nat
  | 0 => 0
  | k + 1 => lnd n h k ||| 1 <<< ((k + h k) % n)
theorem lnd_lt {n : Nat} {h : Nat → Nat} (h1 : 0 < n) (h8 : n ≤ 8) : ∀ k, lnd n h k < 2 ^ n
  | 0 => Nat.two_pow_pos n
  | k + 1 => Nat.or_lt_two_pow (lnd_lt h1 h8 k) (by rw [Nat.one_shiftLeft]; exact Nat.pow_lt_pow_right (by decide) (Nat.mod_lt _ h1))
theorem lnd_512 {n : Nat} {h : Nat → Nat} (h1 : 0 < n) (h8 : n ≤ 8) (k : Nat) : lnd n h k < 256 := Nat.lt_of_lt_of_le (lnd_lt h1 h8 k) (Nat.pow_le_pow_right (n := 2) (by decide) h8)
theorem lnd_step {n : Nat} {h : Nat → Nat} (h1 : 0 < n) (h8 : n ≤ 8) (k : Nat) : ((lnd n h k).testBit ((k + h k) % n) = true ∧ pcN (lnd n h (k + 1)) = pcN (lnd n h k)) ∨ ((lnd n h k).testBit ((k + h k) % n) = false ∧ pcN (lnd n h (k + 1)) = pcN (lnd n h k) + 1) := by
  have hm := Nat.mod_lt (k + h k) h1
  have h5 := lnd_512 (h := h) h1 h8 k
  cases hb : (lnd n h k).testBit ((k + h k) % n) with
  | true => exact Or.inl ⟨rfl, by show pcN (lnd n h k ||| 1 <<< ((k + h k) % n)) = _; rw [p_orsame hb]⟩
  | false =>
    refine Or.inr ⟨rfl, ?_⟩
    have := (p_bit ⟨lnd n h k, by omega⟩ ⟨(k + h k) % n, by omega⟩).2 hb
    simp only at this
    rw [if_neg (by omega)] at this
    exact this
theorem lnd_le {n : Nat} {h : Nat → Nat} (h1 : 0 < n) (h8 : n ≤ 8) : ∀ k, pcN (lnd n h k) ≤ k
  | 0 => by
    show pcN 0 ≤ 0
    decide
  | k + 1 => by
    have := lnd_le (h := h) h1 h8 k
    rcases lnd_step (h := h) h1 h8 k with e | e <;> omega
theorem lnd_all {n : Nat} {h : Nat → Nat} (h1 : 0 < n) (h8 : n ≤ 8) : ∀ k, pcN (lnd n h k) = k → (∀ x, (lnd n h k).testBit x = true ↔ ∃ i, i < k ∧ (i + h i) % n = x) ∧ (∀ i q, i < k → q < k → (i + h i) % n = (q + h q) % n → i = q) ∧ ∀ f : Nat → Nat, bsum f (lnd n h k) = sm (fun i => f ((i + h i) % n)) k
  | 0, _ => ⟨fun x => by
      show (0 : Nat).testBit x = true ↔ _
      rw [Nat.zero_testBit]
      exact ⟨fun e => absurd e (by decide), fun ⟨i, hi, _⟩ => absurd hi (Nat.not_lt_zero _)⟩, fun i q hi => absurd hi (Nat.not_lt_zero _), fun f => by show bsum f 0 = 0; simp [bsum]⟩
  | k + 1, hp => by
    have hle := lnd_le (h := h) h1 h8 k
    have hm := Nat.mod_lt (k + h k) h1
    rcases lnd_step (h := h) h1 h8 k with e | ⟨e1, e2⟩
    · omega
    · obtain ⟨a1, a2, a3⟩ := lnd_all (h := h) h1 h8 k (by omega)
      refine ⟨fun x => ?_, fun i q hi hq e => ?_, fun f => ?_⟩
      · show (lnd n h k ||| 1 <<< ((k + h k) % n)).testBit x = true ↔ _
        rw [p_tb, Bool.or_eq_true, decide_eq_true_iff, a1]
        constructor
        · rintro (⟨i, hi, e⟩ | rfl)
          · exact ⟨i, by omega, e⟩
          · exact ⟨k, by omega, rfl⟩
        · rintro ⟨i, hi, e⟩
          rcases Nat.lt_or_ge i k with hlt | hge
          · exact Or.inl ⟨i, hlt, e⟩
          · obtain rfl : i = k := by omega
            exact Or.inr e.symm
      · have key : ∀ i, i < k → (i + h i) % n = (k + h k) % n → False := by
          intro i hi e
          have := (a1 ((k + h k) % n)).mpr ⟨i, hi, e⟩
          rw [this] at e1
          exact absurd e1 (by decide)
        rcases Nat.lt_or_ge i k with hi2 | hi2
        · rcases Nat.lt_or_ge q k with hq2 | hq2
          · exact a2 i q hi2 hq2 e
          · obtain rfl : q = k := by omega
            exact (key i hi2 e).elim
        · obtain rfl : i = k := by omega
          rcases Nat.lt_or_ge q i with hq2 | hq2
          · exact (key q hq2 e.symm).elim
          · omega
      · show bsum f (lnd n h k ||| 1 <<< ((k + h k) % n)) = sm (fun i => f ((i + h i) % n)) k + f ((k + h k) % n)
        rw [bsum_set (by omega) e1, a3]
/-- a sound row of n throws -/
def snd_ (n : Nat) (h : Nat → Nat) : Prop := 0 < n ∧ n ≤ 8 ∧ (∀ i, i < n → h i ≤ 9) ∧ pcN (lnd n h n) = n
theorem snd_inj {n : Nat} {h : Nat → Nat} (H : snd_ n h) {i q : Nat} (hi : i < n) (hq : q < n) (e : (i + h i) % n = (q + h q) % n) : i = q := (lnd_all H.1 H.2.1 n H.2.2.2).2.1 i q hi hq e
theorem snd_full {n : Nat} {h : Nat → Nat} (H : snd_ n h) : lnd n h n = 2 ^ n - 1 := p_full8 ⟨n, by have := H.2.1; omega⟩ ⟨lnd n h n, lnd_512 H.1 H.2.1 n⟩ (lnd_lt H.1 H.2.1 n) H.2.2.2
theorem snd_surj {n : Nat} {h : Nat → Nat} (H : snd_ n h) {x : Nat} (hx : x < n) : ∃ i, i < n ∧ (i + h i) % n = x := by
  refine ((lnd_all H.1 H.2.1 n H.2.2.2).1 x).mp ?_
  rw [snd_full H, Nat.testBit_two_pow_sub_one]
  exact decide_eq_true hx
theorem snd_sum {n : Nat} {h : Nat → Nat} (H : snd_ n h) (f : Nat → Nat) : sm (fun i => f ((i + h i) % n)) n = sm f n := by
  rw [← (lnd_all H.1 H.2.1 n H.2.2.2).2.2 f, snd_full H, bsum_full H.2.1]
/-- the props of a sound row -/
def prN (n : Nat) (h : Nat → Nat) : Nat := sm (fun i => (i + h i) / n) n
theorem snd_props {n : Nat} {h : Nat → Nat} (H : snd_ n h) : sm h n = n * prN n h := by
  have e1 : sm (fun i => i + h i) n = sm (fun i => n * ((i + h i) / n) + (i + h i) % n) n := sm_congr fun k _ => (Nat.div_add_mod (k + h k) n).symm
  rw [sm_add (fun i => i) h, sm_add (fun i => n * ((i + h i) / n)) (fun i => (i + h i) % n), sm_mul n (fun i => (i + h i) / n), snd_sum H (fun x => x)] at e1
  unfold prN
  omega
theorem p_md : ∀ n : Fin 9, ∀ q : Fin 80, nI n.val * nI q.val = nI (n.val * q.val) ∧ (n.val ≠ 0 → nI (n.val * q.val) / nI n.val = nI q.val) := by decide +kernel
/-- a row as its cells say it: n throws, their heights, where they land -/
def RW (ρ : RS) (n : Nat) (h : Nat → Nat) : Prop := 0 < n ∧ n ≤ 8 ∧ ρ.2.2.2.2.2.1 = nI n ∧ (∀ i, i < n → h i ≤ 9 ∧ ρ.1 i = nI (h i)) ∧ (∀ i, i < n → ρ.2.2.1 i = nI ((i + h i) % n))
theorem RW.len {ρ : RS} {n : Nat} {h : Nat → Nat} (w : RW ρ n h) : ρ.2.2.2.2.2.1.toNatClampNeg = n := by
  rw [w.2.2.1, nI_clamp (by have := w.2.1; omega)]
theorem RW.h {ρ : RS} {n i : Nat} {h : Nat → Nat} (w : RW ρ n h) (hi : i < n) : S_X3_cell 8 ρ.1 (nI i) = nI (h i) := by
  rw [p_cell (by have := w.2.1; omega) (by decide), (w.2.2.2.1 i hi).2]
theorem RW.g {ρ : RS} {n i : Nat} {h : Nat → Nat} (w : RW ρ n h) (hi : i < n) : S_X3_cell 8 ρ.2.2.1 (nI i) = nI ((i + h i) % n) := by
  rw [p_cell (by have := w.2.1; omega) (by decide), w.2.2.2.2 i hi]
theorem p_bset {s c : Nat} (hs : s < 256) (hc : c < 8) (hb : s.testBit c = false) : pcN (s ||| 1 <<< c) = pcN s + 1 := by
  have := (p_bit ⟨s, by omega⟩ ⟨c, by omega⟩).2 hb
  simp only at this
  rw [if_neg (by omega)] at this
  exact this
theorem p_or2n {n V x : Nat} (hV : V < 2 ^ n) (hx : x < n) : V ||| 1 <<< x < 2 ^ n := Nat.or_lt_two_pow hV (by rw [Nat.one_shiftLeft]; exact Nat.pow_lt_pow_right (by decide) hx)
/-- the sites that an orbit has gone through, from a start to a site -/
def OV (n : Nat) (h : Nat → Nat) (start k V site : Nat) : Prop := V < 2 ^ n ∧ pcN V = k ∧ site < n ∧ V.testBit site = false ∧ (∀ v, V.testBit v = true → v < n ∧ (v = start ∨ ∃ u, V.testBit u = true ∧ (u + h u) % n = v)) ∧ (site = start ∨ ∃ u, V.testBit u = true ∧ (u + h u) % n = site)
theorem OV.first {n start : Nat} {h : Nat → Nat} (hs : start < n) : OV n h start 0 0 start := ⟨Nat.two_pow_pos n, by decide, hs, Nat.zero_testBit _, fun v hv => absurd hv (by rw [Nat.zero_testBit]; decide), Or.inl rfl⟩
theorem OV.lt {n start k V site : Nat} {h : Nat → Nat} (H : snd_ n h) (o : OV n h start k V site) : k < n := by
  obtain ⟨o1, o2, o3, o4, _⟩ := o
  have h8 := H.2.1
  have hV : V < 256 := Nat.lt_of_lt_of_le o1 (Nat.pow_le_pow_right (n := 2) (by decide) h8)
  have hle : ∀ n : Fin 9, ∀ s : Fin 256, s.val < 2 ^ n.val → pcN s.val ≤ n.val := by decide +kernel
  have h1 := hle ⟨n, by omega⟩ ⟨V, hV⟩ o1
  simp only at h1
  rcases Nat.lt_or_ge k n with hlt | hge
  · exact hlt
  · exfalso
    have := p_full8 ⟨n, by omega⟩ ⟨V, hV⟩ o1 (by simp only; omega)
    simp only at this
    rw [this, Nat.testBit_two_pow_sub_one] at o4
    exact absurd o4 (by rw [decide_eq_true o3]; decide)
theorem OV.next {n start k V site : Nat} {h : Nat → Nat} (H : snd_ n h) (o : OV n h start k V site) (hn : (site + h site) % n ≠ start) : OV n h start (k + 1) (V ||| 1 <<< site) ((site + h site) % n) := by
  obtain ⟨o1, o2, o3, o4, o5, o6⟩ := o
  have h8 := H.2.1
  have hV : V < 256 := Nat.lt_of_lt_of_le o1 (Nat.pow_le_pow_right (n := 2) (by decide) h8)
  refine ⟨p_or2n o1 o3, by rw [p_bset hV (by omega) o4, o2], Nat.mod_lt _ H.1, ?_, fun v hv => ?_, Or.inr ⟨site, by rw [p_tb]; simp, rfl⟩⟩
  · rw [p_tb]
    have a1 : V.testBit ((site + h site) % n) = false := by
      cases e : V.testBit ((site + h site) % n) with
      | false => rfl
      | true =>
        exfalso
        obtain ⟨_, e2⟩ := o5 _ e
        rcases e2 with e2 | ⟨u, hu, e2⟩
        · exact hn e2
        · have := snd_inj H (o5 u hu).1 o3 e2
          rw [this] at hu
          rw [hu] at o4
          exact absurd o4 (by decide)
    have a2 : (site + h site) % n ≠ site := by
      intro e
      rcases o6 with o6 | ⟨u, hu, e2⟩
      · exact hn (e.trans o6)
      · have := snd_inj H (o5 u hu).1 o3 (e2.trans e.symm)
        rw [this] at hu
        rw [hu] at o4
        exact absurd o4 (by decide)
    rw [a1, decide_eq_false a2]
    rfl
  · rw [p_tb, Bool.or_eq_true, decide_eq_true_iff] at hv
    rcases hv with hv | rfl
    · obtain ⟨b1, b2⟩ := o5 v hv
      refine ⟨b1, ?_⟩
      rcases b2 with b2 | ⟨u, hu, b2⟩
      · exact Or.inl b2
      · exact Or.inr ⟨u, by rw [p_tb, hu]; rfl, b2⟩
    · refine ⟨o3, ?_⟩
      rcases o6 with o6 | ⟨u, hu, e2⟩
      · exact Or.inl o6
      · exact Or.inr ⟨u, by rw [p_tb, hu]; rfl, e2⟩
theorem p_turnG {ρ : RS} {n start : Nat} {h : Nat → Nat} (w : RW ρ n h) (H : snd_ n h) (hs : start < n) : ∀ mm k V site, k + mm = n → OV n h start k V site → bsum h V + start = n * bsum (fun i => (i + h i) / n) V + site → ∃ V2, V2 < 2 ^ n ∧ G_X1_turnFrom_7 ρ (nI start) mm k (nI (bsum h V)) (nI site) = nI (bsum h V2) ∧ bsum h V2 = n * bsum (fun i => (i + h i) / n) V2 := by
  intro mm
  induction mm with
  | zero =>
    intro k V site hk o _
    have := o.lt H
    omega
  | succ mm ih =>
    intro k V site hk o e
    have h8 := w.2.1
    have hst := o.2.2.1
    have e2 : bsum h (V ||| 1 <<< site) = bsum h V + h site := bsum_set (by omega) o.2.2.2.1
    have e3 : bsum (fun i => (i + h i) / n) (V ||| 1 <<< site) = bsum (fun i => (i + h i) / n) V + (site + h site) / n := bsum_set (by omega) o.2.2.2.1
    have e4 := Nat.div_add_mod (site + h site) n
    show ∃ V2, V2 < 2 ^ n ∧ (if (S_X3_cell 8 ρ.2.2.1 (nI site)) = nI start then nI (bsum h V) + (S_X3_cell 8 ρ.1 (nI site)) else G_X1_turnFrom_7 ρ (nI start) mm (k + 1) (nI (bsum h V) + (S_X3_cell 8 ρ.1 (nI site))) (S_X3_cell 8 ρ.2.2.1 (nI site))) = nI (bsum h V2) ∧ _
    rw [w.h hst, w.g hst, nI_add, ← e2]
    have hm := Nat.mod_lt (site + h site) w.1
    by_cases hc : (site + h site) % n = start
    · rw [if_pos (by rw [hc])]
      refine ⟨V ||| 1 <<< site, p_or2n o.1 hst, rfl, ?_⟩
      rw [e2, e3, Nat.mul_add]
      omega
    · rw [if_neg (by rw [nI_eq (by omega) (by omega)]; exact hc)]
      refine ih (k + 1) _ _ (by omega) (o.next H hc) ?_
      rw [e2, e3, Nat.mul_add]
      omega
/-- a turn: so many lengths, no more than the props -/
theorem p_turn {ρ : RS} {n start : Nat} {h : Nat → Nat} (w : RW ρ n h) (H : snd_ n h) (hs : start < n) : ∃ q, q ≤ prN n h ∧ n * q ≤ sm h n ∧ S_X1_turnFrom ρ (nI start) = nI (n * q) := by
  obtain ⟨V2, h1, h2, h3⟩ := p_turnG w H hs n 0 0 start (by omega) (OV.first hs) (by simp [bsum])
  refine ⟨bsum (fun i => (i + h i) / n) V2, bsum_sub _ H.2.1 h1, ?_, ?_⟩
  · rw [← h3]
    exact bsum_sub _ H.2.1 h1
  · unfold S_X1_turnFrom
    rw [w.len, ← h3, ← h2]
    simp [bsum, nI_0]
theorem p_firstG {ρ : RS} {n start j : Nat} {h : Nat → Nat} (w : RW ρ n h) (H : snd_ n h) (hs : start < n) (hj : j < n) (ej : (j + h j) % n = start) : ∀ mm k V site, k + mm = n → OV n h start k V site → start ≤ site → G_X1_isFirstOfOrbit_4 ρ (nI start) mm k (nI site) ≠ 0 → start ≤ j := by
  intro mm
  induction mm with
  | zero =>
    intro k V site hk o
    have := o.lt H
    omega
  | succ mm ih =>
    intro k V site hk o hle hne
    have h8 := w.2.1
    have hst := o.2.2.1
    have hne : (if nI start ≤ (S_X3_cell 8 ρ.2.2.1 (nI site)) then G_X1_isFirstOfOrbit_4 ρ (nI start) mm (k + 1) (S_X3_cell 8 ρ.2.2.1 (nI site)) else 0) ≠ 0 := hne
    rw [w.g hst] at hne
    have hm := Nat.mod_lt (site + h site) w.1
    by_cases hc : (site + h site) % n = start
    · have := snd_inj H hj hst (ej.trans hc.symm)
      omega
    · by_cases hd : start ≤ (site + h site) % n
      · rw [if_pos ((nI_leI (by omega) (by omega)).mpr hd)] at hne
        exact ih (k + 1) _ _ (by omega) (o.next H hc) hd hne
      · rw [if_neg (fun e => hd ((nI_leI (by omega) (by omega)).mp e))] at hne
        exact absurd rfl hne
theorem p_sumG {ρ : RS} {n : Nat} {h : Nat → Nat} (w : RW ρ n h) : ∀ mm k, k + mm = n → G_X1_sumOfThrows_4 ρ mm k (nI (sm h k)) = nI (sm h n) := by
  intro mm
  induction mm with
  | zero =>
    intro k hk
    obtain rfl : k = n := by omega
    rfl
  | succ mm ih =>
    intro k hk
    show G_X1_sumOfThrows_4 ρ mm (k + 1) (nI (sm h k) + (S_X3_cell 8 ρ.1 (nI k))) = _
    rw [w.h (by omega), nI_add]
    exact ih (k + 1) (by omega)
theorem p_sumT {ρ : RS} {n : Nat} {h : Nat → Nat} (w : RW ρ n h) : S_X1_sumOfThrows ρ = nI (sm h n) := by
  unfold S_X1_sumOfThrows
  rw [w.len]
  exact p_sumG w n 0 (by omega)
theorem sm_9 {n : Nat} {h : Nat → Nat} (hh : ∀ i, i < n → h i ≤ 9) : sm h n ≤ 9 * n := by
  have := sm_le (f := h) (g := fun _ => 9) hh
  rw [sm_const] at this
  omega
theorem prN_le {n : Nat} {h : Nat → Nat} (H : snd_ n h) : prN n h ≤ 9 := by
  have h1 := sm_9 H.2.2.1
  rw [snd_props H, Nat.mul_comm 9 n] at h1
  exact Nat.le_of_mul_le_mul_left h1 H.1
theorem p_propsR {ρ : RS} {n : Nat} {h : Nat → Nat} (w : RW ρ n h) (H : snd_ n h) (hs : ρ.2.2.2.2.2.2 = 1) : S_X1_props ρ = nI (prN n h) := by
  have h8 := w.2.1
  have h0 := w.1
  unfold S_X1_props
  rw [hs, if_neg (by decide), w.2.2.1, if_neg (nI_nle h0 (by omega)), p_sumT w, snd_props H]
  have := prN_le H
  exact (p_md ⟨n, by omega⟩ ⟨prN n h, by omega⟩).2 (show n ≠ 0 by omega)
/-- is a site the first of an orbit that is thrown? -/
def phi (ρ : RS) (h : Nat → Nat) (c : Nat) : Nat := if 0 < h c ∧ S_X1_isFirstOfOrbit ρ (nI c) ≠ 0 then 1 else 0
theorem p_orbG {ρ : RS} {n : Nat} {h : Nat → Nat} (w : RW ρ n h) : ∀ mm k, k + mm = n → G_X1_orbits_4 ρ mm k (nI (sm (phi ρ h) k)) = nI (sm (phi ρ h) n) := by
  intro mm
  induction mm with
  | zero =>
    intro k hk
    obtain rfl : k = n := by omega
    rfl
  | succ mm ih =>
    intro k hk
    have h9 := (w.2.2.2.1 k (by omega)).1
    have ih2 := ih (k + 1) (by omega)
    have es : sm (phi ρ h) (k + 1) = sm (phi ρ h) k + phi ρ h k := rfl
    rw [es] at ih2
    show (if (S_X3_cell 8 ρ.1 (nI k)) ≤ 0 then G_X1_orbits_4 ρ mm (k + 1) (nI (sm (phi ρ h) k)) else (if (S_X1_isFirstOfOrbit ρ (nI k)) = 0 then G_X1_orbits_4 ρ mm (k + 1) (nI (sm (phi ρ h) k)) else G_X1_orbits_4 ρ mm (k + 1) (nI (sm (phi ρ h) k) + 1))) = _
    rw [w.h (by omega)]
    by_cases hz : 0 < h k
    · rw [if_neg (nI_nle hz (by omega))]
      by_cases hf : S_X1_isFirstOfOrbit ρ (nI k) = 0
      · rw [if_pos hf]
        have : phi ρ h k = 0 := by unfold phi; rw [if_neg (fun e => e.2 hf)]
        rw [this] at ih2
        exact ih2
      · rw [if_neg hf]
        have : phi ρ h k = 1 := by unfold phi; rw [if_pos ⟨hz, hf⟩]
        rw [this] at ih2
        rw [nI_1]
        exact ih2
    · have : phi ρ h k = 0 := by unfold phi; rw [if_neg (fun e => hz e.1)]
      rw [this] at ih2
      have e0 : h k = 0 := by omega
      rw [e0, if_pos (by decide)]
      exact ih2
theorem p_orbits {ρ : RS} {n : Nat} {h : Nat → Nat} (w : RW ρ n h) (H : snd_ n h) : ∃ o, o ≤ prN n h ∧ S_X1_orbits ρ = nI o := by
  refine ⟨sm (phi ρ h) n, ?_, by unfold S_X1_orbits; rw [w.len]; exact p_orbG w n 0 (by omega)⟩
  rw [← snd_sum H (phi ρ h)]
  refine sm_le fun j hj => ?_
  show phi ρ h ((j + h j) % n) ≤ (j + h j) / n
  have hm := Nat.mod_lt (j + h j) w.1
  unfold phi
  split
  · rename_i hc
    have hf : G_X1_isFirstOfOrbit_4 ρ (nI ((j + h j) % n)) n 0 (nI ((j + h j) % n)) ≠ 0 := by
      have := hc.2
      unfold S_X1_isFirstOfOrbit at this
      rw [w.len] at this
      exact this
    have hle := p_firstG w H hm hj rfl n 0 0 _ (by omega) (OV.first hm) (Nat.le_refl _) hf
    have e := Nat.div_add_mod (j + h j) n
    rcases Nat.eq_zero_or_pos ((j + h j) / n) with hz | hz
    · exfalso
      rw [hz, Nat.mul_zero, Nat.zero_add] at e
      have h0 : h j = 0 := by omega
      have e2 : (j + h j) % n = j := by omega
      rw [e2] at hc
      omega
    · exact hz
  · exact Nat.zero_le _
theorem p_fmB : ∀ n : Fin 9, ∀ i : Fin 9, ∀ a : Fin 10, n.val ≠ 0 → S_J9_floorMod_7cf53 (nI i.val - nI a.val) (nI n.val) = nI ((i.val + 840 - a.val) % n.val) := by decide +kernel
theorem p_fmA : ∀ n : Fin 9, ∀ x : Fin 32, n.val ≠ 0 → S_J9_floorMod_7cf53 (nI x.val) (nI n.val) = nI (x.val % n.val) := by decide +kernel
theorem p_dif : ∀ x : Fin 10, ∀ a : Fin 10, (x.val < a.val → nI x.val - nI a.val < 0) ∧ (a.val ≤ x.val → ¬ nI x.val - nI a.val < 0 ∧ nI x.val - nI a.val = nI (x.val - a.val)) := by decide +kernel
theorem RW.at {ρ : RS} {n x : Nat} {h : Nat → Nat} (w : RW ρ n h) (hx : x < 32) : S_X1_throwAt ρ (nI x) = nI (h (x % n)) := by
  have h0 := w.1
  have h8 := w.2.1
  have hm := Nat.mod_lt x h0
  unfold S_X1_throwAt S_X1_siteOf
  rw [w.2.2.1, if_neg (nI_nle h0 (by omega)), p_fmA ⟨n, by omega⟩ ⟨x, hx⟩ (show n ≠ 0 by omega), w.h hm]
theorem RW.back {ρ : RS} {n k a : Nat} {h : Nat → Nat} (w : RW ρ n h) (hk : k < 9) (ha : a < 10) : S_X1_throwAt ρ (nI k - nI a) = nI (h ((k + 840 - a) % n)) := by
  have h0 := w.1
  have h8 := w.2.1
  have hm := Nat.mod_lt (k + 840 - a) h0
  unfold S_X1_throwAt S_X1_siteOf
  rw [w.2.2.1, if_neg (nI_nle h0 (by omega)), p_fmB ⟨n, by omega⟩ ⟨k, hk⟩ ⟨a, ha⟩ (show n ≠ 0 by omega), w.h hm]
/-- the state before a site, out of the last m throws -/
def sB (n : Nat) (h : Nat → Nat) (k : Nat) : Nat → Nat
  | 0 => 0
  | m + 1 => if m + 1 ≤ h ((k + 840 - (m + 1)) % n) then sB n h k m ||| 1 <<< (h ((k + 840 - (m + 1)) % n) - (m + 1)) else sB n h k m
def stN (n : Nat) (h : Nat → Nat) (k : Nat) : Nat := sB n h k 9
theorem sB_lt {n k : Nat} {h : Nat → Nat} (h0 : 0 < n) (hh : ∀ i, i < n → h i ≤ 9) : ∀ m, sB n h k m < 512
  | 0 => by
    show 0 < 512
    decide
  | m + 1 => by
    show (if m + 1 ≤ h ((k + 840 - (m + 1)) % n) then sB n h k m ||| 1 <<< (h ((k + 840 - (m + 1)) % n) - (m + 1)) else sB n h k m) < 512
    have := hh _ (Nat.mod_lt (k + 840 - (m + 1)) h0)
    split
    · exact p_or512 (sB_lt h0 hh m) (p_shl512 (by omega))
    · exact sB_lt h0 hh m
theorem sB_bits {n k : Nat} {h : Nat → Nat} : ∀ m x, (sB n h k m).testBit x = true ↔ ∃ a, 1 ≤ a ∧ a ≤ m ∧ h ((k + 840 - a) % n) = a + x
  | 0, x => by
    show (0 : Nat).testBit x = true ↔ _
    rw [Nat.zero_testBit]
    exact ⟨fun e => absurd e (by decide), fun ⟨a, h1, h2, _⟩ => by omega⟩
  | m + 1, x => by
    show (if m + 1 ≤ h ((k + 840 - (m + 1)) % n) then sB n h k m ||| 1 <<< (h ((k + 840 - (m + 1)) % n) - (m + 1)) else sB n h k m).testBit x = true ↔ _
    have ih := sB_bits (n := n) (k := k) (h := h) m x
    split
    · rename_i hc
      rw [p_tb, Bool.or_eq_true, decide_eq_true_iff, ih]
      constructor
      · rintro (⟨a, h1, h2, h3⟩ | e)
        · exact ⟨a, h1, by omega, h3⟩
        · exact ⟨m + 1, by omega, by omega, by omega⟩
      · rintro ⟨a, h1, h2, h3⟩
        rcases Nat.lt_or_ge m a with hlt | hge
        · obtain rfl : a = m + 1 := by omega
          exact Or.inr (by omega)
        · exact Or.inl ⟨a, h1, hge, h3⟩
    · rename_i hc
      rw [ih]
      constructor
      · rintro ⟨a, h1, h2, h3⟩
        exact ⟨a, h1, by omega, h3⟩
      · rintro ⟨a, h1, h2, h3⟩
        rcases Nat.lt_or_ge m a with hlt | hge
        · obtain rfl : a = m + 1 := by omega
          omega
        · exact ⟨a, h1, hge, h3⟩
theorem p_840 {n : Nat} (h0 : 0 < n) (h8 : n ≤ 8) (k : Nat) : (k + 840) % n = k % n := by
  have : n = 1 ∨ n = 2 ∨ n = 3 ∨ n = 4 ∨ n = 5 ∨ n = 6 ∨ n = 7 ∨ n = 8 := by omega
  rcases this with rfl | rfl | rfl | rfl | rfl | rfl | rfl | rfl <;> omega
theorem p_canc {n j y a : Nat} (h0 : 0 < n) (h8 : n ≤ 8) (hj : j < n) (e : (j + a) % n = (y + a) % n) : y % n = j := by
  have : n = 1 ∨ n = 2 ∨ n = 3 ∨ n = 4 ∨ n = 5 ∨ n = 6 ∨ n = 7 ∨ n = 8 := by omega
  rcases this with rfl | rfl | rfl | rfl | rfl | rfl | rfl | rfl <;> omega
/-- where a throw of some beats ago lands -/
theorem p_lands {n k a x : Nat} {h : Nat → Nat} (h0 : 0 < n) (h8 : n ≤ 8) (ha : a ≤ 9) (e : h ((k + 840 - a) % n) = a + x) : ((k + 840 - a) % n + h ((k + 840 - a) % n)) % n = (k + x) % n := by
  rw [e, Nat.mod_add_mod]
  have : k + 840 - a + (a + x) = (k + x) + 840 := by omega
  rw [this, p_840 h0 h8]
theorem p_uniq {n k a a2 x : Nat} {h : Nat → Nat} (H : snd_ n h) (ha : a ≤ 9) (ha2 : a2 ≤ 9) (e : h ((k + 840 - a) % n) = a + x) (e2 : h ((k + 840 - a2) % n) = a2 + x) : a = a2 := by
  have l1 := p_lands H.1 H.2.1 ha e
  have l2 := p_lands H.1 H.2.1 ha2 e2
  have := snd_inj H (Nat.mod_lt _ H.1) (Nat.mod_lt _ H.1) (l1.trans l2.symm)
  rw [this, e2] at e
  omega
theorem sB_pc {n k : Nat} {h : Nat → Nat} (H : snd_ n h) : ∀ m, m ≤ 9 → pcN (sB n h k m) = sm (fun a => if a + 1 ≤ h ((k + 840 - (a + 1)) % n) then 1 else 0) m
  | 0, _ => by
    show pcN 0 = 0
    decide
  | m + 1, hm => by
    show pcN (if m + 1 ≤ h ((k + 840 - (m + 1)) % n) then sB n h k m ||| 1 <<< (h ((k + 840 - (m + 1)) % n) - (m + 1)) else sB n h k m) = sm (fun a => if a + 1 ≤ h ((k + 840 - (a + 1)) % n) then 1 else 0) m + (if m + 1 ≤ h ((k + 840 - (m + 1)) % n) then 1 else 0)
    have ih := sB_pc (k := k) H m (by omega)
    by_cases hc : m + 1 ≤ h ((k + 840 - (m + 1)) % n)
    · rw [if_pos hc, if_pos hc]
      have h9 := H.2.2.1 _ (Nat.mod_lt (k + 840 - (m + 1)) H.1)
      have hb : (sB n h k m).testBit (h ((k + 840 - (m + 1)) % n) - (m + 1)) = false := by
        cases e : (sB n h k m).testBit (h ((k + 840 - (m + 1)) % n) - (m + 1)) with
        | false => rfl
        | true =>
          exfalso
          obtain ⟨a, h1, h2, h3⟩ := (sB_bits m _).mp e
          have := p_uniq (a := m + 1) (a2 := a) (x := h ((k + 840 - (m + 1)) % n) - (m + 1)) H hm (by omega) (by omega) h3
          omega
      have := (p_bit ⟨sB n h k m, sB_lt H.1 H.2.2.1 m⟩ ⟨h ((k + 840 - (m + 1)) % n) - (m + 1), by omega⟩).2 hb
      simp only at this
      rw [if_neg (by omega)] at this
      rw [this, ih]
    · rw [if_neg hc, if_neg hc, ih]
      rfl
theorem p_nxpc : ∀ s : Fin 512, ∀ h : Fin 10, ∀ t, nxN s.val h.val = some t → pcN t = pcN s.val := by
  intro s h t e
  have : ∀ s : Fin 512, ∀ h : Fin 10, (match nxN s.val h.val with | some t => decide (pcN t = pcN s.val) | none => true) = true := by decide +kernel
  have := this s h
  rw [e] at this
  exact of_decide_eq_true this
/-- from beat to beat a sound row's state goes on by its throw -/
theorem stN_next {n k : Nat} {h : Nat → Nat} (H : snd_ n h) : nxN (stN n h k) (h (k % n)) = some (stN n h (k + 1)) := by
  have h0 := H.1
  have h8 := H.2.1
  have hkm := Nat.mod_lt k h0
  have hk9 := H.2.2.1 _ hkm
  have hbit := fun x => sB_bits (n := n) (k := k) (h := h) 9 x
  have hbit1 := fun x => sB_bits (n := n) (k := k + 1) (h := h) 9 x
  have e1 : ∀ a, (k + 1 + 840 - (a + 1)) = k + 840 - a := fun a => by omega
  have e01 : (k + 1 + 840 - 1) % n = k % n := by
    have : k + 1 + 840 - 1 = k + 840 := by omega
    rw [this, p_840 h0 h8]
  -- the bits of the next state
  have hnext : ∀ x, (stN n h (k + 1)).testBit x = true ↔ h (k % n) = 1 + x ∨ (stN n h k).testBit (x + 1) = true := by
    intro x
    unfold stN
    rw [hbit1, hbit]
    constructor
    · rintro ⟨a, h1, h2, h3⟩
      rcases Nat.eq_or_lt_of_le h1 with e | hlt
      · rw [← e, e01] at h3
        exact Or.inl h3
      · obtain ⟨a', rfl⟩ : ∃ a', a = a' + 1 := ⟨a - 1, by omega⟩
        rw [e1] at h3
        exact Or.inr ⟨a', by omega, by omega, by omega⟩
    · rintro (h3 | ⟨a, h1, h2, h3⟩)
      · exact ⟨1, by decide, by decide, by rw [e01]; exact h3⟩
      · have := H.2.2.1 _ (Nat.mod_lt (k + 840 - a) h0)
        exact ⟨a + 1, by omega, by omega, by rw [e1]; omega⟩
  have hz : (stN n h k).testBit 0 = decide (stN n h k % 2 = 1) := Nat.testBit_zero _
  by_cases hh : h (k % n) = 0
  · have hb0 : (stN n h k).testBit 0 = false := by
      cases e : (stN n h k).testBit 0 with
      | false => rfl
      | true =>
        exfalso
        obtain ⟨a, h1, h2, h3⟩ := (hbit 0).mp e
        have l := p_lands h0 h8 h2 h3
        have l2 : (k % n + h (k % n)) % n = (k + 0) % n := by rw [hh, Nat.mod_add_mod]
        have := snd_inj H (Nat.mod_lt _ h0) hkm (l.trans l2.symm)
        rw [this] at h3
        omega
    have he : stN n h k % 2 = 0 := by
      rw [hb0] at hz
      have := of_decide_eq_false hz.symm
      omega
    unfold nxN
    rw [if_pos he, if_pos hh]
    congr 1
    refine Nat.eq_of_testBit_eq fun x => ?_
    have : (stN n h k / 2).testBit x = (stN n h k).testBit (x + 1) := by rw [Nat.testBit_succ]
    rw [this]
    refine Bool.eq_iff_iff.mpr ?_
    rw [hnext, hh]
    exact ⟨fun e => Or.inr e, fun e => e.elim (fun e => by omega) id⟩
  · have hb0 : (stN n h k).testBit 0 = true := by
      obtain ⟨j, hj, ej⟩ := snd_surj H hkm
      have hj0 : h j ≠ 0 := by
        intro e
        rw [e, Nat.add_zero, Nat.mod_eq_of_lt hj] at ej
        rw [ej] at e
        exact hh e
      have hj9 := H.2.2.1 j hj
      refine (hbit 0).mpr ⟨h j, by omega, hj9, ?_⟩
      have : (k + 840 - h j) % n = j := by
        refine p_canc h0 h8 hj (a := h j) ?_
        rw [ej]
        have : k + 840 - h j + h j = k + 840 := by omega
        rw [this, p_840 h0 h8]
      rw [this, Nat.add_zero]
    have hbh : (stN n h k).testBit (h (k % n)) = false := by
      cases e : (stN n h k).testBit (h (k % n)) with
      | false => rfl
      | true =>
        exfalso
        obtain ⟨a, h1, h2, h3⟩ := (hbit (h (k % n))).mp e
        have l := p_lands h0 h8 h2 h3
        have l2 : (k % n + h (k % n)) % n = (k + h (k % n)) % n := Nat.mod_add_mod _ _ _
        have := snd_inj H (Nat.mod_lt _ h0) hkm (l.trans l2.symm)
        rw [this] at h3
        omega
    have he : ¬ stN n h k % 2 = 0 := by
      rw [hb0] at hz
      have := of_decide_eq_true hz.symm
      omega
    unfold nxN
    rw [if_neg he, if_neg (fun e => e.elim hh (fun e => by rw [hbh] at e; exact absurd e (by decide)))]
    congr 1
    refine Nat.eq_of_testBit_eq fun x => ?_
    rw [p_tb]
    have : (stN n h k / 2).testBit x = (stN n h k).testBit (x + 1) := by rw [Nat.testBit_succ]
    rw [this]
    refine Bool.eq_iff_iff.mpr ?_
    rw [hnext, Bool.or_eq_true, decide_eq_true_iff]
    constructor
    · rintro (e | e)
      · exact Or.inr e
      · exact Or.inl (by omega)
    · rintro (e | e)
      · exact Or.inr (by omega)
      · exact Or.inl e
theorem stN_lt {n k : Nat} {h : Nat → Nat} (H : snd_ n h) : stN n h k < 512 := sB_lt H.1 H.2.2.1 9
theorem stN_const {n : Nat} {h : Nat → Nat} (H : snd_ n h) : ∀ k, pcN (stN n h k) = pcN (stN n h 0)
  | 0 => rfl
  | k + 1 => by
    rw [← stN_const H k]
    exact p_nxpc ⟨stN n h k, stN_lt H⟩ ⟨h (k % n), by have := H.2.2.1 _ (Nat.mod_lt k H.1); omega⟩ _ (stN_next H)
theorem p_ind9 : ∀ x : Fin 10, sm (fun a => if a + 1 ≤ x.val then 1 else 0) 9 = x.val := by decide
theorem stN_pc {n : Nat} {h : Nat → Nat} (H : snd_ n h) (k : Nat) : pcN (stN n h k) = prN n h := by
  have e1 : sm (fun k => pcN (stN n h k)) n = n * pcN (stN n h 0) := by
    rw [sm_congr (g := fun _ => pcN (stN n h 0)) (fun k _ => stN_const H k), sm_const]
  have e2 : sm (fun k => pcN (stN n h k)) n = sm h n := by
    rw [sm_congr (g := fun k => sm (fun a => if a + 1 ≤ h ((k + (839 - a)) % n) then 1 else 0) 9) (fun k _ => by
      unfold stN
      rw [sB_pc H 9 (Nat.le_refl _)]
      refine sm_congr fun a ha => ?_
      have : k + 840 - (a + 1) = k + (839 - a) := by omega
      rw [this])]
    rw [sm_swap (fun k a => if a + 1 ≤ h ((k + (839 - a)) % n) then 1 else 0) 9 n]
    rw [sm_congr (g := fun a => sm (fun j => if a + 1 ≤ h j then 1 else 0) n) (fun a _ => sm_shift H.1 (839 - a) (fun j => if a + 1 ≤ h j then 1 else 0))]
    rw [← sm_swap (fun j a => if a + 1 ≤ h j then 1 else 0) 9 n]
    exact sm_congr fun j hj => p_ind9 ⟨h j, by have := H.2.2.1 j hj; omega⟩
  rw [stN_const H k]
  rw [snd_props H] at e2
  have : n * pcN (stN n h 0) = n * prN n h := e1.symm.trans e2
  exact Nat.eq_of_mul_eq_mul_left H.1 this
theorem p_sbG {ρ : RS} {n k : Nat} {h : Nat → Nat} (w : RW ρ n h) (hk : k < 9) : ∀ mm m, m + mm = 9 → G_X1_stateBefore_4 ρ (nI k) mm (m + 1) (nI (sB n h k m)) = nI (stN n h k) := by
  intro mm
  induction mm with
  | zero =>
    intro m hm
    obtain rfl : m = 9 := by omega
    rfl
  | succ mm ih =>
    intro m hm
    have ih2 := ih (m + 1) (by omega)
    have es : sB n h k (m + 1) = if m + 1 ≤ h ((k + 840 - (m + 1)) % n) then sB n h k m ||| 1 <<< (h ((k + 840 - (m + 1)) % n) - (m + 1)) else sB n h k m := rfl
    have h9 := (w.2.2.2.1 _ (Nat.mod_lt (k + 840 - (m + 1)) w.1)).1
    have hlt := sB_lt (k := k) w.1 (fun i hi => (w.2.2.2.1 i hi).1) m
    have hd := p_dif ⟨h ((k + 840 - (m + 1)) % n), by omega⟩ ⟨m + 1, by omega⟩
    simp only at hd
    show (if ((S_X1_throwAt ρ (nI k - (nI (m + 1)))) - (nI (m + 1))) < 0 then G_X1_stateBefore_4 ρ (nI k) mm (m + 1 + 1) (nI (sB n h k m)) else G_X1_stateBefore_4 ρ (nI k) mm (m + 1 + 1) (nI (sB n h k m) ||| (1 <<< (((S_X1_throwAt ρ (nI k - (nI (m + 1)))) - (nI (m + 1))) &&& 31)))) = _
    rw [w.back hk (show m + 1 < 10 by omega)]
    by_cases hc : m + 1 ≤ h ((k + 840 - (m + 1)) % n)
    · rw [if_neg (hd.2 hc).1, (hd.2 hc).2]
      rw [es, if_pos hc] at ih2
      have := (p_bit ⟨sB n h k m, hlt⟩ ⟨h ((k + 840 - (m + 1)) % n) - (m + 1), by omega⟩).1
      simp only at this
      rw [this]
      exact ih2
    · rw [if_pos (hd.1 (by omega))]
      rw [es, if_neg hc] at ih2
      exact ih2
theorem p_stateB {ρ : RS} {n k : Nat} {h : Nat → Nat} (w : RW ρ n h) (hk : k < 9) : S_X1_stateBefore ρ (nI k) = nI (stN n h k) := p_sbG w hk 9 0 rfl
theorem p_maxI {a b : Nat} (ha : a < 2 ^ 31) (hb : b < 2 ^ 31) : (if nI a < nI b then nI b else nI a) = nI (if a < b then b else a) := by
  by_cases h : a < b
  · rw [if_pos ((nI_ltI ha hb).mpr h), if_pos h]
  · rw [if_neg (fun e => h ((nI_ltI ha hb).mp e)), if_neg h]
theorem p_highG {ρ : RS} {n : Nat} {h : Nat → Nat} (w : RW ρ n h) : ∀ mm k v, k + mm = n → v ≤ 9 → ∃ m, m ≤ 9 ∧ G_X1_highestThrow_4 ρ mm k (nI v) = nI m := by
  intro mm
  induction mm with
  | zero =>
    intro k v hk hv
    exact ⟨v, hv, rfl⟩
  | succ mm ih =>
    intro k v hk hv
    have h9 := (w.2.2.2.1 k (by omega)).1
    show ∃ m, m ≤ 9 ∧ G_X1_highestThrow_4 ρ mm (k + 1) (if nI v < (S_X3_cell 8 ρ.1 (nI k)) then (S_X3_cell 8 ρ.1 (nI k)) else nI v) = nI m
    rw [w.h (by omega), p_maxI (by omega) (by omega)]
    exact ih (k + 1) _ (by omega) (by split <;> omega)
theorem p_highest {ρ : RS} {n : Nat} {h : Nat → Nat} (w : RW ρ n h) : ∃ m, m ≤ 9 ∧ S_X1_highestThrow ρ = nI m := by
  unfold S_X1_highestThrow
  rw [w.len]
  exact p_highG w n 0 0 (by omega) (by decide)
theorem p_greatG {ρ : RS} {n : Nat} {h : Nat → Nat} (w : RW ρ n h) (hT : ∀ i, i < n → ∃ t, t ≤ sm h n ∧ ρ.2.2.2.1 i = nI t) : ∀ mm k v, k + mm = n → v ≤ sm h n → ∃ m, m ≤ sm h n ∧ G_X1_greatestTurn_4 ρ mm k (nI v) = nI m := by
  have hS := sm_9 (fun i hi => (w.2.2.2.1 i hi).1)
  have h8 := w.2.1
  intro mm
  induction mm with
  | zero =>
    intro k v hk hv
    exact ⟨v, hv, rfl⟩
  | succ mm ih =>
    intro k v hk hv
    obtain ⟨t, ht, e⟩ := hT k (by omega)
    show ∃ m, m ≤ sm h n ∧ G_X1_greatestTurn_4 ρ mm (k + 1) (if nI v < (S_X3_cell 8 ρ.2.2.2.1 (nI k)) then (S_X3_cell 8 ρ.2.2.2.1 (nI k)) else nI v) = nI m
    rw [p_cell (show k < 8 by omega) (by decide), e, p_maxI (by omega) (by omega)]
    exact ih (k + 1) _ (by omega) (by split <;> omega)
/-! the period -/
theorem p_shG {ρ : RS} {n by_ : Nat} {h : Nat → Nat} (w : RW ρ n h) (hb : by_ < 9) : ∀ mm k, k + mm = n → (G_X1_isShiftedTo_15 ρ ρ (nI by_) mm k = 1 ∧ ∀ i, k ≤ i → i < n → h ((i + by_) % n) = h i) ∨ (G_X1_isShiftedTo_15 ρ ρ (nI by_) mm k = 0 ∧ ∃ i, i < n ∧ h ((i + by_) % n) ≠ h i) := by
  have h8 := w.2.1
  intro mm
  induction mm with
  | zero =>
    intro k hk
    exact Or.inl ⟨rfl, fun i h1 h2 => by omega⟩
  | succ mm ih =>
    intro k hk
    have h9 := (w.2.2.2.1 k (by omega)).1
    have h9b := (w.2.2.2.1 _ (Nat.mod_lt (k + by_) w.1)).1
    show ((if (S_X1_throwAt ρ ((nI k) + nI by_)) = (S_X3_cell 8 ρ.1 (nI k)) then G_X1_isShiftedTo_15 ρ ρ (nI by_) mm (k + 1) else 0) = 1 ∧ _) ∨ ((if (S_X1_throwAt ρ ((nI k) + nI by_)) = (S_X3_cell 8 ρ.1 (nI k)) then G_X1_isShiftedTo_15 ρ ρ (nI by_) mm (k + 1) else 0) = 0 ∧ _)
    rw [nI_add, w.at (show k + by_ < 32 by omega), w.h (by omega)]
    by_cases hc : h ((k + by_) % n) = h k
    · rw [if_pos (by rw [hc])]
      rcases ih (k + 1) (by omega) with ⟨e1, e2⟩ | ⟨e1, e2⟩
      · refine Or.inl ⟨e1, fun i hi hn => ?_⟩
        rcases Nat.lt_or_ge k i with hlt | hge
        · exact e2 i hlt hn
        · obtain rfl : i = k := by omega
          exact hc
      · exact Or.inr ⟨e1, e2⟩
    · rw [if_neg (by rw [nI_eq (by omega) (by omega)]; exact hc)]
      exact Or.inr ⟨rfl, k, by omega, hc⟩
theorem p_sh {ρ : RS} {n by_ : Nat} {h : Nat → Nat} (w : RW ρ n h) (hb : by_ < 9) : (S_X1_isShiftedTo ρ ρ (nI by_) = 1 ∧ ∀ i, i < n → h ((i + by_) % n) = h i) ∨ (S_X1_isShiftedTo ρ ρ (nI by_) = 0 ∧ ∃ i, i < n ∧ h ((i + by_) % n) ≠ h i) := by
  unfold S_X1_isShiftedTo
  rw [if_pos rfl, w.len]
  rcases p_shG w hb n 0 (by omega) with ⟨e1, e2⟩ | ⟨e1, e2⟩
  · exact Or.inl ⟨e1, fun i hi => e2 i (Nat.zero_le _) hi⟩
  · exact Or.inr ⟨e1, e2⟩
theorem p_perG {ρ : RS} {n : Nat} {h : Nat → Nat} (w : RW ρ n h) : ∀ mm k, 1 ≤ k → k + mm = n → (∀ y, 1 ≤ y → y < k → ∃ i, i < n ∧ h ((i + y) % n) ≠ h i) → ∃ d, 1 ≤ d ∧ d ≤ n ∧ G_X1_period_2 ρ mm k = nI d ∧ (∀ i, i < n → h ((i + d) % n) = h i) ∧ (∀ y, 1 ≤ y → y < d → ∃ i, i < n ∧ h ((i + y) % n) ≠ h i) := by
  have h8 := w.2.1
  intro mm
  induction mm with
  | zero =>
    intro k h1 hk hy
    refine ⟨n, w.1, Nat.le_refl _, w.2.2.1, fun i hi => ?_, ?_⟩
    · rw [Nat.add_mod_right, Nat.mod_eq_of_lt hi]
    · have : k = n := by omega
      rw [← this]
      rw [← this] at hy
      exact hy
  | succ mm ih =>
    intro k h1 hk hy
    show ∃ d, 1 ≤ d ∧ d ≤ n ∧ (if (S_X1_isShiftedTo ρ ρ (nI k)) = 0 then G_X1_period_2 ρ mm (k + 1) else nI k) = nI d ∧ _
    rcases p_sh w (show k < 9 by omega) with ⟨e1, e2⟩ | ⟨e1, e2⟩
    · rw [e1, if_neg (by decide)]
      exact ⟨k, h1, by omega, rfl, e2, hy⟩
    · rw [e1, if_pos rfl]
      refine ih (k + 1) (by omega) (by omega) (fun y h3 h4 => ?_)
      rcases Nat.lt_or_ge y k with hlt | hge
      · exact hy y h3 hlt
      · obtain rfl : y = k := by omega
        exact e2
theorem p_period {ρ : RS} {n : Nat} {h : Nat → Nat} (w : RW ρ n h) : ∃ d, 1 ≤ d ∧ d ≤ n ∧ S_X1_period ρ = nI d ∧ n % d = 0 := by
  have h0 := w.1
  unfold S_X1_period
  rw [w.len]
  obtain ⟨d, h1, h2, e, hd, hl⟩ := p_perG w (n - 1) 1 (Nat.le_refl _) (by omega) (fun y h1 h2 => by omega)
  refine ⟨d, h1, h2, e, ?_⟩
  -- a shift by d, for every place
  have hD : ∀ x, h ((x + d) % n) = h (x % n) := by
    intro x
    have := hd (x % n) (Nat.mod_lt _ h0)
    rw [Nat.mod_add_mod] at this
    exact this
  have hM : ∀ m x, h ((x + m * d) % n) = h (x % n) := by
    intro m
    induction m with
    | zero =>
      intro x
      rw [Nat.zero_mul, Nat.add_zero]
    | succ m ih =>
      intro x
      have : x + (m + 1) * d = (x + m * d) + d := by rw [Nat.succ_mul]; omega
      rw [this, hD, ih]
  rcases Nat.eq_zero_or_pos (n % d) with hz | hz
  · exact hz
  · exfalso
    obtain ⟨i, hi, hne⟩ := hl (n % d) hz (Nat.mod_lt _ h1)
    refine hne ?_
    have e2 := hM (n / d) (i + n % d)
    have e3 : i + n % d + n / d * d = i + n := by
      have := Nat.div_add_mod n d
      rw [Nat.mul_comm] at this
      omega
    rw [e3, Nat.add_mod_right, Nat.mod_eq_of_lt hi] at e2
    exact e2.symm
theorem nI_div {a b : Nat} (ha : a < 2 ^ 31) (hb : b < 2 ^ 31) : nI a / nI b = nI (a / b) := (Int32.ofNat_div ha hb).symm
theorem nI_mul (a b : Nat) : nI a * nI b = nI (a * b) := (Int32.ofNat_mul a b).symm
theorem nI_rem {a b : Nat} (ha : a < 2 ^ 31) (hb : b < 2 ^ 31) : nI a - nI a / nI b * nI b = nI (a % b) := by
  have h1 := Nat.div_add_mod a b
  rw [nI_div ha hb, nI_mul, nI_sub (Nat.div_mul_le_self a b)]
  congr 1
  rw [Nat.mul_comm] at h1
  omega
theorem p_siteOf {ρ : RS} {n x : Nat} (h0 : 0 < n) (h8 : n ≤ 8) (e : ρ.2.2.2.2.2.1 = nI n) (hx : x < 32) : S_X1_siteOf ρ (nI x) = nI (x % n) := by
  unfold S_X1_siteOf
  rw [e, if_neg (nI_nle h0 (by omega)), p_fmA ⟨n, by omega⟩ ⟨x, hx⟩ (show n ≠ 0 by omega)]
/-- what is right of a sound row's turns and states -/
def RT (n : Nat) (h : Nat → Nat) (t s : Nat → Int32) (i : Nat) : Prop := (∃ q, q ≤ prN n h ∧ n * q ≤ sm h n ∧ t i = nI (n * q)) ∧ s i = nI (stN n h i)
theorem p_settleB {ρ : RS} {v : Int32} {n : Nat} {h : Nat → Nat} {g : Nat → Int32} (H : snd_ n h) (hl : ρ.2.2.2.2.2.1 = nI n) (hh : ∀ i, i < n → ρ.1 i = nI (h i)) (hg : ∀ i, i < n → g i = nI ((i + h i) % n)) : ∀ mm k t s, k + mm = n → (∀ i, i < k → RT n h t s i) → ∃ t2 s2, G_X1_settle_70b ρ v g mm k t s = (ρ.1, ρ.2.1, g, t2, s2, ρ.2.2.2.2.2.1, 1) ∧ ∀ i, i < n → RT n h t2 s2 i := by
  have h8 := H.2.1
  have wT : ∀ (t s : Nat → Int32), RW (ρ.1, ρ.2.1, g, t, s, ρ.2.2.2.2.2.1, 1) n h := fun t s => ⟨H.1, h8, hl, fun i hi => ⟨H.2.2.1 i hi, hh i hi⟩, hg⟩
  intro mm
  induction mm with
  | zero =>
    intro k t s hk hR
    obtain rfl : k = n := by omega
    exact ⟨t, s, rfl, hR⟩
  | succ mm ih =>
    intro k t s hk hR
    have hkn : k < n := by omega
    refine ih (k + 1) _ _ (by omega) (fun i hi => ?_)
    obtain ⟨q, hq1, hq2, hq3⟩ := p_turn (wT t s) H hkn
    by_cases e : i = k
    · refine ⟨⟨q, hq1, hq2, ?_⟩, ?_⟩
      · rw [e, p_setCell (by omega) (by decide), upd_same]
        exact hq3
      · rw [e, p_setCell (f := s) (by omega) (by decide), upd_same]
        exact p_stateB (wT _ s) (by omega)
    · have hR := hR i (by omega)
      unfold RT at hR ⊢
      rw [p_setCell (by omega) (by decide), upd_other e, p_setCell (f := s) (by omega) (by decide), upd_other e]
      exact hR
theorem p_settleA {ρ : RS} {v : Int32} {g : Nat → Int32} : ∀ mm k t s, ∃ t2 s2, G_X1_settle_70 ρ v g mm k t s = (ρ.1, ρ.2.1, g, t2, s2, ρ.2.2.2.2.2.1, 0) := by
  intro mm
  induction mm with
  | zero =>
    intro k t s
    exact ⟨t, s, rfl⟩
  | succ mm ih =>
    intro k t s
    exact ih (k + 1) _ _
/-- a row as it may be: settled -/
def RI2 (ρ : RS) (n : Nat) (h : Nat → Nat) : Prop := RW ρ n h ∧ ((ρ.2.2.2.2.2.2 = 1 ∧ snd_ n h ∧ ∀ i, i < n → RT n h ρ.2.2.2.1 ρ.2.2.2.2.1 i) ∨ ρ.2.2.2.2.2.2 = 0)
theorem p_settleG {ρ : RS} {n : Nat} {h : Nat → Nat} (h0 : 0 < n) (h8 : n ≤ 8) (hl : ρ.2.2.2.2.2.1 = nI n) (hh : ∀ i, i < n → h i ≤ 9 ∧ ρ.1 i = nI (h i)) : ∀ mm k g, k + mm = n → (∀ i, i < k → g i = nI ((i + h i) % n)) → RI2 (G_X1_settle_4 ρ mm k (nI (lnd n h k)) g) n h := by
  intro mm
  induction mm with
  | zero =>
    intro k g hk hg
    obtain rfl : k = n := by omega
    have hL := lnd_512 (h := h) h0 h8 k
    show RI2 (if (S_J6_bitCount_0f7a4 (nI (lnd k h k))) = ρ.2.2.2.2.2.1 then G_X1_settle_70b ρ (nI (lnd k h k)) g ρ.2.2.2.2.2.1.toNatClampNeg 0 ρ.2.2.2.1 ρ.2.2.2.2.1 else G_X1_settle_70 ρ (nI (lnd k h k)) g ρ.2.2.2.2.2.1.toNatClampNeg 0 ρ.2.2.2.1 ρ.2.2.2.2.1) k h
    rw [p_bc ⟨lnd k h k, by omega⟩, hl, nI_clamp (by omega)]
    have hp := lnd_le (h := h) h0 h8 k
    by_cases hc : pcN (lnd k h k) = k
    · rw [if_pos (by simp only; rw [hc])]
      have H : snd_ k h := ⟨h0, h8, fun i hi => (hh i hi).1, hc⟩
      obtain ⟨t2, s2, e, hR⟩ := p_settleB (v := nI (lnd k h k)) H hl (fun i hi => (hh i hi).2) hg k 0 ρ.2.2.2.1 ρ.2.2.2.2.1 (by omega) (fun i hi => absurd hi (Nat.not_lt_zero _))
      rw [e]
      exact ⟨⟨h0, h8, hl, hh, hg⟩, Or.inl ⟨rfl, H, hR⟩⟩
    · rw [if_neg (by simp only; rw [nI_eq (by omega) (by omega)]; exact hc)]
      obtain ⟨t2, s2, e⟩ := p_settleA (ρ := ρ) (v := nI (lnd k h k)) (g := g) k 0 ρ.2.2.2.1 ρ.2.2.2.2.1
      rw [e]
      exact ⟨⟨h0, h8, hl, hh, hg⟩, Or.inr rfl⟩
  | succ mm ih =>
    intro k g hk hg
    have hkn : k < n := by omega
    have h9 := (hh k hkn).1
    have hm := Nat.mod_lt (k + h k) h0
    have hL := lnd_512 (h := h) h0 h8 k
    show RI2 (G_X1_settle_4 ρ mm (k + 1) (nI (lnd n h k) ||| (1 <<< ((S_X1_siteOf (ρ.1, ρ.2.1, g, ρ.2.2.2.1, ρ.2.2.2.2.1, ρ.2.2.2.2.2.1, ρ.2.2.2.2.2.2) ((nI k) + (S_X3_cell 8 ρ.1 (nI k)))) &&& 31))) (S_X3_setCell 8 g (nI k) (S_X1_siteOf (ρ.1, ρ.2.1, g, ρ.2.2.2.1, ρ.2.2.2.2.1, ρ.2.2.2.2.2.1, ρ.2.2.2.2.2.2) ((nI k) + (S_X3_cell 8 ρ.1 (nI k)))))) n h
    rw [p_cell (show k < 8 by omega) (by decide), (hh k hkn).2, nI_add, p_siteOf (ρ := (ρ.1, ρ.2.1, g, ρ.2.2.2.1, ρ.2.2.2.2.1, ρ.2.2.2.2.2.1, ρ.2.2.2.2.2.2)) h0 h8 hl (show k + h k < 32 by omega)]
    have hb := (p_bit ⟨lnd n h k, by omega⟩ ⟨(k + h k) % n, by omega⟩).1
    simp only at hb
    rw [hb, p_setCell (show k < 8 by omega) (by decide)]
    refine ih (k + 1) _ (by omega) (fun i hi => ?_)
    by_cases e : i = k
    · rw [e, upd_same]
    · rw [upd_other e]
      exact hg i (by omega)
theorem p_settle {ρ : RS} {n : Nat} {h : Nat → Nat} (h0 : 0 < n) (h8 : n ≤ 8) (hl : ρ.2.2.2.2.2.1 = nI n) (hh : ∀ i, i < n → h i ≤ 9 ∧ ρ.1 i = nI (h i)) : RI2 (S_X1_settle ρ) n h := by
  unfold S_X1_settle
  have := p_settleG h0 h8 hl hh n 0 ρ.2.2.1 (by omega) (fun i hi => absurd hi (Nat.not_lt_zero _))
  rw [hl, nI_clamp (by omega)]
  exact this
theorem p_initG {p0 : Int32} {n : Nat} (h0 : 0 < n) (h8 : n ≤ 8) : ∀ mm v (f : Nat → Int32) (hN : Nat → Nat), mm ≤ n → v < 2 ^ 31 → (∀ i, mm ≤ i → i < n → hN i ≤ 9 ∧ f i = nI (hN i)) → ∃ h, RI2 (G_X1_init_56 p0 n mm (nI v) (nI mm - 1) f) n h := by
  intro mm
  induction mm with
  | zero =>
    intro v f hN hm hv hf
    refine ⟨hN, ?_⟩
    show RI2 (S_X1_settle (f, (fun _ => 0), (fun _ => 0), (fun _ => 0), (fun _ => 0), nI n, 0)) n hN
    exact p_settle h0 h8 rfl (fun i hi => hf i (Nat.zero_le _) hi)
  | succ mm ih =>
    intro v f hN hm hv hf
    have e1 : nI (mm + 1) - 1 = nI mm := nI_pred mm
    have e2 : nI mm + (-1) = nI mm - 1 := by rw [Int32.sub_eq_add_neg]
    have e10 : (10 : Int32) = nI 10 := by decide
    show ∃ h, RI2 (G_X1_init_56 p0 n mm (nI v / 10) ((nI (mm + 1) - 1) + (-1)) (S_X3_setCell 8 f (nI (mm + 1) - 1) (nI v - nI v / 10 * 10))) n h
    rw [e1, e2, e10, nI_rem hv (by decide), nI_div hv (by decide), p_setCell (show mm < 8 by omega) (by decide)]
    refine ih (v / 10) _ (fun i => if i = mm then v % 10 else hN i) (by omega) (by omega) (fun i hi hin => ?_)
    by_cases e : i = mm
    · rw [e, upd_same]
      simp only [if_pos]
      exact ⟨by omega, trivial⟩
    · rw [upd_other e]
      simp only [if_neg e]
      exact hf i (by omega) hin
theorem p_rowInit {v n : Nat} (h0 : 0 < n) (h8 : n ≤ 8) (hv : v < 2 ^ 31) : ∃ h, RI2 (S_X1_init (nI v) n) n h := p_initG h0 h8 n v (fun _ => 0) (fun _ => 0) (Nat.le_refl _) hv (fun i h1 h2 => by omega)
/-- what a sound row answers -/
theorem p_answers {ρ : RS} {n : Nat} {h : Nat → Nat} (r : RI2 ρ n h) (hs : ρ.2.2.2.2.2.2 ≠ 0) :
    S_X1_answer ρ 0 = nI n ∧ S_X1_answer ρ 2 = nI (prN n h) ∧ prN n h ≤ 9 ∧ sm h n = n * prN n h
    ∧ (∀ k, k < n → S_X1_answerAt ρ (nI k) 0 = nI (h k) ∧ h k ≤ 9 ∧ (∃ s, s < 512 ∧ S_X1_answerAt ρ (nI k) 2 = nI s ∧ pcN s = prN n h) ∧ (∃ q, q ≤ prN n h ∧ S_X1_answerAt ρ (nI k) 3 = nI (n * q) ∧ S_X1_answerAt ρ (nI k) 4 = nI q))
    ∧ (∃ m, m ≤ n * prN n h ∧ S_X1_answer ρ 9 = nI m) ∧ (∃ o, o ≤ prN n h ∧ S_X1_answer ρ 5 = nI o) ∧ (∃ d, 1 ≤ d ∧ d ≤ n ∧ n % d = 0 ∧ S_X1_answer ρ 8 = nI d) := by
  obtain ⟨w, hr⟩ := r
  have h0 := w.1
  have h8 := w.2.1
  rcases hr with ⟨h1, H, hR⟩ | hz
  · have hP := prN_le H
    have eS := snd_props H
    have hS := sm_9 H.2.2.1
    refine ⟨?_, ?_, hP, eS, fun k hk => ⟨?_, (w.2.2.2.1 k hk).1, ⟨stN n h k, stN_lt H, ?_, stN_pc H k⟩, ?_⟩, ?_, ?_, ?_⟩
    · unfold S_X1_answer
      rw [if_pos rfl, w.2.2.1]
    · unfold S_X1_answer
      rw [if_neg (by decide), if_neg (by decide), if_pos rfl, p_propsR w H h1]
    · unfold S_X1_answerAt
      rw [if_pos rfl, w.h hk]
    · unfold S_X1_answerAt S_X1_stateAt
      rw [if_neg (by decide), if_neg (by decide), if_pos rfl, if_neg hs, p_cell (by omega) (by decide), (hR k hk).2]
    · obtain ⟨⟨q, hq1, hq2, hq3⟩, _⟩ := hR k hk
      refine ⟨q, hq1, ?_, ?_⟩
      · unfold S_X1_answerAt
        rw [if_neg (by decide), if_neg (by decide), if_neg (by decide), if_pos rfl, if_neg hs, p_cell (by omega) (by decide), hq3]
      · unfold S_X1_answerAt
        rw [if_neg (by decide), if_neg (by decide), if_neg (by decide), if_neg (by decide), if_neg hs, w.2.2.1, if_neg (nI_nle h0 (by omega)), p_cell (by omega) (by decide), hq3, nI_div (by omega) (by omega), Nat.mul_div_cancel_left q h0]
    · obtain ⟨m, hm, e⟩ := p_greatG w (fun i hi => by
        obtain ⟨⟨q, _, hq2, hq3⟩, _⟩ := hR i hi
        exact ⟨n * q, hq2, hq3⟩) n 0 0 (by omega) (Nat.zero_le _)
      refine ⟨m, by omega, ?_⟩
      unfold S_X1_answer
      rw [if_neg (by decide), if_neg (by decide), if_neg (by decide), if_neg (by decide), if_neg (by decide), if_neg (by decide), if_neg (by decide), if_neg (by decide), if_neg (by decide), if_neg hs]
      unfold S_X1_greatestTurn
      rw [w.len]
      exact e
    · obtain ⟨o, ho, e⟩ := p_orbits w H
      refine ⟨o, ho, ?_⟩
      unfold S_X1_answer
      rw [if_neg (by decide), if_neg (by decide), if_neg (by decide), if_neg (by decide), if_neg (by decide), if_pos rfl, if_neg hs, e]
    · obtain ⟨d, hd1, hd2, e, hd3⟩ := p_period w
      refine ⟨d, hd1, hd2, hd3, ?_⟩
      unfold S_X1_answer
      rw [if_neg (by decide), if_neg (by decide), if_neg (by decide), if_neg (by decide), if_neg (by decide), if_neg (by decide), if_neg (by decide), if_neg (by decide), if_pos rfl, e]
  · exact absurd hz hs
theorem p_alike {ξ : XS} {σ : JS} {η : YS} {rows : List RD} {i n : Nat} {h : Nat → Nat} (w : RW (rw_ rows i).2 n h) : S_X3_alike ξ σ η rows i i = 0 := by
  show (if (S_X1_isShiftedTo (rw_ rows i).2 (rw_ rows i).2 (nI 0)) = 0 then _ else nI 0) = 0
  rcases p_sh w (show 0 < 9 by decide) with ⟨e, _⟩ | ⟨_, q, hq, e⟩
  · rw [e, if_neg (by decide)]
    rfl
  · rw [Nat.add_zero, Nat.mod_eq_of_lt hq] at e
    exact absurd rfl e
