/-! the law's calls, a row each: written by wip/p26/mk29.py -/
/-- what holds all through the law: the machine, its own code, the words, the script, the classes -/
def LC (p : Program) (s : State) (m : MethodId) (c : Code) (b L : Nat) (xs : Nat → Int32) (dC : Nat → ClassId) (dI : Nat → Nat → Nat) (cI cR : ClassId) : Prop := p.tables.exec = Jvm.exec ∧ c.code = cL_law ∧ c.maxLocals = 11 ∧ s.vm.findClass RL = some m.cls ∧ (∀ w ∈ wsL_law, w.before #[Value.ref b] s = true) ∧ va_X b L xs s s.heap ∧ b < s.heap.size ∧ cE (dC, dI) cI cR s
/-- the court as it stands in the heap, apart from what was there before the law -/
def CW (dC : Nat → ClassId) (dI : Nat → Nat → Nat) (cI cR : ClassId) (s : State) (x rw j a1 a2 a3 y b1 b2 b3 : Nat) (ξ : XS) (σ : JS) (η : YS) (rows : List RD) (H : Heap) (locs : List Loc) : Prop := va_P (dC, dI) vwCl (wC cI cR x rw j a1 a2 a3 y b1 b2 b3 ξ σ η rows) H ∧ va_D (va_A [] s.heap.size) (wC cI cR x rw j a1 a2 a3 y b1 b2 b3 ξ σ η rows) ∧ va_S (va_A [] s.heap.size) s.heap H locs ∧ p_CI ξ rows
theorem p_CI_tell {ξ : XS} {rows : List RD} {r : RD} (h : p_CI ξ rows) (h7 : rows.length ≤ 7) (hr : p_RI r.2) : p_CI (va_up ξ.1 ξ.2.toNatClampNeg (some r.1.1), ξ.2 + 1) (rows ++ [r]) := by
  obtain ⟨h8, e, hi, hR⟩ := h
  refine ⟨by rw [List.length_append]; show rows.length + 1 ≤ 8; omega, ?_, fun i hl => ?_, fun q hq => ?_⟩
  · show ξ.2 + 1 = nI (rows ++ [r]).length
    rw [List.length_append, e]
    exact nI_1 _
  · show va_up ξ.1 ξ.2.toNatClampNeg (some r.1.1) i = some (rw_ (rows ++ [r]) i).1.1
    have hl2 : i < rows.length + 1 := by rw [List.length_append] at hl; exact hl
    rw [e, nI_clamp (by omega)]
    by_cases hq : i = rows.length
    · have e2 : rw_ (rows ++ [r]) i = r := by
        unfold rw_
        rw [hq, List.getD_eq_getElem?_getD, List.getElem?_append_right (Nat.le_refl _), Nat.sub_self]
        rfl
      rw [e2]
      simp [va_up, hq]
    · have e2 : rw_ (rows ++ [r]) i = rw_ rows i := by
        unfold rw_
        rw [List.getD_eq_getElem?_getD, List.getD_eq_getElem?_getD, List.getElem?_append_left (by omega)]
      rw [e2, ← hi i (by omega)]
      simp [va_up, hq]
  · rcases List.mem_append.mp hq with h | h
    · exact hR q h
    · rw [List.mem_singleton.mp h]
      exact hr
theorem rw_last (rows : List RD) (r : RD) : rw_ (rows ++ [r]) rows.length = r := by
  unfold rw_
  rw [List.getD_eq_getElem?_getD, List.getElem?_append_right (Nat.le_refl _), Nat.sub_self]
  rfl
section
variable {p : Program} {l : Launch} {e : Env} {s : State} {m : MethodId} {below : List Frame} {meth : Method} {c : Code} {Q : State → Prop} {b L : Nat} {xs : Nat → Int32} {dC : Nat → ClassId} {dI : Nat → Nat → Nat} {cI cR : ClassId} {x rw j a1 a2 a3 y b1 b2 b3 : Nat} {ξ : XS} {σ : JS} {η : YS} {rows : List RD} {H : Heap} {locs : List Loc} {cells slots : Nat} {ls : Array Slot} {rest : List Value} {pc : Nat}
set_option maxHeartbeats 4000000 in
set_option maxRecDepth 100000 in
theorem l_many (C : LC p s m c b L xs dC dI cI cR) (w : CW dC dI cI cR s x rw j a1 a2 a3 y b1 b2 b3 ξ σ η rows H locs) {p0 : Int32} (hw : S_X3_isWithin p0 0 9 = 1) (hcs : cells ≤ 50 ∧ slots ≤ 1893) (hls : ls.size = 11) (hrs : (rest.map fun v => v.category).sum ≤ 8) (hdg : decode cL_law pc = .ok (.invokevirtual 49, 3)) (kk : W p l e room_1 s m #[Value.ref b] below meth c H locs cells slots Q (F0 m (pc + 3) ls (.int (S_X3_many ξ σ η rows p0) :: rest))) : W p l e room_1 s m #[Value.ref b] below meth c H locs cells slots Q (F0 m pc ls (.int p0 :: .ref x :: rest)) := by
  obtain ⟨hx, hb, hml, hown, hts, hX, hbl, hE⟩ := C
  obtain ⟨hP, hD, hS, hCI⟩ := w
  have hK := hE.1
  refine vp_callSi (va_Run.run (va_runV (As := [.int p0]) (rest := rest) ⟨hx, hb, hml, hown, hts⟩ (c_X3_many l dC dI cI cR x rw j a1 a2 a3 y b1 b2 b3 ξ σ η rows hCI p0 hw) (cwV 1 hts gL_law_X3_many rfl rfl rfl (by decide +kernel) ⟨Nat.le_of_ble_eq_true rfl, Nat.le_of_ble_eq_true rfl⟩) ⟨fun a U g mk q => by obtain ⟨q0, qP, qE⟩ := q; exact ⟨q0, qP, cE.same (s := U) rfl qE⟩, va_recv hK hP (ci := 3) (q0 := 0) rfl rfl, fun U hU hW => ⟨rfl, by rw [hU]; exact hP, hE.warm hW⟩⟩ rfl rfl hls rfl (lv_room hrs) hdg ⟨by show cells + 0 ≤ 600130; omega, by show slots + 0 ≤ 7301080; omega⟩)) (fun r h => ?_)
  subst h
  exact kk
set_option maxHeartbeats 4000000 in
set_option maxRecDepth 100000 in
theorem l_would (C : LC p s m c b L xs dC dI cI cR) (w : CW dC dI cI cR s x rw j a1 a2 a3 y b1 b2 b3 ξ σ η rows H locs) {p0 : Int32} (hw : S_X3_isThrow p0 = 1) (hcs : cells ≤ 50 ∧ slots ≤ 1893) (hls : ls.size = 11) (hrs : (rest.map fun v => v.category).sum ≤ 8) (hdg : decode cL_law pc = .ok (.invokevirtual 52, 3)) (kk : W p l e room_1 s m #[Value.ref b] below meth c H locs cells slots Q (F0 m (pc + 3) ls (.int (S_X3_would ξ σ η rows p0) :: rest))) : W p l e room_1 s m #[Value.ref b] below meth c H locs cells slots Q (F0 m pc ls (.int p0 :: .ref x :: rest)) := by
  obtain ⟨hx, hb, hml, hown, hts, hX, hbl, hE⟩ := C
  obtain ⟨hP, hD, hS, hCI⟩ := w
  have hK := hE.1
  refine vp_callSi (va_Run.run (va_runV (As := [.int p0]) (rest := rest) ⟨hx, hb, hml, hown, hts⟩ (c_X3_would l dC dI cI cR x rw j a1 a2 a3 y b1 b2 b3 ξ σ η rows hCI p0 hw) (cwV 1 hts gL_law_X3_would rfl rfl rfl (by decide +kernel) ⟨Nat.le_of_ble_eq_true rfl, Nat.le_of_ble_eq_true rfl⟩) ⟨fun a U g mk q => by obtain ⟨q0, qP, qE⟩ := q; exact ⟨q0, qP, cE.same (s := U) rfl qE⟩, va_recv hK hP (ci := 3) (q0 := 0) rfl rfl, fun U hU hW => ⟨rfl, by rw [hU]; exact hP, hE.warm hW⟩⟩ rfl rfl hls rfl (lv_room hrs) hdg ⟨by show cells + 0 ≤ 600130; omega, by show slots + 0 ≤ 7301080; omega⟩)) (fun r h => ?_)
  subst h
  exact kk
set_option maxHeartbeats 4000000 in
set_option maxRecDepth 100000 in
theorem l_tired (C : LC p s m c b L xs dC dI cI cR) (w : CW dC dI cI cR s x rw j a1 a2 a3 y b1 b2 b3 ξ σ η rows H locs)  (hcs : cells ≤ 50 ∧ slots ≤ 1893) (hls : ls.size = 11) (hrs : (rest.map fun v => v.category).sum ≤ 8) (hdg : decode cL_law pc = .ok (.invokevirtual 63, 3)) (kk : W p l e room_1 s m #[Value.ref b] below meth c H locs cells slots Q (F0 m (pc + 3) ls (.double (S_X3_tired ξ σ η rows) :: rest))) : W p l e room_1 s m #[Value.ref b] below meth c H locs cells slots Q (F0 m pc ls (.ref x :: rest)) := by
  obtain ⟨hx, hb, hml, hown, hts, hX, hbl, hE⟩ := C
  obtain ⟨hP, hD, hS, hCI⟩ := w
  have hK := hE.1
  refine vp_callSd (va_Run.run (va_runV (As := []) (rest := rest) ⟨hx, hb, hml, hown, hts⟩ (c_X3_tired l dC dI cI cR x rw j a1 a2 a3 y b1 b2 b3 ξ σ η rows hCI ) (cwV 0 hts gL_law_X3_tired rfl rfl rfl (by decide +kernel) ⟨Nat.le_of_ble_eq_true rfl, Nat.le_of_ble_eq_true rfl⟩) ⟨fun a U g mk q => by obtain ⟨q0, qP, qE⟩ := q; exact ⟨q0, qP, cE.same (s := U) rfl qE⟩, va_recv hK hP (ci := 3) (q0 := 0) rfl rfl, fun U hU hW => ⟨rfl, by rw [hU]; exact hP, hE.warm hW⟩⟩ rfl rfl hls rfl (lv_room hrs) hdg ⟨by show cells + 0 ≤ 600130; omega, by show slots + 0 ≤ 7301080; omega⟩)) (fun r h => ?_)
  subst h
  exact kk
set_option maxHeartbeats 4000000 in
set_option maxRecDepth 100000 in
theorem l_ofRow (C : LC p s m c b L xs dC dI cI cR) (w : CW dC dI cI cR s x rw j a1 a2 a3 y b1 b2 b3 ξ σ η rows H locs) {p1 : Int32} {i : Nat} (hi : i < rows.length) (hw : S_X3_isWithin p1 0 9 = 1) (hcs : cells ≤ 50 ∧ slots ≤ 1893) (hls : ls.size = 11) (hrs : (rest.map fun v => v.category).sum ≤ 8) (hdg : decode cL_law pc = .ok (.invokevirtual 38, 3)) (kk : W p l e room_1 s m #[Value.ref b] below meth c H locs cells slots Q (F0 m (pc + 3) ls (.int (S_X3_ofRow ξ σ η rows p1 i) :: rest))) : W p l e room_1 s m #[Value.ref b] below meth c H locs cells slots Q (F0 m pc ls (.int p1 :: .int (nI i) :: .ref x :: rest)) := by
  obtain ⟨hx, hb, hml, hown, hts, hX, hbl, hE⟩ := C
  obtain ⟨hP, hD, hS, hCI⟩ := w
  have hK := hE.1
  refine vp_callSi (va_Run.run (va_runV (As := [.int (nI i), .int p1]) (rest := rest) ⟨hx, hb, hml, hown, hts⟩ (c_X3_ofRow l dC dI cI cR x rw j a1 a2 a3 y b1 b2 b3 ξ σ η rows hCI p1 i hi hw) (cwV 2 hts gL_law_X3_ofRow rfl rfl rfl (by decide +kernel) ⟨Nat.le_of_ble_eq_true rfl, Nat.le_of_ble_eq_true rfl⟩) ⟨fun a U g mk q => by obtain ⟨q0, qP, qE⟩ := q; exact ⟨q0, qP, cE.same (s := U) rfl qE⟩, va_recv hK hP (ci := 3) (q0 := 0) rfl rfl, fun U hU hW => ⟨rfl, by rw [hU]; exact hP, hE.warm hW⟩⟩ rfl rfl hls rfl (lv_room hrs) hdg ⟨by show cells + 0 ≤ 600130; omega, by show slots + 0 ≤ 7301080; omega⟩)) (fun r h => ?_)
  subst h
  exact kk
set_option maxHeartbeats 4000000 in
set_option maxRecDepth 100000 in
theorem l_high (C : LC p s m c b L xs dC dI cI cR) (w : CW dC dI cI cR s x rw j a1 a2 a3 y b1 b2 b3 ξ σ η rows H locs) {i : Nat} (hi : i < rows.length) (hq : mOK (S_X1_highestThrow (rw_ rows i).2)) (hcs : cells ≤ 50 ∧ slots ≤ 1893) (hls : ls.size = 11) (hrs : (rest.map fun v => v.category).sum ≤ 8) (hdg : decode cL_law pc = .ok (.invokevirtual 84, 3)) (kk : W p l e room_1 s m #[Value.ref b] below meth c H locs cells slots Q (F0 m (pc + 3) ls (.double (S_X3_high ξ σ η rows i) :: rest))) : W p l e room_1 s m #[Value.ref b] below meth c H locs cells slots Q (F0 m pc ls (.int (nI i) :: .ref x :: rest)) := by
  obtain ⟨hx, hb, hml, hown, hts, hX, hbl, hE⟩ := C
  obtain ⟨hP, hD, hS, hCI⟩ := w
  have hK := hE.1
  refine vp_callSd (va_Run.run (va_runV (As := [.int (nI i)]) (rest := rest) ⟨hx, hb, hml, hown, hts⟩ (c_X3_high l dC dI cI cR x rw j a1 a2 a3 y b1 b2 b3 ξ σ η rows hCI i hi hq) (cwV 1 hts gL_law_X3_high rfl rfl rfl (by decide +kernel) ⟨Nat.le_of_ble_eq_true rfl, Nat.le_of_ble_eq_true rfl⟩) ⟨fun a U g mk q => by obtain ⟨q0, qP, qE⟩ := q; exact ⟨q0, qP, cE.same (s := U) rfl qE⟩, va_recv hK hP (ci := 3) (q0 := 0) rfl rfl, fun U hU hW => ⟨rfl, by rw [hU]; exact hP, hE.warm hW⟩⟩ rfl rfl hls rfl (lv_room hrs) hdg ⟨by show cells + 0 ≤ 600130; omega, by show slots + 0 ≤ 7301080; omega⟩)) (fun r h => ?_)
  subst h
  exact kk
set_option maxHeartbeats 4000000 in
set_option maxRecDepth 100000 in
theorem l_alike (C : LC p s m c b L xs dC dI cI cR) (w : CW dC dI cI cR s x rw j a1 a2 a3 y b1 b2 b3 ξ σ η rows H locs) {i q : Nat} (hi : i < rows.length) (hj : q < rows.length) (hcs : cells ≤ 50 ∧ slots ≤ 1893) (hls : ls.size = 11) (hrs : (rest.map fun v => v.category).sum ≤ 8) (hdg : decode cL_law pc = .ok (.invokevirtual 81, 3)) (kk : W p l e room_1 s m #[Value.ref b] below meth c H locs cells slots Q (F0 m (pc + 3) ls (.int (S_X3_alike ξ σ η rows i q) :: rest))) : W p l e room_1 s m #[Value.ref b] below meth c H locs cells slots Q (F0 m pc ls (.int (nI q) :: .int (nI i) :: .ref x :: rest)) := by
  obtain ⟨hx, hb, hml, hown, hts, hX, hbl, hE⟩ := C
  obtain ⟨hP, hD, hS, hCI⟩ := w
  have hK := hE.1
  refine vp_callSi (va_Run.run (va_runV (As := [.int (nI i), .int (nI q)]) (rest := rest) ⟨hx, hb, hml, hown, hts⟩ (c_X3_alike l dC dI cI cR x rw j a1 a2 a3 y b1 b2 b3 ξ σ η rows hCI i q hi hj) (cwV 2 hts gL_law_X3_alike rfl rfl rfl (by decide +kernel) ⟨Nat.le_of_ble_eq_true rfl, Nat.le_of_ble_eq_true rfl⟩) ⟨fun a U g mk q => by obtain ⟨q0, qP, qE⟩ := q; exact ⟨q0, qP, cE.same (s := U) rfl qE⟩, va_recv hK hP (ci := 3) (q0 := 0) rfl rfl, fun U hU hW => ⟨rfl, by rw [hU]; exact hP, hE.warm hW⟩⟩ rfl rfl hls rfl (lv_room hrs) hdg ⟨by show cells + 0 ≤ 600130; omega, by show slots + 0 ≤ 7301080; omega⟩)) (fun r h => ?_)
  subst h
  exact kk
set_option maxHeartbeats 4000000 in
set_option maxRecDepth 100000 in
theorem l_count (C : LC p s m c b L xs dC dI cI cR) (w : CW dC dI cI cR s x rw j a1 a2 a3 y b1 b2 b3 ξ σ η rows H locs)  (hcs : cells ≤ 50 ∧ slots ≤ 1893) (hls : ls.size = 11) (hrs : (rest.map fun v => v.category).sum ≤ 8) (hdg : decode cL_law pc = .ok (.invokevirtual 88, 3)) (kk : W p l e room_1 s m #[Value.ref b] below meth c H locs cells slots Q (F0 m (pc + 3) ls (.int (S_X3_count ξ σ η rows) :: rest))) : W p l e room_1 s m #[Value.ref b] below meth c H locs cells slots Q (F0 m pc ls (.int 2 :: .int 3 :: .ref x :: rest)) := by
  obtain ⟨hx, hb, hml, hown, hts, hX, hbl, hE⟩ := C
  obtain ⟨hP, hD, hS, hCI⟩ := w
  have hK := hE.1
  refine vp_callSi (va_Run.run (va_runV (As := [.int 3, .int 2]) (rest := rest) ⟨hx, hb, hml, hown, hts⟩ (c_X3_count l dC dI cI cR x rw j a1 a2 a3 y b1 b2 b3 ξ σ η rows hCI ) (cwV 2 hts gL_law_X3_count rfl rfl rfl (by decide +kernel) ⟨Nat.le_of_ble_eq_true rfl, Nat.le_of_ble_eq_true rfl⟩) ⟨fun a U g mk q => by obtain ⟨q0, qP, qE⟩ := q; exact ⟨q0, qP, cE.same (s := U) rfl qE⟩, va_recv hK hP (ci := 3) (q0 := 0) rfl rfl, fun U hU hW => ⟨rfl, by rw [hU]; exact hP, hE.warm hW⟩⟩ rfl rfl hls rfl (lv_room hrs) hdg ⟨by show cells + 0 ≤ 600130; omega, by show slots + 0 ≤ 7301080; omega⟩)) (fun r h => ?_)
  subst h
  exact kk
set_option maxHeartbeats 4000000 in
set_option maxRecDepth 100000 in
theorem l_take (C : LC p s m c b L xs dC dI cI cR) (w : CW dC dI cI cR s x rw j a1 a2 a3 y b1 b2 b3 ξ σ η rows H locs) {p0 : Int32} (hw : S_X3_isWithin p0 1 6 = 1) (hcs : cells ≤ 50 ∧ slots ≤ 1893) (hls : ls.size = 11) (hrs : (rest.map fun v => v.category).sum ≤ 8) (hdg : decode cL_law pc = .ok (.invokevirtual 45, 3)) (kk : ∀ (H1 : Heap) (locs1 : List Loc), CW dC dI cI cR s x rw j a1 a2 a3 y b1 b2 b3 ξ (S_X3_take ξ σ η rows p0).2 η rows H1 locs1 → W p l e room_1 s m #[Value.ref b] below meth c H1 locs1 cells slots Q (F0 m (pc + 3) ls (.int (S_X3_take ξ σ η rows p0).1 :: rest))) : W p l e room_1 s m #[Value.ref b] below meth c H locs cells slots Q (F0 m pc ls (.int p0 :: .ref x :: rest)) := by
  obtain ⟨hx, hb, hml, hown, hts, hX, hbl, hE⟩ := C
  obtain ⟨hP, hD, hS, hCI⟩ := w
  have hK := hE.1
  have hFc := p_freeT hD hS (fun q h => Or.inr h)
  refine va_calli (va_runV (As := [.int p0]) (rest := rest) ⟨hx, hb, hml, hown, hts⟩ (c_X3_take l dC dI cI cR _ x rw j a1 a2 a3 y b1 b2 b3 ξ σ η rows hCI p0 hw) (cwV 1 hts gL_law_X3_take rfl rfl rfl (by decide +kernel) ⟨Nat.le_of_ble_eq_true rfl, Nat.le_of_ble_eq_true rfl⟩) ⟨fun a U g mk q => by obtain ⟨q0, q1, qP, qE, qD⟩ := q; exact ⟨q0, q1, qP, cE.same (s := U) rfl qE, qD⟩, va_recv hK hP (ci := 3) (q0 := 0) rfl rfl, fun U hU hW => ⟨rfl, by rw [hU], by rw [hU]; exact hP, hE.warm hW, hD.weaken (fun _ _ _ _ => trivial)⟩⟩ rfl rfl hls rfl (lv_room hrs) hdg ⟨by show cells + 0 ≤ 600130; omega, by show slots + 0 ≤ 7301080; omega⟩) hS (fun q _ h => hFc q h) hFc (fun r u t H1 locs1 ht hvm hr9 hB hz1 hk1 hS1 => ?_)
  obtain ⟨hP1, -, hD1⟩ := hB
  rw [ht] at hP1
  subst hr9
  exact kk H1 locs1 ⟨hP1, hD1.weaken (fun _ q _ h => hFc q.1 h), hS1, hCI⟩
set_option maxHeartbeats 4000000 in
set_option maxRecDepth 100000 in
theorem l_toss (C : LC p s m c b L xs dC dI cI cR) (w : CW dC dI cI cR s x rw j a1 a2 a3 y b1 b2 b3 ξ σ η rows H locs) {p0 : Int32} (hw : S_X3_isThrow p0 = 1) (hT : tOK σ.2.2.2.2.2.2.2 p0) (hcs : cells ≤ 50 ∧ slots ≤ 1893) (hls : ls.size = 11) (hrs : (rest.map fun v => v.category).sum ≤ 8) (hdg : decode cL_law pc = .ok (.invokevirtual 55, 3)) (kk : ∀ (H1 : Heap) (locs1 : List Loc), CW dC dI cI cR s x rw j a1 a2 a3 y b1 b2 b3 ξ (S_X3_toss ξ σ η rows p0).2 η rows H1 locs1 → W p l e room_1 s m #[Value.ref b] below meth c H1 locs1 cells slots Q (F0 m (pc + 3) ls (.int (S_X3_toss ξ σ η rows p0).1 :: rest))) : W p l e room_1 s m #[Value.ref b] below meth c H locs cells slots Q (F0 m pc ls (.int p0 :: .ref x :: rest)) := by
  obtain ⟨hx, hb, hml, hown, hts, hX, hbl, hE⟩ := C
  obtain ⟨hP, hD, hS, hCI⟩ := w
  have hK := hE.1
  have hFc := p_freeT hD hS (fun q h => Or.inr h)
  refine va_calli (va_runV (As := [.int p0]) (rest := rest) ⟨hx, hb, hml, hown, hts⟩ (c_X3_toss l dC dI cI cR _ x rw j a1 a2 a3 y b1 b2 b3 ξ σ η rows hCI p0 hw hT) (cwV 1 hts gL_law_X3_toss rfl rfl rfl (by decide +kernel) ⟨Nat.le_of_ble_eq_true rfl, Nat.le_of_ble_eq_true rfl⟩) ⟨fun a U g mk q => by obtain ⟨q0, q1, qP, qE, qD⟩ := q; exact ⟨q0, q1, qP, cE.same (s := U) rfl qE, qD⟩, va_recv hK hP (ci := 3) (q0 := 0) rfl rfl, fun U hU hW => ⟨rfl, by rw [hU], by rw [hU]; exact hP, hE.warm hW, hD.weaken (fun _ _ _ _ => trivial)⟩⟩ rfl rfl hls rfl (lv_room hrs) hdg ⟨by show cells + 0 ≤ 600130; omega, by show slots + 0 ≤ 7301080; omega⟩) hS (fun q _ h => hFc q h) hFc (fun r u t H1 locs1 ht hvm hr9 hB hz1 hk1 hS1 => ?_)
  obtain ⟨hP1, -, hD1⟩ := hB
  rw [ht] at hP1
  subst hr9
  exact kk H1 locs1 ⟨hP1, hD1.weaken (fun _ q _ h => hFc q.1 h), hS1, hCI⟩
set_option maxHeartbeats 4000000 in
set_option maxRecDepth 100000 in
theorem l_pick (C : LC p s m c b L xs dC dI cI cR) (w : CW dC dI cI cR s x rw j a1 a2 a3 y b1 b2 b3 ξ σ η rows H locs)  (hcs : cells ≤ 50 ∧ slots ≤ 1893) (hls : ls.size = 11) (hrs : (rest.map fun v => v.category).sum ≤ 8) (hdg : decode cL_law pc = .ok (.invokevirtual 67, 3)) (kk : ∀ (H1 : Heap) (locs1 : List Loc), CW dC dI cI cR s x rw j a1 a2 a3 y b1 b2 b3 ξ (S_X3_pick ξ σ η rows).2 η rows H1 locs1 → W p l e room_1 s m #[Value.ref b] below meth c H1 locs1 cells slots Q (F0 m (pc + 3) ls (.int (S_X3_pick ξ σ η rows).1 :: rest))) : W p l e room_1 s m #[Value.ref b] below meth c H locs cells slots Q (F0 m pc ls (.ref x :: rest)) := by
  obtain ⟨hx, hb, hml, hown, hts, hX, hbl, hE⟩ := C
  obtain ⟨hP, hD, hS, hCI⟩ := w
  have hK := hE.1
  have hFc := p_freeT hD hS (fun q h => Or.inr h)
  refine va_calli (va_runV (As := []) (rest := rest) ⟨hx, hb, hml, hown, hts⟩ (c_X3_pick l dC dI cI cR _ x rw j a1 a2 a3 y b1 b2 b3 ξ σ η rows hCI ) (cwV 0 hts gL_law_X3_pick rfl rfl rfl (by decide +kernel) ⟨Nat.le_of_ble_eq_true rfl, Nat.le_of_ble_eq_true rfl⟩) ⟨fun a U g mk q => by obtain ⟨q0, q1, qP, qE, qD⟩ := q; exact ⟨q0, q1, qP, cE.same (s := U) rfl qE, qD⟩, va_recv hK hP (ci := 3) (q0 := 0) rfl rfl, fun U hU hW => ⟨rfl, by rw [hU], by rw [hU]; exact hP, hE.warm hW, hD.weaken (fun _ _ _ _ => trivial)⟩⟩ rfl rfl hls rfl (lv_room hrs) hdg ⟨by show cells + 0 ≤ 600130; omega, by show slots + 0 ≤ 7301080; omega⟩) hS (fun q _ h => hFc q h) hFc (fun r u t H1 locs1 ht hvm hr9 hB hz1 hk1 hS1 => ?_)
  obtain ⟨hP1, -, hD1⟩ := hB
  rw [ht] at hP1
  subst hr9
  exact kk H1 locs1 ⟨hP1, hD1.weaken (fun _ q _ h => hFc q.1 h), hS1, hCI⟩
set_option maxHeartbeats 4000000 in
set_option maxRecDepth 100000 in
theorem l_way (C : LC p s m c b L xs dC dI cI cR) (w : CW dC dI cI cR s x rw j a1 a2 a3 y b1 b2 b3 ξ σ η rows H locs) {i : Nat} (hi : i < rows.length) (hcs : cells ≤ 50 ∧ slots ≤ 1893) (hls : ls.size = 11) (hrs : (rest.map fun v => v.category).sum ≤ 8) (hdg : decode cL_law pc = .ok (.invokevirtual 75, 3)) (kk : ∀ (H1 : Heap) (locs1 : List Loc), CW dC dI cI cR s x rw j a1 a2 a3 y b1 b2 b3 ξ σ (S_X3_way ξ σ η rows i).2 rows H1 locs1 → W p l e room_1 s m #[Value.ref b] below meth c H1 locs1 cells slots Q (F0 m (pc + 3) ls (.int (S_X3_way ξ σ η rows i).1 :: rest))) : W p l e room_1 s m #[Value.ref b] below meth c H locs cells slots Q (F0 m pc ls (.int (nI i) :: .ref x :: rest)) := by
  obtain ⟨hx, hb, hml, hown, hts, hX, hbl, hE⟩ := C
  obtain ⟨hP, hD, hS, hCI⟩ := w
  have hK := hE.1
  have hFc := p_freeT hD hS (fun q h => Or.inr h)
  refine va_calli (va_runV (As := [.int (nI i)]) (rest := rest) ⟨hx, hb, hml, hown, hts⟩ (c_X3_way l dC dI cI cR _ x rw j a1 a2 a3 y b1 b2 b3 ξ σ η rows hCI i hi) (cwV 1 hts gL_law_X3_way rfl rfl rfl (by decide +kernel) ⟨Nat.le_of_ble_eq_true rfl, Nat.le_of_ble_eq_true rfl⟩) ⟨fun a U g mk q => by obtain ⟨q0, q1, qP, qE, qD⟩ := q; exact ⟨q0, q1, qP, cE.same (s := U) rfl qE, qD⟩, va_recv hK hP (ci := 3) (q0 := 0) rfl rfl, fun U hU hW => ⟨rfl, by rw [hU], by rw [hU]; exact hP, hE.warm hW, hD.weaken (fun _ _ _ _ => trivial)⟩⟩ rfl rfl hls rfl (lv_room hrs) hdg ⟨by show cells + 0 ≤ 600130; omega, by show slots + 0 ≤ 7301080; omega⟩) hS (fun q _ h => hFc q h) hFc (fun r u t H1 locs1 ht hvm hr9 hB hz1 hk1 hS1 => ?_)
  obtain ⟨hP1, -, hD1⟩ := hB
  rw [ht] at hP1
  subst hr9
  exact kk H1 locs1 ⟨hP1, hD1.weaken (fun _ q _ h => hFc q.1 h), hS1, hCI⟩
set_option maxHeartbeats 4000000 in
set_option maxRecDepth 100000 in
theorem l_first (C : LC p s m c b L xs dC dI cI cR) (w : CW dC dI cI cR s x rw j a1 a2 a3 y b1 b2 b3 ξ σ η rows H locs) {i : Nat} (hi : i < rows.length) (hcs : cells ≤ 50 ∧ slots ≤ 1893) (hls : ls.size = 11) (hrs : (rest.map fun v => v.category).sum ≤ 8) (hdg : decode cL_law pc = .ok (.invokevirtual 78, 3)) (kk : ∀ (H1 : Heap) (locs1 : List Loc), CW dC dI cI cR s x rw j a1 a2 a3 y b1 b2 b3 ξ σ (S_X3_first ξ σ η rows i).2 rows H1 locs1 → W p l e room_1 s m #[Value.ref b] below meth c H1 locs1 cells slots Q (F0 m (pc + 3) ls (.int (S_X3_first ξ σ η rows i).1 :: rest))) : W p l e room_1 s m #[Value.ref b] below meth c H locs cells slots Q (F0 m pc ls (.int (nI i) :: .ref x :: rest)) := by
  obtain ⟨hx, hb, hml, hown, hts, hX, hbl, hE⟩ := C
  obtain ⟨hP, hD, hS, hCI⟩ := w
  have hK := hE.1
  have hFc := p_freeT hD hS (fun q h => Or.inr h)
  refine va_calli (va_runV (As := [.int (nI i)]) (rest := rest) ⟨hx, hb, hml, hown, hts⟩ (c_X3_first l dC dI cI cR _ x rw j a1 a2 a3 y b1 b2 b3 ξ σ η rows hCI i hi) (cwV 1 hts gL_law_X3_first rfl rfl rfl (by decide +kernel) ⟨Nat.le_of_ble_eq_true rfl, Nat.le_of_ble_eq_true rfl⟩) ⟨fun a U g mk q => by obtain ⟨q0, q1, qP, qE, qD⟩ := q; exact ⟨q0, q1, qP, cE.same (s := U) rfl qE, qD⟩, va_recv hK hP (ci := 3) (q0 := 0) rfl rfl, fun U hU hW => ⟨rfl, by rw [hU], by rw [hU]; exact hP, hE.warm hW, hD.weaken (fun _ _ _ _ => trivial)⟩⟩ rfl rfl hls rfl (lv_room hrs) hdg ⟨by show cells + 0 ≤ 600130; omega, by show slots + 0 ≤ 7301080; omega⟩) hS (fun q _ h => hFc q h) hFc (fun r u t H1 locs1 ht hvm hr9 hB hz1 hk1 hS1 => ?_)
  obtain ⟨hP1, -, hD1⟩ := hB
  rw [ht] at hP1
  subst hr9
  exact kk H1 locs1 ⟨hP1, hD1.weaken (fun _ q _ h => hFc q.1 h), hS1, hCI⟩
set_option maxHeartbeats 4000000 in
set_option maxRecDepth 100000 in
theorem l_digest (C : LC p s m c b L xs dC dI cI cR) (w : CW dC dI cI cR s x rw j a1 a2 a3 y b1 b2 b3 ξ σ η rows H locs) (hn158 : vf_n64 (FP.dmul 4620693217682128896 (S_X0_tiredness σ))) (hcs : cells ≤ 50 ∧ slots ≤ 1893) (hls : ls.size = 11) (hrs : (rest.map fun v => v.category).sum ≤ 8) (hdg : decode cL_law pc = .ok (.invokevirtual 71, 3)) (kk : ∀ (H1 : Heap) (locs1 : List Loc), CW dC dI cI cR s x rw j a1 a2 a3 y b1 b2 b3 ξ σ (S_X3_digest ξ σ η rows).2 rows H1 locs1 → W p l e room_1 s m #[Value.ref b] below meth c H1 locs1 cells slots Q (F0 m (pc + 3) ls (.long (S_X3_digest ξ σ η rows).1 :: rest))) : W p l e room_1 s m #[Value.ref b] below meth c H locs cells slots Q (F0 m pc ls (.ref x :: rest)) := by
  obtain ⟨hx, hb, hml, hown, hts, hX, hbl, hE⟩ := C
  obtain ⟨hP, hD, hS, hCI⟩ := w
  have hK := hE.1
  have hFc := p_freeT hD hS (fun q h => Or.inr h)
  refine va_calll (va_runV (As := []) (rest := rest) ⟨hx, hb, hml, hown, hts⟩ (c_X3_digest l dC dI cI cR _ x rw j a1 a2 a3 y b1 b2 b3 ξ σ η rows hCI hn158) (cwV 0 hts gL_law_X3_digest rfl rfl rfl (by decide +kernel) ⟨Nat.le_of_ble_eq_true rfl, Nat.le_of_ble_eq_true rfl⟩) ⟨fun a U g mk q => by obtain ⟨q0, q1, qP, qE, qD⟩ := q; exact ⟨q0, q1, qP, cE.same (s := U) rfl qE, qD⟩, va_recv hK hP (ci := 3) (q0 := 0) rfl rfl, fun U hU hW => ⟨rfl, by rw [hU], by rw [hU]; exact hP, hE.warm hW, hD.weaken (fun _ _ _ _ => trivial)⟩⟩ rfl rfl hls rfl (lv_room hrs) hdg ⟨by show cells + 0 ≤ 600130; omega, by show slots + 0 ≤ 7301080; omega⟩) hS (fun q _ h => hFc q h) hFc (fun r u t H1 locs1 ht hvm hr9 hB hz1 hk1 hS1 => ?_)
  obtain ⟨hP1, -, hD1⟩ := hB
  rw [ht] at hP1
  subst hr9
  exact kk H1 locs1 ⟨hP1, hD1.weaken (fun _ q _ h => hFc q.1 h), hS1, hCI⟩
set_option maxHeartbeats 4000000 in
set_option maxRecDepth 100000 in
theorem l_isShared (C : LC p s m c b L xs dC dI cI cR) (w : CW dC dI cI cR s x rw j a1 a2 a3 y b1 b2 b3 ξ σ η rows H locs) {i : Nat} (hi : i < rows.length) (hS9 : ∀ k, k < (S_X3_ofRow ξ σ η rows 0 i).toNatClampNeg → S_X1_hasSite (rw_ rows i).2 (nI k) = 1) (hd : ¬ S_X3_ofRow ξ σ η rows 8 i = 0) (hcs : cells ≤ 50 ∧ slots ≤ 1893) (hls : ls.size = 11) (hrs : (rest.map fun v => v.category).sum ≤ 8) (hdg : decode cL_law pc = .ok (.invokestatic 41, 3)) (kk : W p l e room_1 s m #[Value.ref b] below meth c H locs cells slots Q (F0 m (pc + 3) ls (.int (S_L_isShared ξ σ η rows i) :: rest))) : W p l e room_1 s m #[Value.ref b] below meth c H locs cells slots Q (F0 m pc ls (.int (nI i) :: .ref x :: rest)) := by
  obtain ⟨hx, hb, hml, hown, hts, hX, hbl, hE⟩ := C
  obtain ⟨hP, hD, hS, hCI⟩ := w
  refine vp_callSi (va_Run.run (va_runS (As := [.ref x, .int (nI i)]) (rest := rest) ⟨hx, hb, hml, hown, hts⟩ (c_L_isShared l dC dI cI cR x rw j a1 a2 a3 y b1 b2 b3 ξ σ η rows hCI i hi hS9 hd) (va_cwS 2 hts gL_law_L_isShared rfl rfl rfl (by decide +kernel) ⟨Nat.le_of_ble_eq_true rfl, Nat.le_of_ble_eq_true rfl⟩) ⟨fun a U g mk q => by obtain ⟨q0, qP, qE⟩ := q; exact ⟨q0, qP, cE.same (s := U) rfl qE⟩, fun U hU hW => ⟨rfl, by rw [hU]; exact hP, hE.warm hW⟩⟩ rfl rfl hls rfl (lv_room hrs) hdg ⟨by show cells + 0 ≤ 600130; omega, by show slots + 0 ≤ 7301080; omega⟩)) (fun r h => ?_)
  obtain ⟨rfl, -⟩ := h
  exact kk
set_option maxHeartbeats 4000000 in
set_option maxRecDepth 100000 in
theorem l_cell (C : LC p s m c b L xs dC dI cI cR) (w : CW dC dI cI cR s x rw j a1 a2 a3 y b1 b2 b3 ξ σ η rows H locs) (hL : L < 2 ^ 31) {p1 : Int32} (h0 : ¬ p1 < 0) (hcs : cells ≤ 50 ∧ slots ≤ 1893) (hls : ls.size = 11) (hrs : (rest.map fun v => v.category).sum ≤ 8) (hdg : decode cL_law pc = .ok (.invokestatic 9, 3)) (kk : W p l e room_1 s m #[Value.ref b] below meth c H locs cells slots Q (F0 m (pc + 3) ls (.int (S_L_cell L xs p1) :: rest))) : W p l e room_1 s m #[Value.ref b] below meth c H locs cells slots Q (F0 m pc ls (.int p1 :: .ref b :: rest)) := by
  obtain ⟨hx, hb, hml, hown, hts, hX, hbl, hE⟩ := C
  obtain ⟨hP, hD, hS, hCI⟩ := w
  refine vp_callSi (va_Run.run (va_runS (As := [.ref b, .int p1]) (rest := rest) ⟨hx, hb, hml, hown, hts⟩ (c_L_cellX l b L xs hL p1 h0) (va_cwS 2 hts gL_law_L_cell rfl rfl rfl (by decide +kernel) ⟨Nat.le_of_ble_eq_true rfl, Nat.le_of_ble_eq_true rfl⟩) ⟨fun a U g mk q => by obtain ⟨q0, qX, qL⟩ := q; exact ⟨q0, va_X.same (u := U) rfl qX, qL⟩, fun U hU hW => ⟨rfl, by rw [hU]; exact (hX.kept (hS.2.1 b hbl (va_nA hbl))).moved hW.alike, by rw [hU]; exact Nat.lt_of_lt_of_le hbl hS.1⟩⟩ rfl rfl hls rfl (lv_room hrs) hdg ⟨by show cells + 0 ≤ 600130; omega, by show slots + 0 ≤ 7301080; omega⟩)) (fun r h => ?_)
  subst h
  exact kk
set_option maxHeartbeats 4000000 in
set_option maxRecDepth 100000 in
theorem l_below (C : LC p s m c b L xs dC dI cI cR) {p0 p1 : Int32} (hn : ¬ p1 = 0) (hcs : cells ≤ 50 ∧ slots ≤ 1893) (hls : ls.size = 11) (hrs : (rest.map fun v => v.category).sum ≤ 8) (hdg : decode cL_law pc = .ok (.invokestatic 15, 3)) (kk : W p l e room_1 s m #[Value.ref b] below meth c H locs cells slots Q (F0 m (pc + 3) ls (.int (S_L_below p0 p1) :: rest))) : W p l e room_1 s m #[Value.ref b] below meth c H locs cells slots Q (F0 m pc ls (.int p1 :: .int p0 :: rest)) := by
  obtain ⟨hx, hb, hml, hown, hts, hX, hbl, hE⟩ := C
  refine vp_callSi (va_Run.run (va_runS (As := [.int p0, .int p1]) (rest := rest) ⟨hx, hb, hml, hown, hts⟩ (c_L_below l p0 p1 hn) (va_cwS 2 hts gL_law_L_below rfl rfl rfl (by decide +kernel) ⟨Nat.le_of_ble_eq_true rfl, Nat.le_of_ble_eq_true rfl⟩) ⟨fun a U g mk q => q, fun U hU hW => ⟨rfl, trivial⟩⟩ rfl rfl hls rfl (lv_room hrs) hdg ⟨by show cells + 0 ≤ 600130; omega, by show slots + 0 ≤ 7301080; omega⟩)) (fun r h => ?_)
  subst h
  exact kk
set_option maxHeartbeats 4000000 in
set_option maxRecDepth 100000 in
theorem l_bits (C : LC p s m c b L xs dC dI cI cR) {p0 : Int32} (hcs : cells ≤ 50 ∧ slots ≤ 1893) (hls : ls.size = 11) (hrs : (rest.map fun v => v.category).sum ≤ 8) (hdg : decode cL_law pc = .ok (.invokestatic 58, 3)) (kk : W p l e room_1 s m #[Value.ref b] below meth c H locs cells slots Q (F0 m (pc + 3) ls (.int (S_J6_bitCount_0f7a4 p0) :: rest))) : W p l e room_1 s m #[Value.ref b] below meth c H locs cells slots Q (F0 m pc ls (.int p0 :: rest)) := by
  obtain ⟨hx, hb, hml, hown, hts, hX, hbl, hE⟩ := C
  refine vp_callSi (va_Run.run (va_runS (As := [.int p0]) (rest := rest) ⟨hx, hb, hml, hown, hts⟩ (c_J6_bitCount_0f7a4 l p0) (va_cwS 1 hts gL_law_J6_bitCount_0f7a4 rfl rfl rfl (by decide +kernel) ⟨Nat.le_of_ble_eq_true rfl, Nat.le_of_ble_eq_true rfl⟩) ⟨fun a U g mk q => q, fun U hU hW => ⟨rfl, trivial⟩⟩ rfl rfl hls rfl (lv_room hrs) hdg ⟨by show cells + 0 ≤ 600130; omega, by show slots + 0 ≤ 7301080; omega⟩)) (fun r h => ?_)
  subst h
  exact kk
set_option maxHeartbeats 4000000 in
set_option maxRecDepth 100000 in
theorem l_row (C : LC p s m c b L xs dC dI cI cR) (w : CW dC dI cI cR s x rw j a1 a2 a3 y b1 b2 b3 ξ σ η rows H locs) (hL : L < 2 ^ 31) {r : Nat} (hr9 : r < 1000) (hcs : cells ≤ 50 ∧ slots ≤ 1893) (hls : ls.size = 11) (hrs : (rest.map fun v => v.category).sum ≤ 8) (hdg : decode cL_law pc = .ok (.invokestatic 27, 3)) (kk : ∀ (d : Nat) (f : Nat → Int32) (q : Nat) (H1 : Heap) (locs1 : List Loc), 1 ≤ d → d ≤ 8 → PG f d → va_P (dC, dI) vwCl [(q, .inl (cI, d, .inl f))] H1 → CW dC dI cI cR s x rw j a1 a2 a3 y b1 b2 b3 ξ σ η rows H1 locs1 → W p l e room_1 s m #[Value.ref b] below meth c H1 locs1 (cells + 2) (slots + 16) Q (F0 m (pc + 3) ls (.ref q :: rest))) : W p l e room_1 s m #[Value.ref b] below meth c H locs cells slots Q (F0 m pc ls (.int (nI r) :: .ref b :: rest)) := by
  obtain ⟨hx, hb, hml, hown, hts, hX, hbl, hE⟩ := C
  obtain ⟨hP, hD, hS, hCI⟩ := w
  refine va_callr (va_runS (As := [.ref b, .int (nI r)]) (rest := rest) ⟨hx, hb, hml, hown, hts⟩ (c_L_row l dC dI cI cR H.size b L xs hL r hr9) (va_cwS 2 hts gL_law_L_row rfl rfl rfl (by decide +kernel) ⟨Nat.le_of_ble_eq_true rfl, Nat.le_of_ble_eq_true rfl⟩) ⟨fun a U g mk q => by obtain ⟨q0, q1, qX, qL, qE⟩ := q; exact ⟨q0, q1, va_X.same (u := U) rfl qX, qL, cE.same (s := U) rfl qE⟩, fun U hU hW => ⟨rfl, by rw [hU], by rw [hU]; exact (hX.kept (hS.2.1 b hbl (va_nA hbl))).moved hW.alike, by rw [hU]; exact Nat.lt_of_lt_of_le hbl hS.1, hE.warm hW⟩⟩ rfl rfl hls rfl (lv_room hrs) hdg ⟨by show cells + 2 ≤ 600130; omega, by show slots + 16 ≤ 7301080; omega⟩) hS (fun q h1 h2 => absurd h2 (va_nA h1)) (fun q h => h.elim (fun ⟨k, z, h2⟩ => by simp at h2) (fun h2 => Or.inr (Nat.le_trans hS.1 h2))) (fun u q t H1 locs1 ht hvm hu hB hz1 hk1 hS1 => ?_)
  obtain ⟨hP1, hD1⟩ := hB
  rw [ht] at hP1
  exact kk u.1 u.2 q H1 locs1 hu.1 hu.2.1 hu.2.2 hP1 ⟨hP.kept (fun k z hz => hk1 z.1 ((hP k z hz).lt) (va_nA ((hP k z hz).lt))), hD, hS1, hCI⟩
set_option maxHeartbeats 4000000 in
set_option maxRecDepth 100000 in
theorem l_number (C : LC p s m c b L xs dC dI cI cR) {q d : Nat} {f : Nat → Int32} (hd : d < 2 ^ 31) (hP : va_P (dC, dI) vwCl [(q, .inl (cI, d, .inl f))] H) (hcs : cells ≤ 50 ∧ slots ≤ 1893) (hls : ls.size = 11) (hrs : (rest.map fun v => v.category).sum ≤ 8) (hdg : decode cL_law pc = .ok (.invokestatic 31, 3)) (kk : W p l e room_1 s m #[Value.ref b] below meth c H locs cells slots Q (F0 m (pc + 3) ls (.int (S_L_number d f) :: rest))) : W p l e room_1 s m #[Value.ref b] below meth c H locs cells slots Q (F0 m pc ls (.ref q :: rest)) := by
  obtain ⟨hx, hb, hml, hown, hts, hX, hbl, hE⟩ := C
  refine vp_callSi (va_Run.run (va_runS (As := [.ref q]) (rest := rest) ⟨hx, hb, hml, hown, hts⟩ (c_L_number l dC dI cI cR q d f hd) (va_cwS 1 hts gL_law_L_number rfl rfl rfl (by decide +kernel) ⟨Nat.le_of_ble_eq_true rfl, Nat.le_of_ble_eq_true rfl⟩) ⟨fun a U g mk q => by obtain ⟨q0, qP, qE⟩ := q; exact ⟨q0, qP, cE.same (s := U) rfl qE⟩, fun U hU hW => ⟨rfl, by rw [hU]; exact hP, hE.warm hW⟩⟩ rfl rfl hls rfl (lv_room hrs) hdg ⟨by show cells + 0 ≤ 600130; omega, by show slots + 0 ≤ 7301080; omega⟩)) (fun r h => ?_)
  subst h
  exact kk
set_option maxHeartbeats 4000000 in
set_option maxRecDepth 100000 in
theorem l_tell (C : LC p s m c b L xs dC dI cI cR) (w : CW dC dI cI cR s x rw j a1 a2 a3 y b1 b2 b3 ξ σ η rows H locs) {p0 : Int32} {sl : Nat} (hi : 1 ≤ sl ∧ sl ≤ 8) (h0 : ¬ p0 < 0) (hw : S_X3_isWithin (nI sl) 1 8 = 1) (hlt : p0 < S_X3_firstNumberLongerThan (nI sl)) (h7 : rows.length ≤ 7) (hw2 : S_X3_isWithin ξ.2 0 (8 - 1) = 1) (hRI : p_RI (S_X1_init p0 sl)) (hcs : cells ≤ 50 ∧ slots ≤ 1893) (hls : ls.size = 11) (hrs : (rest.map fun v => v.category).sum ≤ 8) (hdg : decode cL_law pc = .ok (.invokevirtual 35, 3)) (kk : ∀ (u : Nat × Nat × Nat × Nat × Nat × Nat) (H1 : Heap) (locs1 : List Loc), CW dC dI cI cR s x rw j a1 a2 a3 y b1 b2 b3 (va_up ξ.1 ξ.2.toNatClampNeg (some u.1), ξ.2 + 1) σ η (rows ++ [(u, S_X1_init p0 sl)]) H1 locs1 → W p l e room_1 s m #[Value.ref b] below meth c H1 locs1 (cells + 6) (slots + 47) Q (F0 m (pc + 3) ls (.int ξ.2 :: rest))) : W p l e room_1 s m #[Value.ref b] below meth c H locs cells slots Q (F0 m pc ls (.int (nI sl) :: .int p0 :: .ref x :: rest)) := by
  obtain ⟨hx, hb, hml, hown, hts, hX, hbl, hE⟩ := C
  obtain ⟨hP, hD, hS, hCI⟩ := w
  have hK := hE.1
  have hFc := p_freeT hD hS (fun q h => Or.inr h)
  refine va_calli (va_runV (As := [.int p0, .int (nI sl)]) (rest := rest) ⟨hx, hb, hml, hown, hts⟩ (c_X3_tell l dC dI cI cR _ x rw j a1 a2 a3 y b1 b2 b3 ξ σ η rows hCI p0 sl hi h0 hw hlt h7 hw2) (cwV 2 hts gL_law_X3_tell rfl rfl rfl (by decide +kernel) ⟨Nat.le_of_ble_eq_true rfl, Nat.le_of_ble_eq_true rfl⟩) ⟨fun a U g mk q => by obtain ⟨q0, q1, qP, qE, qD⟩ := q; exact ⟨q0, q1, qP, cE.same (s := U) rfl qE, qD⟩, va_recv hK hP (ci := 3) (q0 := 0) rfl rfl, fun U hU hW => ⟨rfl, by rw [hU], by rw [hU]; exact hP, hE.warm hW, hD.weaken (fun _ _ _ _ => trivial)⟩⟩ rfl rfl hls rfl (lv_room hrs) hdg ⟨by show cells + 6 ≤ 600130; omega, by show slots + 47 ≤ 7301080; omega⟩) hS (fun q _ h => hFc q h) hFc (fun r u t H1 locs1 ht hvm hr9 hB hz1 hk1 hS1 => ?_)
  obtain ⟨hP1, -, hD1⟩ := hB
  rw [ht] at hP1
  subst hr9
  exact kk u H1 locs1 ⟨hP1, hD1.weaken (fun _ q _ h => hFc q.1 h), hS1, p_CI_tell (r := (u, S_X1_init p0 sl)) hCI h7 hRI⟩
end
