/-! LAID BY MY PROGRAM wip/gen/p26.py: contracts, method by method -/
theorem p_sameR {D : va_G} {cl : List vw_C} {cI cR cA : ClassId} {s : State} (h : va_K D cl (cT cI cR) s) (h2 : va_K D cl (cT cI cR ++ [(cA, .object "Cascadecourt$Row")]) s) : cA = cR := by
  obtain ⟨_, _, _, _, _, a1⟩ := (h.2 1 _ rfl).2
  obtain ⟨_, _, _, _, _, a2⟩ := (h2.2 2 _ rfl).2
  exact Option.some.inj (a2.symm.trans a1)
theorem p_Pmem {D : va_G} {cl : List vw_C} {ws : va_W} {H : Heap} : va_P D cl ws H ↔ ∀ q ∈ ws, va_at D cl q H := by
  constructor
  · intro h q hq
    obtain ⟨i, hi⟩ := List.getElem?_of_mem hq
    exact h i q hi
  · intro h k q hq
    exact h q (List.mem_of_getElem? hq)
theorem p_Dnd {A : Nat → Prop} {ws : va_W} : va_D A ws ↔ ws.Pairwise (fun a b => a.1 ≠ b.1) ∧ ∀ q ∈ ws, A q.1 := by
  constructor
  · intro h
    refine ⟨List.pairwise_iff_getElem.mpr fun i j hi hj hij e => ?_, fun q hq => ?_⟩
    · have := h.1 i j _ _ (List.getElem?_eq_getElem hi) (List.getElem?_eq_getElem hj) e
      omega
    · obtain ⟨i, hi⟩ := List.getElem?_of_mem hq
      exact h.2 i q hi
  · intro h
    have key : ∀ (i j : Nat) (p q : Nat × va_E), i < j → ws[i]? = some p → ws[j]? = some q → p.1 ≠ q.1 := by
      intro i j p q hl hp hq
      obtain ⟨hi, rfl⟩ := List.getElem?_eq_some_iff.mp hp
      obtain ⟨hj, rfl⟩ := List.getElem?_eq_some_iff.mp hq
      exact List.pairwise_iff_getElem.mp h.1 i j hi hj hl
    refine ⟨fun i j p q hp hq e => ?_, fun k q hq => h.2 q (List.mem_of_getElem? hq)⟩
    rcases Nat.lt_trichotomy i j with hl | hl | hl
    · exact absurd e (key i j p q hl hp hq)
    · exact hl
    · exact absurd e.symm (key j i q p hl hq hp)
theorem p_Pperm {D : va_G} {cl : List vw_C} {w1 w2 : va_W} {H : Heap} (h : va_P D cl w1 H) (hp : w1.Perm w2) : va_P D cl w2 H := p_Pmem.mpr fun q hq => p_Pmem.mp h q (hp.mem_iff.mpr hq)
theorem p_Dperm {A : Nat → Prop} {w1 w2 : va_W} (h : va_D A w1) (hp : w1.Perm w2) : va_D A w2 := p_Dnd.mpr ⟨(List.Perm.pairwise_iff (fun {x y} (h : x.1 ≠ y.1) e => h e.symm) hp).mp (p_Dnd.mp h).1, fun q hq => (p_Dnd.mp h).2 q (hp.mem_iff.mpr hq)⟩
theorem p_pushP {D : va_G} {cl : List vw_C} {X pl c : va_W} {H : Heap} (h : va_P D cl ((X ++ pl) ++ c) H) : va_P D cl ((X ++ c) ++ pl) H := p_Pperm h (by rw [List.append_assoc, List.append_assoc]; exact List.perm_append_comm.append_left X)
theorem p_pushD {A : Nat → Prop} {X pl c : va_W} (h : va_D A ((X ++ pl) ++ c)) : va_D A ((X ++ c) ++ pl) := p_Dperm h (by rw [List.append_assoc, List.append_assoc]; exact List.perm_append_comm.append_left X)
theorem p_wRs_app (cI : ClassId) (rows : List RD) (r : RD) : wRs cI (rows ++ [r]) = wRs cI rows ++ wRd cI r := by
  unfold wRs
  rw [List.flatMap_append]
  rfl
theorem p_tellP {D : va_G} {cl : List vw_C} {cI : ClassId} {fx : va_W} {rows : List RD} {r : RD} {H : Heap} (h : va_P D cl ((fx ++ wRd cI r) ++ wRs cI rows) H) : va_P D cl (fx ++ wRs cI (rows ++ [r])) H := p_Pperm h (by rw [p_wRs_app, List.append_assoc]; exact List.perm_append_comm.append_left fx)
theorem p_tellD {A : Nat → Prop} {cI : ClassId} {fx : va_W} {rows : List RD} {r : RD} (h : va_D A ((fx ++ wRd cI r) ++ wRs cI rows)) : va_D A (fx ++ wRs cI (rows ++ [r])) := p_Dperm h (by rw [p_wRs_app, List.append_assoc]; exact List.perm_append_comm.append_left fx)
