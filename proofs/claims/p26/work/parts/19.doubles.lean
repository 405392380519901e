/-! pure facts of what the methods answer -/
theorem p_mOK_all : ∀ k : Fin 10, mOK (nI k.val) := by unfold mOK vf_n64; decide +kernel
theorem p_mOK {k : Nat} (h : k ≤ 9) : mOK (nI k) := p_mOK_all ⟨k, by omega⟩
theorem p_high_all : ∀ k : Fin 10, 0 ≤ Op.cmpValue (FP.dcmp (S_X3_metresOf (nI k.val)) FP.dconst0) CmpOp.g := by decide +kernel
theorem p_high {k : Nat} (h : k ≤ 9) : 0 ≤ Op.cmpValue (FP.dcmp (S_X3_metresOf (nI k)) FP.dconst0) CmpOp.g := p_high_all ⟨k, by omega⟩
def TT (k : Nat) : UInt64 := FP.dmul (FP.i2d (nI k)) 4593671619917905920
def tF1 (j : Nat) : Prop := (FP.dsub (TT j) 4598175219545276416 &&& 9223372036854775807 ≤ 9218868437227405312) ∧ (TT j &&& 9223372036854775807 ≤ 9218868437227405312) ∧ (FP.dmul 4620693217682128896 (TT j) &&& 9223372036854775807 ≤ 9218868437227405312) ∧ 0 ≤ Op.cmpValue (FP.dcmp (TT j) FP.dconst0) CmpOp.g ∧ (if 2 ≤ j then FP.dsub (TT j) 4598175219545276416 = TT (j - 2) else ¬ 0 ≤ Op.cmpValue (FP.dcmp (FP.dsub (TT j) 4598175219545276416) FP.dconst0) CmpOp.g)
theorem p_tF1 : ∀ j : Fin 550, tF1 j.val := by unfold tF1; decide +kernel
theorem p_tF2 : ∀ j : Fin 541, ∀ h : Fin 10, FP.dadd (TT j.val) (TT h.val) = TT (j.val + h.val) := by decide +kernel
theorem p_TT0 : TT 0 = FP.dconst0 := by decide +kernel
