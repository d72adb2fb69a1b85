/-! The model: grow, firstError, setting, set, undo. -/
section NE
variable {h : xH} {m : Nat}
theorem se_ix {s : Int32} {k : Nat} (e : s = nI k) (hk : k < 2) : (113 : Int32) + s = nI (113 + k) ∧ xix (nI (113 + k)) 117 ∧ (nI (113 + k)).toNatClampNeg = 113 + k := by
  refine ⟨?_, xix_nI (by omega) (by decide), nI_clamp (by omega)⟩
  rw [e, show (113 : Int32) = nI 113 from rfl, nI_add]
end NE
