/-! The model: may a name go. -/
section LG
variable {h : xH} {m : Nat} {Z : Nat → Int32} {D : Int64} {A : Nat → Nat → Int32} {X : xS}
theorem x114 : xix 114 117 := ⟨by decide, by decide⟩
theorem c114 : (114 : Int32).toNatClampNeg = 114 := by decide
def mgB (X : xS) (v : Nat) : Bool := hasP X.2.1.1 (nI v) && (decide (nI (cntI X.1 (nI v)) < X.2.2.2.1) && decide (usN X.2.1.1 X.2.1.2.1 (nI v) 8 16 = 0) && decide (X.1.length + cntI X.1 (nI v) ≤ 64))
end LG
