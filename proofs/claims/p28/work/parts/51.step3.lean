/-! The model: the step walked. -/
section SR
variable {h : xH} {m : Nat} {Z : Nat → Int32} {D : Int64} {A : Nat → Nat → Int32}
def stX (X : xS) : xS := if (fdF X.1 X.2.1 X.2.2.1).2.2.2 = -1 then X else apF X (fdF X.1 X.2.1 X.2.2.1)
end SR
