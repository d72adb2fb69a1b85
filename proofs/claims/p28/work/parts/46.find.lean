/-! The model: the next step found. -/
section FI
variable {h : xH} {m : Nat} {D : Int64} {A : Nat → Nat → Int32} {X : xS}
def mfS (t o : Int32) (a j : Nat) (S : Int32 × Int32 × Int32) : Int32 × Int32 × Int32 := if ¬ t < o ∧ S.1 < t then (t, nI a, nI j) else S
def mfI (L : List Int32) (o : Int32) (a : Nat) : Nat → Nat → Int32 × Int32 × Int32 → Int32 × Int32 × Int32
  | _, 0, S => S
  | j, k + 1, S => mfI L o a (j + 1) k (mfS (nI (occI (nI a) (nI j) L)) o a j S)
def mfO (L : List Int32) (o : Int32) : Nat → Nat → Int32 × Int32 × Int32 → Int32 × Int32 × Int32
  | _, 0, S => S
  | a, k + 1, S => mfO L o (a + 1) k (mfI L o a 0 24 S)
def zE (Z Z' : Nat → Int32) : Prop := ∀ j, j ≠ 15 → j ≠ 16 → j ≠ 17 → j ≠ 18 → Z' j = Z j
theorem zE.tr {Z Z1 Z2 : Nat → Int32} (a : zE Z Z1) (b : zE Z1 Z2) : zE Z Z2 := fun j h1 h2 h3 h4 => (b j h1 h2 h3 h4).trans (a j h1 h2 h3 h4)
def zS (Z : Nat → Int32) (S : Int32 × Int32 × Int32) : Prop := Z 17 = S.1 ∧ Z 15 = S.2.1 ∧ Z 16 = S.2.2
theorem x113 : xix 113 117 := ⟨by decide, by decide⟩
theorem c113 : (113 : Int32).toNatClampNeg = 113 := by decide
end FI
