/-! The model: the next step's name. -/
section FJ
variable {h : xH} {m : Nat} {D : Int64} {A : Nat → Nat → Int32} {X : xS}
def mnA (w : Bool) (N : xNs) : Nat → Int32 → Int32
  | 0, acc => acc
  | k + 1, acc => mnA w N k (if w = true ∧ N.1 (8 + k) = -1 then nI (8 + k) else acc)
def mnB (w : Bool) (N : xNs) (x y : Int32) : Nat → Nat → Int32 → Int32
  | _, 0, acc => acc
  | i, k + 1, acc => mnB w N x y (i + 1) k (if w = true ∧ N.1 i ≠ -1 ∧ N.1 i = x ∧ N.2.1 i = y then nI i else acc)
def zT (Z Z' : Nat → Int32) : Prop := ∀ j, j ≠ 18 → Z' j = Z j
theorem zT.tr {Z Z1 Z2 : Nat → Int32} (a : zT Z Z1) (b : zT Z1 Z2) : zT Z Z2 := fun j h1 => (b j h1).trans (a j h1)
theorem zT_up (Z : Nat → Int32) (v : Int32) : zT Z (va_up Z 18 v) := fun _ h1 => va_up_ne _ _ h1
/-- what the model finds: times, first, second, and the name -/
def mfR (L : List Int32) (o x0 y0 : Int32) : Int32 × Int32 × Int32 := mfO L o 0 24 (0, x0, y0)
def mfN (N : xNs) (S : Int32 × Int32 × Int32) : Int32 := mnB (decide (0 < S.1)) N S.2.1 S.2.2 8 16 (mnA (decide (0 < S.1)) N 16 (-1))
end FJ
