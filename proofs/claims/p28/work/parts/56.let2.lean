/-! The model: the inner loop of letting go. -/
section LH
variable {m : Nat} {Z : Nat → Int32} {D : Int64}
theorem cntI_app (p : Int32) : ∀ (s t : List Int32), cntI (s ++ t) p = cntI s p + cntI t p := by
  intro s
  induction s with
  | nil => intro t; rw [List.nil_append, cntI, Nat.zero_add]
  | cons x s ih => intro t; rw [List.cons_append, cntI, cntI, ih, Nat.add_assoc]
end LH
