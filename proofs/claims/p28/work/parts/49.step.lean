/-! The model: a step of naming. -/
section SP
variable {m : Nat} {Z : Nat → Int32} {D : Int64}
theorem gd_sn1 {O : List Int32} {v : Int32} {j : Nat} (hj : j < O.length) : gd (O ++ [v]) j = gd O j := by
  unfold gd
  rw [List.getD_eq_getElem?_getD, List.getElem?_append_left hj, List.getD_eq_getElem?_getD]
theorem gd_sn2 (O : List Int32) (v : Int32) : gd (O ++ [v]) O.length = v := by
  unfold gd
  rw [List.getD_eq_getElem?_getD, List.getElem?_append_right (Nat.le_refl _), Nat.sub_self]
  rfl
end SP
