/-! The model: a place opened. -/
section MR
variable {h : xH} {m : Nat} {Z : Nat → Int32} {D : Int64} {A : Nat → Nat → Int32} {X : xS}
theorem nI_p1 (k : Nat) : nI (1 + k) - 1 = nI k := by rw [Nat.add_comm]; exact nI_pred k
theorem nI_d1 (k : Nat) : nI (k + 1) + -1 = nI k := by rw [← nI_pred k]; exact (Int32.sub_eq_add_neg _ _).symm
def dnG (p k : Nat) (f : Nat → Int32) : Nat → Int32 := fun j => if p + 3 ≤ j ∧ j ≤ 1 + k then f (j - 1) else f j
theorem dnG_up {p k : Nat} {f : Nat → Int32} (hk : p + 1 ≤ k) : dnG p k (va_up f (1 + (k + 1)) (f (k + 1))) = dnG p (k + 1) f := by
  funext j
  unfold dnG
  by_cases e : j = 1 + (k + 1)
  · subst e
    rw [if_neg (by omega), va_up_self, if_pos ⟨by omega, by omega⟩, show 1 + (k + 1) - 1 = k + 1 by omega]
  · by_cases h1 : p + 3 ≤ j ∧ j ≤ 1 + k
    · rw [if_pos h1, if_pos ⟨h1.1, by omega⟩, va_up_ne _ _ (by omega)]
    · rw [if_neg h1, if_neg (fun z => h1 ⟨z.1, by omega⟩), va_up_ne _ _ e]
theorem gd_op (L : List Int32) (p : Nat) (a c : Int32) (hp : p < L.length) (i : Nat) (hi : i < L.length + 1) : gd (L.take p ++ a :: c :: L.drop (p + 1)) i = if i < p then gd L i else if i = p then a else if i = p + 1 then c else gd L (i - 1) := by
  have hl : (L.take p).length = p := by rw [List.length_take]; omega
  unfold gd
  rw [List.getD_eq_getElem?_getD]
  by_cases h1 : i < p
  · rw [if_pos h1, List.getElem?_append_left (by omega), List.getElem?_take_of_lt h1, List.getD_eq_getElem?_getD]
  · rw [if_neg h1, List.getElem?_append_right (by omega), hl]
    by_cases h2 : i = p
    · rw [if_pos h2, h2, Nat.sub_self]; rfl
    · rw [if_neg h2]
      by_cases h3 : i = p + 1
      · rw [if_pos h3, h3, show p + 1 - p = 1 by omega]; rfl
      · rw [if_neg h3, show i - p = (i - p - 2) + 1 + 1 by omega, List.getElem?_cons_succ, List.getElem?_cons_succ, List.getElem?_drop, show p + 1 + (i - p - 2) = i - 1 by omega, List.getD_eq_getElem?_getD]
theorem opL_len {L : List Int32} {N : xNs} {p : Nat} (hp : p < L.length) : (opL L N p).length = L.length + 1 := by
  unfold opL
  rw [List.length_append, List.length_take, List.length_cons, List.length_cons, List.length_drop]
  omega
end MR
