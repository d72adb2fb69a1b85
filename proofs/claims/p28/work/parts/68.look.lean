/-! The model: what is read once all is laid out. -/
section LK
variable {h : xH} {m : Nat} {Z : Nat → Int32} {D : Int64} {A : Nat → Nat → Int32} {X : xS} {d l : Nat → Nat}
/-- every part of the row is there -/
def rPr (L : List Int32) (N : xNs) : Prop := ∀ x ∈ L, ∃ p, p < 24 ∧ x = nI p ∧ hsN N p
theorem rPr_ok {L : List Int32} {N : xNs} (p : rPr L N) : rOk L := by
  intro x hx
  obtain ⟨k, k1, k2, -⟩ := p x hx
  rw [k2, nI_clamp (by omega)]
  exact ⟨rfl, k1⟩
theorem gd_mem {L : List Int32} {i : Nat} (hi : i < L.length) : gd L i ∈ L := by
  unfold gd
  rw [List.getD_eq_getElem?_getD, List.getElem?_eq_getElem hi]
  exact List.getElem_mem hi
theorem rPr_at {L : List Int32} {N : xNs} (p : rPr L N) {i : Nat} (hi : i < L.length) : ∃ k, k < 24 ∧ gd L i = nI k ∧ hsN N k := p _ (gd_mem hi)
theorem le_8 {v : Int32} (h0 : ¬ v < 0) (h8 : ¬ (8 : Int32) < v) : v = 0 ∨ v = 1 ∨ v = 2 ∨ v = 3 ∨ v = 4 ∨ v = 5 ∨ v = 6 ∨ v = 7 ∨ v = 8 := by
  obtain ⟨k, k1, k2⟩ := nI_of h0
  have k3 : k ≤ 8 := by
    apply Nat.le_of_not_lt
    intro z
    exact h8 (by rw [k2]; exact nI_lt (a := 8) z k1)
  subst k2
  match k, k3 with
  | 0, _ => exact Or.inl rfl
  | 1, _ => exact Or.inr (Or.inl rfl)
  | 2, _ => exact Or.inr (Or.inr (Or.inl rfl))
  | 3, _ => exact Or.inr (Or.inr (Or.inr (Or.inl rfl)))
  | 4, _ => exact Or.inr (Or.inr (Or.inr (Or.inr (Or.inl rfl))))
  | 5, _ => exact Or.inr (Or.inr (Or.inr (Or.inr (Or.inr (Or.inl rfl)))))
  | 6, _ => exact Or.inr (Or.inr (Or.inr (Or.inr (Or.inr (Or.inr (Or.inl rfl))))))
  | 7, _ => exact Or.inr (Or.inr (Or.inr (Or.inr (Or.inr (Or.inr (Or.inr (Or.inl rfl)))))))
  | 8, _ => exact Or.inr (Or.inr (Or.inr (Or.inr (Or.inr (Or.inr (Or.inr (Or.inr rfl)))))))
  | k + 9, k3 => exact absurd k3 (by omega)
theorem x115' : xix ((115 : Int32) + 6 - 6) 117 := ⟨by decide, by decide⟩
theorem c115' : ((115 : Int32) + 6 - 6).toNatClampNeg = 115 := by decide
theorem x115'' : xix ((115 : Int32) + 7 - 6) 117 := ⟨by decide, by decide⟩
theorem c115'' : ((115 : Int32) + 7 - 6).toNatClampNeg = 116 := by decide
end LK
