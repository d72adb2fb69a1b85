/-! The model: its object, and what only reads. -/
section MO
variable {h : xH} {m : Nat}
section
variable {Z : Nat → Int32} {D : Int64} {A : Nat → Nat → Int32}
end
variable {Z : Nat → Int32} {D : Int64} {A : Nat → Nat → Int32} {X : xS}
theorem nI_ix (c k : Nat) (hk : 8 ≤ k) (hc : 8 ≤ c) : nI c + nI k - 8 = nI (c - 8 + k) := by
  rw [nI_add, show (8 : Int32) = nI 8 from rfl, nI_sub (by omega), show c + k - 8 = c - 8 + k by omega]
theorem x0117 : xix 0 117 := ⟨by decide, by decide⟩
theorem c00 : (0 : Int32).toNatClampNeg = 0 := by decide
theorem nI_s1 (k : Nat) : (1 : Int32) + nI k = nI (1 + k) := nI_add 1 k
theorem gd_drop {L : List Int32} {i : Nat} (h : i < L.length) : L.drop i = gd L i :: L.drop (i + 1) := by
  rw [List.drop_eq_getElem_cons h]
  unfold gd
  rw [List.getD_eq_getElem?_getD, List.getElem?_eq_getElem h]
  rfl
/-- names that there are not have no pair -/
def okQ (N : xNs) : Prop := ∀ k, 8 ≤ k → k < 24 → N.1 k = -1 → N.2.1 k = -1
end MO
