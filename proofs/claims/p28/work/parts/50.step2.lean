/-! The model: the whole step. -/
section SQ
variable {h : xH} {m : Nat} {Z : Nat → Int32} {D : Int64} {A : Nat → Nat → Int32}
theorem nmF_pr (fs sn : Nat → Int32) (a c : Int32) : ∀ (k : Nat) (acc : Int32), k ≤ 16 → nmF fs sn a c k acc = acc ∨ ∃ b, 8 ≤ b ∧ b < 8 + k ∧ nmF fs sn a c k acc = nI b ∧ (fs b = -1 ∨ (fs b = a ∧ sn b = c)) := by
  intro k
  induction k with
  | zero => intro acc _; exact Or.inl rfl
  | succ k ih =>
    intro acc hk
    rw [nmF]
    by_cases h1 : fs (8 + k) = -1
    · rw [if_pos h1]
      rcases ih (nI (8 + k)) (by omega) with e | ⟨b, b1, b2, b3, b4⟩
      · exact Or.inr ⟨8 + k, by omega, by omega, e, Or.inl h1⟩
      · exact Or.inr ⟨b, b1, by omega, b3, b4⟩
    · rw [if_neg h1]
      by_cases h2 : fs (8 + k) = a ∧ sn (8 + k) = c
      · rw [if_pos h2]
        exact Or.inr ⟨8 + k, by omega, by omega, rfl, Or.inr h2⟩
      · rw [if_neg h2]
        rcases ih acc (by omega) with e | ⟨b, b1, b2, b3, b4⟩
        · exact Or.inl e
        · exact Or.inr ⟨b, b1, by omega, b3, b4⟩
theorem x115 : xix 115 117 := ⟨by decide, by decide⟩
theorem c115 : (115 : Int32).toNatClampNeg = 115 := by decide
end SQ
