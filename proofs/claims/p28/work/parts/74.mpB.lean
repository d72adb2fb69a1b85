/-! The model: what would be; the share. -/
section NH
variable {m : Nat} {d l : Nat → Nat}
theorem all_sp : ∀ (k n : Nat) (X : xS), n ≤ (allF k n X).1 ∧ (allF k n X).2.2.2.2.2.1 = X.2.2.2.2.1 + nI ((allF k n X).1 - n) := by
  intro k
  induction k with
  | zero =>
    intro n X
    rw [allF]
    refine ⟨Nat.le_refl _, ?_⟩
    simp only
    rw [Nat.sub_self, show nI 0 = 0 from rfl, Int32.add_zero]
  | succ k ih =>
    intro n X
    rw [allF]
    by_cases g : (fdF X.1 X.2.1 X.2.2.1).2.2.2 = -1
    · rw [if_pos g]
      refine ⟨Nat.le_refl _, ?_⟩
      simp only
      rw [Nat.sub_self, show nI 0 = 0 from rfl, Int32.add_zero]
    · rw [if_neg g]
      obtain ⟨i1, i2⟩ := ih (n + 1) (apF X (fdF X.1 X.2.1 X.2.2.1))
      refine ⟨by omega, ?_⟩
      rw [i2]
      have e : (apF X (fdF X.1 X.2.1 X.2.2.1)).2.2.2.2.1 = X.2.2.2.2.1 + 1 := rfl
      rw [e, show (1 : Int32) = nI 1 from rfl, Int32.add_assoc, nI_add]
      exact congrArg (fun z => X.2.2.2.2.1 + nI z) (by omega)
theorem trX_self (X : xS) : trX X X.2.2.1 = (allF 64 0 X).2 := rfl
theorem tnX_0 (X : xS) : (trX X X.2.2.1).2.2.2.2.1 - X.2.2.2.2.1 = nI (allF 64 0 X).1 := by
  rw [trX_self, (all_sp 64 0 X).2, Nat.sub_zero, Int32.add_comm]
  exact Int32.add_sub_cancel _ _
theorem tx_pos {X : xS} (w0 : wfN X.2.1 d l) (pr : rPr X.1 X.2.1) (hl : X.1.length ≤ 64) : (0 < txF X.2.1.2.2.2 X.1 ↔ ¬ X.1.length = 0) := by
  obtain ⟨b1, b2⟩ := lnL_bd w0 X.1 pr
  rw [txF_ln w0 X.1 pr]
  constructor
  · intro z e
    have : lnL l X.1 = 0 := by omega
    rw [this] at z
    exact absurd z (by decide)
  · intro e
    exact nI_lt (a := 0) (by omega) (by omega)
end NH
