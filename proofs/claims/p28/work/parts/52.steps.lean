/-! The model: steps until there is none. -/
section SS
variable {m : Nat} {D : Int64}
theorem repI_occ (a b c : Int32) : ∀ (k : Nat) (L : List Int32), L.length ≤ k → (repI a b c L).length + occI a b L = L.length := by
  intro k
  induction k with
  | zero =>
    intro L hL
    have : L = [] := List.eq_nil_of_length_eq_zero (by omega)
    rw [this]
    rfl
  | succ k ih =>
    intro L hL
    match L, hL with
    | [], _ => rfl
    | [_], _ => rfl
    | u :: v :: t, hL =>
      simp only [List.length_cons] at hL
      rw [repI, occI]
      by_cases h1 : u = a ∧ v = b
      · rw [if_pos h1, if_pos h1]
        have := ih t (by omega)
        simp only [List.length_cons]
        omega
      · rw [if_neg h1, if_neg h1]
        have := ih (v :: t) (by simp only [List.length_cons]; omega)
        simp only [List.length_cons] at this ⊢
        omega
theorem step_less {X : xS} {o : Nat} (hl : X.1.length ≤ 64) (hR : rOk X.1) (eo : X.2.2.1 = nI o) (ho : 1 ≤ o) (ho2 : o < 2 ^ 31) (hg : (fdF X.1 X.2.1 X.2.2.1).2.2.2 ≠ -1) : (apF X (fdF X.1 X.2.1 X.2.2.1)).1.length < X.1.length := by
  have ha : 0 < X.2.2.1 := by rw [eo, ← nI_0]; exact nI_lt ho ho2
  have hG : fdG X.1 X.2.1 X.2.2.1 ≠ -1 := by
    intro z
    exact hg (by unfold fdF; rw [if_pos z])
  have eF : fdF X.1 X.2.1 X.2.2.1 = ((fdR X.1).1, (fdR X.1).2.1, (fdR X.1).2.2, fdG X.1 X.2.1 X.2.2.1) := if_neg hG
  have h6 : ¬ (fdR X.1).2.2 < X.2.2.1 := by
    intro z
    exact hG (if_pos z)
  by_cases h2 : 1 < X.1.length
  · obtain ⟨a, c, _, _, e, _⟩ := fdR_best hl hR h2
    have l1 := vN_le X.1 a c
    have hv : vN X.1 a c ≠ 0 := by
      intro z
      refine h6 ?_
      rw [e, z, eo]
      exact nI_lt ho ho2
    have := repI_occ (nI a) (nI c) (fdG X.1 X.2.1 X.2.2.1) _ X.1 (Nat.le_refl _)
    rw [eF, e]
    show (repI (nI a) (nI c) (fdG X.1 X.2.1 X.2.2.1) X.1).length < X.1.length
    unfold vN at hv
    omega
  · refine absurd ?_ h6
    have e : (fdR X.1).2.2 = 0 := by
      obtain ⟨L, T⟩ := X
      match L, h2 with
      | [], _ => rfl
      | [_], _ => rfl
      | _ :: _ :: _, h2 => simp at h2
    rw [e]
    exact ha
theorem fdF_m1 {L : List Int32} (N : xNs) {a : Int32} (hL : L.length = 0) (ha : 0 < a) : (fdF L N a).2.2.2 = -1 := by
  have : L = [] := List.eq_nil_of_length_eq_zero hL
  subst this
  have : fdG [] N a = -1 := if_pos ha
  unfold fdF
  rw [if_pos this]
end SS
