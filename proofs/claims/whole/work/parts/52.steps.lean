/-! The model: steps until there is none. -/
section SS
variable {m : Nat} {D : Int64}
theorem repI_occ (a b c : Int32) : ∀ (k : Nat) (L : List Int32), L.length ≤ k → (repI a b c L).length + occI a b L = L.length := by
  intro k
  induction k with
  | zero =>
    intro L hL
    have : L = [] := List.eq_nil_of_length_eq_zero (by omega)
    rw [this]
    rfl
  | succ k ih =>
    intro L hL
    match L, hL with
    | [], _ => rfl
    | [_], _ => rfl
    | u :: v :: t, hL =>
      simp only [List.length_cons] at hL
      rw [repI, occI]
      by_cases h1 : u = a ∧ v = b
      · rw [if_pos h1, if_pos h1]
        have := ih t (by omega)
        simp only [List.length_cons]
        omega
      · rw [if_neg h1, if_neg h1]
        have := ih (v :: t) (by simp only [List.length_cons]; omega)
        simp only [List.length_cons] at this ⊢
        omega
theorem step_less {X : xS} {o : Nat} (hl : X.1.length ≤ 64) (hR : rOk X.1) (eo : X.2.2.1 = nI o) (ho : 1 ≤ o) (ho2 : o < 2 ^ 31) (hg : (fdF X.1 X.2.1 X.2.2.1).2.2.2 ≠ -1) : (apF X (fdF X.1 X.2.1 X.2.2.1)).1.length < X.1.length := by
  have ha : 0 < X.2.2.1 := by rw [eo, ← nI_0]; exact nI_lt ho ho2
  have hG : fdG X.1 X.2.1 X.2.2.1 ≠ -1 := by
    intro z
    exact hg (by unfold fdF; rw [if_pos z])
  have eF : fdF X.1 X.2.1 X.2.2.1 = ((fdR X.1).1, (fdR X.1).2.1, (fdR X.1).2.2, fdG X.1 X.2.1 X.2.2.1) := if_neg hG
  have h6 : ¬ (fdR X.1).2.2 < X.2.2.1 := by
    intro z
    exact hG (if_pos z)
  by_cases h2 : 1 < X.1.length
  · obtain ⟨a, c, _, _, e, _⟩ := fdR_best hl hR h2
    have l1 := vN_le X.1 a c
    have hv : vN X.1 a c ≠ 0 := by
      intro z
      refine h6 ?_
      rw [e, z, eo]
      exact nI_lt ho ho2
    have := repI_occ (nI a) (nI c) (fdG X.1 X.2.1 X.2.2.1) _ X.1 (Nat.le_refl _)
    rw [eF, e]
    show (repI (nI a) (nI c) (fdG X.1 X.2.1 X.2.2.1) X.1).length < X.1.length
    unfold vN at hv
    omega
  · refine absurd ?_ h6
    have e : (fdR X.1).2.2 = 0 := by
      obtain ⟨L, T⟩ := X
      match L, h2 with
      | [], _ => rfl
      | [_], _ => rfl
      | _ :: _ :: _, h2 => simp at h2
    rw [e]
    exact ha
theorem fdF_m1 {L : List Int32} (N : xNs) {a : Int32} (hL : L.length = 0) (ha : 0 < a) : (fdF L N a).2.2.2 = -1 := by
  have : L = [] := List.eq_nil_of_length_eq_zero hL
  subst this
  have : fdG [] N a = -1 := if_pos ha
  unfold fdF
  rw [if_pos this]
theorem lp_steps {o : Nat} (ho : 1 ≤ o) (ho2 : o < 2 ^ 31) : ∀ (k n : Nat) (h : xH) (Z : Nat → Int32) (A : Nat → Nat → Int32) (X : xS), X.1.length ≤ k → isMo h m Z D A → rS (A 1) X → rOk X.1 → X.2.2.1 = nI o →
    ∃ h' Z' f, xf 126 2 [some (.ref m), some (.int (nI n))] [] h = some (.inl (some (.int (nI (allF k n X).1))), h') ∧ isMo h' m Z' D (va_up A 1 f) ∧ rS f (allF k n X).2 ∧ zE Z Z' ∧ xFr m (m + 10) h h' := by
  intro k
  induction k with
  | zero =>
    intro n h Z A X hk q r hR eo
    have ha : 0 < X.2.2.1 := by rw [eo, ← nI_0]; exact nI_lt ho ho2
    obtain ⟨h1, Z1, f, a1, a2, a3, a4, a5⟩ := m_step q r hR eo ho ho2
    have e := fdF_m1 X.2.1 (show X.1.length = 0 by omega) ha
    rw [e] at a1
    rw [stX, if_pos e] at a3
    refine ⟨h1, Z1, f, ?_, a2, a3, a4, a5⟩
    rw [u_X8_steps_2]
    simp only [u_X8_steps_0, u_X8_steps_1, u_X8_steps_3, u_X8_steps_6, u_X8_steps_7, u_X8_steps_10, u_X8_steps_13, u_X8_steps_16, u_X8_steps_17, q.ob, a1, if_true, xgo_some, xgo_none, xgoI_none, xcat_n, xcat_i, xcat_r, xcat_z, List.length_nil, List.length_cons, List.getD_cons_zero, List.getD_cons_succ, List.set_cons_zero, List.set_cons_succ, Nat.zero_le, Nat.reduceAdd, Nat.reduceLeDiff, Nat.reduceEqDiff, reduceIte]
    rfl
  | succ k ih =>
    intro n h Z A X hk q r hR eo
    have ha : 0 < X.2.2.1 := by rw [eo, ← nI_0]; exact nI_lt ho ho2
    obtain ⟨h1, Z1, f, a1, a2, a3, a4, a5⟩ := m_step q r hR eo ho ho2
    by_cases e : (fdF X.1 X.2.1 X.2.2.1).2.2.2 = -1
    · rw [e] at a1
      rw [stX, if_pos e] at a3
      rw [allF, if_pos e]
      refine ⟨h1, Z1, f, ?_, a2, a3, a4, a5⟩
      rw [u_X8_steps_2]
      simp only [u_X8_steps_0, u_X8_steps_1, u_X8_steps_3, u_X8_steps_6, u_X8_steps_7, u_X8_steps_10, u_X8_steps_13, u_X8_steps_16, u_X8_steps_17, q.ob, a1, if_true, xgo_some, xgo_none, xgoI_none, xcat_n, xcat_i, xcat_r, xcat_z, List.length_nil, List.length_cons, List.getD_cons_zero, List.getD_cons_succ, List.set_cons_zero, List.set_cons_succ, Nat.zero_le, Nat.reduceAdd, Nat.reduceLeDiff, Nat.reduceEqDiff, reduceIte]
    · have hs := step_less r.2.1 hR eo ho ho2 e
      rw [stX, if_neg e] at a3
      rw [allF, if_neg e]
      have hR' : rOk (apF X (fdF X.1 X.2.1 X.2.2.1)).1 := by
        rcases fdF_is (N := X.2.1) hR ha with w | ⟨x, y, t, b, w, b8, b24, _⟩
        · rw [w] at e; exact absurd rfl e
        · rw [w]; exact rOk_ap hR b24
      obtain ⟨h2, Z2, f2, c1, c2, c3, c4, c5⟩ := ih (n + 1) h1 Z1 _ _ (by omega) a2 (by rw [va_up_self]; exact a3) hR' eo
      rw [va_up_up] at c2
      refine ⟨h2, Z2, f2, ?_, c2, c3, a4.tr c4, a5.tr c5⟩
      rw [u_X8_steps_2]
      simp only [u_X8_steps_0, u_X8_steps_1, u_X8_steps_3, u_X8_steps_6, u_X8_steps_7, u_X8_steps_10, u_X8_steps_13, u_X8_steps_16, u_X8_steps_17, q.ob, a1, e, nI_of1, if_false, xgo_some, xgo_none, xgoI_none, xcat_n, xcat_i, xcat_r, xcat_z, List.length_nil, List.length_cons, List.getD_cons_zero, List.getD_cons_succ, List.set_cons_zero, List.set_cons_succ, Nat.zero_le, Nat.reduceAdd, Nat.reduceLeDiff, Nat.reduceEqDiff, reduceIte]
      exact c1
theorem m_steps {h : xH} {Z : Nat → Int32} {A : Nat → Nat → Int32} {X : xS} {o : Nat} (q : isMo h m Z D A) (r : rS (A 1) X) (hR : rOk X.1) (eo : X.2.2.1 = nI o) (ho : 1 ≤ o) (ho2 : o < 2 ^ 31) : ∃ h' Z' f, xev 126 [.ref m] h = some (.inl (some (.int (nI (allF 64 0 X).1))), h') ∧ isMo h' m Z' D (va_up A 1 f) ∧ rS f (allF 64 0 X).2 ∧ zE Z Z' ∧ xFr m (m + 10) h h' := by
  obtain ⟨h', Z', f, a1, a2⟩ := lp_steps ho ho2 64 0 h Z A X r.2.1 q r hR eo
  refine ⟨h', Z', f, ?_, a2⟩
  rw [e_X8_steps]
  simp only [u_X8_steps_0, u_X8_steps_1, u_X8_steps_3, u_X8_steps_6, u_X8_steps_7, u_X8_steps_10, u_X8_steps_13, u_X8_steps_16, u_X8_steps_17, xgo_some, xgo_none, xgoI_none, xcat_n, xcat_i, xcat_r, xcat_z, List.length_nil, List.length_cons, List.getD_cons_zero, List.getD_cons_succ, List.set_cons_zero, List.set_cons_succ, Nat.zero_le, Nat.reduceAdd, Nat.reduceLeDiff, Nat.reduceEqDiff, reduceIte]
  exact a1
end SS
