/-! Names without uses go: the relation, and the model's sweep. -/
section SW
variable {h : xH} {m : Nat} {Z : Nat → Int32} {D : Int64} {A : Nat → Nat → Int32}
/-- each one in U is used by the row or by one in U -/
def clS (L : List Int32) (N : xNs) (U : Nat → Prop) : Prop := ∀ k, 8 ≤ k → k < 24 → U k → N.1 k ≠ -1 ∧ (cntI L (nI k) ≠ 0 ∨ ∃ j, 8 ≤ j ∧ j < 24 ∧ U j ∧ (N.1 j = nI k ∨ N.2.1 j = nI k))
/-- M is N, some names gone, none of them in a closed set -/
def swR (L : List Int32) (N M : xNs) : Prop := (∀ k, (M.1 k = N.1 k ∧ M.2.1 k = N.2.1 k ∧ M.2.2.1 k = N.2.2.1 k ∧ M.2.2.2 k = N.2.2.2 k) ∨ (8 ≤ k ∧ k < 24 ∧ M.1 k = -1 ∧ M.2.1 k = -1 ∧ M.2.2.1 k = 0 ∧ M.2.2.2 k = 0)) ∧ ∀ U, clS L N U → ∀ k, 8 ≤ k → k < 24 → U k → M.1 k = N.1 k ∧ M.2.1 k = N.2.1 k
theorem swR_rf (L : List Int32) (N : xNs) : swR L N N := ⟨fun _ => Or.inl ⟨rfl, rfl, rfl, rfl⟩, fun _ _ _ _ _ _ => ⟨rfl, rfl⟩⟩
theorem usN_pos {fs sn : Nat → Int32} {p : Int32} {j : Nat} (hj : fs j = p ∨ sn j = p) : ∀ (k i : Nat), i ≤ j → j < i + k → usN fs sn p i k ≠ 0 := by
  intro k
  induction k with
  | zero => intro i h1 h2; omega
  | succ k ih =>
    intro i h1 h2
    unfold usN
    by_cases e : i = j
    · subst e
      rcases hj with e | e
      · rw [if_pos e]; omega
      · rw [if_pos e]; omega
    · have := ih (i + 1) (by omega) (by omega)
      omega
theorem swR_out {L : List Int32} {N M : xNs} (q : swR L N M) {v : Nat} (h8 : 8 ≤ v) (h24 : v < 24) (hu : cntI L (nI v) + usN M.1 M.2.1 (nI v) 8 16 = 0) : swR L N (nsOut M v) := by
  refine ⟨fun k => ?_, fun U hU k k8 k24 hk => ?_⟩
  · by_cases e : k = v
    · subst e
      exact Or.inr ⟨h8, h24, va_up_self _ _ _, va_up_self _ _ _, va_up_self _ _ _, va_up_self _ _ _⟩
    · simp only [nsOut, va_up_ne _ _ e]
      exact q.1 k
  · have e : k ≠ v := by
      intro e
      subst e
      rcases (hU k k8 k24 hk).2 with h1 | ⟨j, j8, j24, hj, h1⟩
      · omega
      · obtain ⟨e1, e2⟩ := q.2 U hU j j8 j24 hj
        have := usN_pos (fs := M.1) (sn := M.2.1) (p := nI k) (j := j) (by rw [e1, e2]; exact h1) 16 8 j8 (by omega)
        omega
    simp only [nsOut, va_up_ne _ _ e]
    exact q.2 U hU k k8 k24 hk
/-- the names that there are: all used -/
def swE (L : List Int32) (M : xNs) : Prop := ∀ k, 8 ≤ k → k < 24 → M.1 k ≠ -1 → cntI L (nI k) + usN M.1 M.2.1 (nI k) 8 16 ≠ 0
theorem usN_ex {fs sn : Nat → Int32} {p : Int32} : ∀ (k i : Nat), usN fs sn p i k ≠ 0 → ∃ j, i ≤ j ∧ j < i + k ∧ (fs j = p ∨ sn j = p) := by
  intro k
  induction k with
  | zero => intro i hh; exact absurd rfl hh
  | succ k ih =>
    intro i hh
    unfold usN at hh
    by_cases e1 : fs i = p
    · exact ⟨i, by omega, by omega, Or.inl e1⟩
    · by_cases e2 : sn i = p
      · exact ⟨i, by omega, by omega, Or.inr e2⟩
      · rw [if_neg e1, if_neg e2] at hh
        obtain ⟨j, j1, j2, j3⟩ := ih (i + 1) (by omega)
        exact ⟨j, by omega, by omega, j3⟩
/-- absent names are blank -/
def nsB (N : xNs) : Prop := ∀ k, 8 ≤ k → k < 24 → N.1 k = -1 → N.2.1 k = -1 ∧ N.2.2.1 k = 0 ∧ N.2.2.2 k = 0
theorem nsB_out {N : xNs} (b : nsB N) (v : Nat) : nsB (nsOut N v) := by
  intro k k8 k24 hk
  by_cases e : k = v
  · subst e
    exact ⟨va_up_self _ _ _, va_up_self _ _ _, va_up_self _ _ _⟩
  · simp only [nsOut, va_up_ne _ _ e] at hk ⊢
    exact b k k8 k24 hk
theorem swR_B {L : List Int32} {N M : xNs} (q : swR L N M) (b : nsB N) : nsB M := by
  intro k k8 k24 hk
  rcases q.1 k with ⟨e1, e2, e3, e4⟩ | ⟨_, _, _, e2, e3, e4⟩
  · rw [e2, e3, e4]
    rw [e1] at hk
    exact b k k8 k24 hk
  · exact ⟨e2, e3, e4⟩
/-- what is left is closed -/
theorem swE_cl {L : List Int32} {N M : xNs} (q : swR L N M) (b : nsB N) (e : swE L M) : clS L N (fun k => M.1 k ≠ -1) := by
  intro k k8 k24 hk
  have bM := swR_B q b
  refine ⟨?_, ?_⟩
  · rcases q.1 k with ⟨e1, _⟩ | ⟨_, _, e1, _⟩
    · rw [← e1]; exact hk
    · exact absurd e1 hk
  · have hu := e k k8 k24 hk
    by_cases h1 : cntI L (nI k) = 0
    · rw [h1, Nat.zero_add] at hu
      obtain ⟨j, j1, j2, j3⟩ := usN_ex 16 8 hu
      have hj : M.1 j ≠ -1 := by
        intro z
        obtain ⟨z2, _, _⟩ := bM j j1 (by omega) z
        rcases j3 with e1 | e1
        · rw [z] at e1; exact nI_nm1 (by omega) e1.symm
        · rw [z2] at e1; exact nI_nm1 (by omega) e1.symm
      refine Or.inr ⟨j, j1, by omega, hj, ?_⟩
      rcases q.1 j with ⟨e1, e2, _⟩ | ⟨_, _, e1, _⟩
      · rw [← e1, ← e2]; exact j3
      · exact absurd e1 hj
    · exact Or.inl h1
/-- only one such M -/
theorem swR_uq {L : List Int32} {N M M' : xNs} (b : nsB N) (q : swR L N M) (e : swE L M) (q' : swR L N M') (e' : swE L M') : M = M' := by
  have key : ∀ {M M' : xNs}, swR L N M → swE L M → swR L N M' → ∀ k, 8 ≤ k → k < 24 → M.1 k ≠ -1 → M'.1 k = M.1 k := by
    intro M M' q e q' k k8 k24 hk
    obtain ⟨a1, _⟩ := q'.2 _ (swE_cl q b e) k k8 k24 hk
    rcases q.1 k with ⟨e1, _⟩ | ⟨_, _, e1, _⟩
    · rw [a1, e1]
    · exact absurd e1 hk
  have all : ∀ k, M.1 k = M'.1 k ∧ M.2.1 k = M'.2.1 k ∧ M.2.2.1 k = M'.2.2.1 k ∧ M.2.2.2 k = M'.2.2.2 k := by
    intro k
    by_cases hr : 8 ≤ k ∧ k < 24
    · have eqv : M.1 k = M'.1 k := by
        by_cases h1 : M.1 k = -1
        · by_cases h2 : M'.1 k = -1
          · rw [h1, h2]
          · exact key q' e' q k hr.1 hr.2 h2
        · exact (key q e q' k hr.1 hr.2 h1).symm
      by_cases h1 : M.1 k = -1
      · have b1 := swR_B q b k hr.1 hr.2 h1
        have b2 := swR_B q' b k hr.1 hr.2 (by rw [← eqv]; exact h1)
        exact ⟨eqv, by rw [b1.1, b2.1], by rw [b1.2.1, b2.2.1], by rw [b1.2.2, b2.2.2]⟩
      · rcases q.1 k with ⟨a1, a2, a3, a4⟩ | ⟨_, _, a1, _⟩
        · rcases q'.1 k with ⟨c1, c2, c3, c4⟩ | ⟨_, _, c1, _⟩
          · exact ⟨eqv, by rw [a2, c2], by rw [a3, c3], by rw [a4, c4]⟩
          · exact absurd (eqv.trans c1) h1
        · exact absurd a1 h1
    · rcases q.1 k with ⟨a1, a2, a3, a4⟩ | ⟨z1, z2, _⟩
      · rcases q'.1 k with ⟨c1, c2, c3, c4⟩ | ⟨z1, z2, _⟩
        · exact ⟨by rw [a1, c1], by rw [a2, c2], by rw [a3, c3], by rw [a4, c4]⟩
        · exact absurd ⟨z1, z2⟩ hr
      · exact absurd ⟨z1, z2⟩ hr
  obtain ⟨a, c, d, f⟩ := M
  obtain ⟨a', c', d', f'⟩ := M'
  simp only at all
  have x1 : a = a' := funext fun k => (all k).1
  have x2 : c = c' := funext fun k => (all k).2.1
  have x3 : d = d' := funext fun k => (all k).2.2.1
  have x4 : f = f' := funext fun k => (all k).2.2.2
  rw [x1, x2, x3, x4]
theorem okQ_B {N : xNs} (b : nsB N) : okQ N := fun k k8 k24 hk => (b k k8 k24 hk).1
/-- how many names, over 16 -/
def nmC (N : xNs) : Nat := namN N.1 8 16
theorem namN_out (f : Nat → Int32) (v : Nat) (hv : f v ≠ -1) : ∀ (k i : Nat), i ≤ v → v < i + k → namN (va_up f v (-1)) i k + 1 = namN f i k := by
  have same : ∀ (k i : Nat), v < i → namN (va_up f v (-1)) i k = namN f i k := by
    intro k
    induction k with
    | zero => intro i _; rfl
    | succ k ih => intro i hi; rw [namN, namN, ih (i + 1) (by omega), va_up_ne _ _ (show i ≠ v by omega)]
  intro k
  induction k with
  | zero => intro i h1 h2; omega
  | succ k ih =>
    intro i h1 h2
    rw [namN, namN]
    by_cases e : i = v
    · subst e
      rw [same k (i + 1) (by omega), va_up_self, if_pos rfl, if_neg hv]
      omega
    · have := ih (i + 1) (by omega) (by omega)
      rw [va_up_ne _ _ e]
      omega
end SW
