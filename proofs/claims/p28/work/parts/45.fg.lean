/-! The class's way to let the unused go comes to the same. -/
section FG
theorem usN_outE {fs sn : Nat → Int32} {p : Int32} {v : Nat} (h1 : fs v ≠ p) (h2 : sn v ≠ p) (hp : p ≠ -1) : ∀ (k i : Nat), usN (va_up fs v (-1)) (va_up sn v (-1)) p i k = usN fs sn p i k := by
  intro k
  induction k with
  | zero => intro i; rfl
  | succ k ih =>
    intro i
    rw [usN, usN, ih]
    by_cases e : i = v
    · subst e
      rw [va_up_self, va_up_self, if_neg hp.symm, if_neg h1, if_neg h2]
    · rw [va_up_ne _ _ e, va_up_ne _ _ e]
/-- depths as they should be -/
def dpt (N : xNs) (d : Nat → Nat) : Prop := ∀ k, 8 ≤ k → k < 24 → N.1 k ≠ -1 → N.2.2.1 k = nI (d k) ∧ 1 ≤ d k ∧ d k ≤ 16 ∧ ∀ j, 8 ≤ j → j < 24 → N.1 k = nI j ∨ N.2.1 k = nI j → d j < d k
theorem dpt_R {L : List Int32} {N M : xNs} {d : Nat → Nat} (q : swR L N M) (w : dpt N d) : dpt M d := by
  intro k k8 k24 hk
  rcases q.1 k with ⟨e1, e2, e3, _⟩ | ⟨_, _, e1, _⟩
  · rw [e1] at hk
    obtain ⟨a1, a2, a3, a4⟩ := w k k8 k24 hk
    exact ⟨by rw [e3]; exact a1, a2, a3, fun j j8 j24 hj => a4 j j8 j24 (by rw [← e1, ← e2]; exact hj)⟩
  · exact absurd e1 hk
theorem lp_fgI {L : List Int32} {N : xNs} {d : Nat → Nat} (b : nsB N) (w : dpt N d) {E : Nat} (hE : 1 ≤ E) (hE2 : E ≤ 16) : ∀ (k i : Nat) (M : xNs), 8 ≤ i → i + k = 24 → swR L N M → (∀ j, 8 ≤ j → j < 24 → M.1 j ≠ -1 → E < d j ∨ (E = d j ∧ j < i) → cntI L (nI j) + usN M.1 M.2.1 (nI j) 8 16 ≠ 0) →
    swR L N (fgIn L E i k M) ∧ ∀ j, 8 ≤ j → j < 24 → (fgIn L E i k M).1 j ≠ -1 → E ≤ d j → cntI L (nI j) + usN (fgIn L E i k M).1 (fgIn L E i k M).2.1 (nI j) 8 16 ≠ 0 := by
  intro k
  induction k with
  | zero =>
    intro i M h8 hk q e
    refine ⟨q, fun j j8 j24 hj hd => e j j8 j24 hj ?_⟩
    rcases Nat.lt_or_ge E (d j) with z | z
    · exact Or.inl z
    · exact Or.inr ⟨by omega, by omega⟩
  | succ k ih =>
    intro i M h8 hk q e
    rw [fgIn]
    have bM := swR_B q b
    have wM := dpt_R q w
    by_cases h1 : M.2.2.1 i = nI E ∧ cntI L (nI i) + usN M.1 M.2.1 (nI i) 8 16 = 0
    · rw [show fgStep L E i M = nsOut M i from if_pos h1]
      have hp : M.1 i ≠ -1 := by
        intro z
        have := (bM i h8 (by omega) z).2.1
        rw [h1.1] at this
        exact nI_ne0 (by omega) (by omega) this
      obtain ⟨d1, d2, d3, d4⟩ := wM i h8 (by omega) hp
      have hd : d i = E := (nI_eq (by omega) (by omega)).mp (d1.symm.trans h1.1)
      refine ih (i + 1) _ (by omega) (by omega) (swR_out q h8 (by omega) h1.2) ?_
      intro j j8 j24 hj hc
      have ej : j ≠ i := by
        intro z
        subst z
        exact hj (va_up_self _ _ _)
      have hj2 : M.1 j ≠ -1 := by
        have : (nsOut M i).1 j = M.1 j := va_up_ne _ _ ej
        rw [← this]; exact hj
      have hn : ¬ (M.1 i = nI j ∨ M.2.1 i = nI j) := by
        intro z
        have := d4 j j8 j24 z
        rcases hc with c | c
        · omega
        · omega
      have := usN_outE (fs := M.1) (sn := M.2.1) (p := nI j) (v := i) (fun z => hn (Or.inl z)) (fun z => hn (Or.inr z)) (nI_nm1 (by omega)) 16 8
      simp only [nsOut]
      rw [this]
      exact e j j8 j24 hj2 (by
        rcases hc with c | c
        · exact Or.inl c
        · exact Or.inr ⟨c.1, by omega⟩)
    · rw [show fgStep L E i M = M from if_neg h1]
      refine ih (i + 1) M (by omega) (by omega) q ?_
      intro j j8 j24 hj hc
      by_cases ej : j = i
      · subst ej
        obtain ⟨d1, d2, d3, d4⟩ := wM j j8 j24 hj
        rcases hc with c | c
        · exact e j j8 j24 hj (Or.inl c)
        · intro z
          exact h1 ⟨by rw [d1, c.1], z⟩
      · exact e j j8 j24 hj (by
          rcases hc with c | c
          · exact Or.inl c
          · exact Or.inr ⟨c.1, by omega⟩)
theorem lp_fgO {L : List Int32} {N : xNs} {d : Nat → Nat} (b : nsB N) (w : dpt N d) : ∀ (E : Nat) (M : xNs), E ≤ 16 → swR L N M → (∀ j, 8 ≤ j → j < 24 → M.1 j ≠ -1 → E < d j → cntI L (nI j) + usN M.1 M.2.1 (nI j) 8 16 ≠ 0) → swR L N (fgOut L E M) ∧ swE L (fgOut L E M) := by
  intro E
  induction E with
  | zero =>
    intro M _ q e
    refine ⟨q, fun j j8 j24 hj => ?_⟩
    exact e j j8 j24 hj ((dpt_R q w) j j8 j24 hj).2.1
  | succ E ih =>
    intro M hE q e
    rw [fgOut]
    obtain ⟨q1, e1⟩ := lp_fgI b w (E := E + 1) (by omega) hE 16 8 M (by omega) (by omega) q (by
      intro j j8 j24 hj hc
      rcases hc with c | c
      · exact e j j8 j24 hj c
      · omega)
    exact ih _ (by omega) q1 (fun j j8 j24 hj hd => e1 j j8 j24 hj (by omega))
theorem fg_sw {L : List Int32} {N : xNs} {d : Nat → Nat} (b : nsB N) (w : dpt N d) : swR L N (fgOut L 16 N) ∧ swE L (fgOut L 16 N) := by
  refine lp_fgO b w 16 N (Nat.le_refl _) (swR_rf L N) ?_
  intro j j8 j24 hj hd
  have := (w j j8 j24 hj).2.2.1
  omega
/-- the sweep's end is the class's -/
theorem sw_fg {L : List Int32} {N M : xNs} {d : Nat → Nat} (b : nsB N) (w : dpt N d) (q : swR L N M) (e : swE L M) : M = fgOut L 16 N := by
  obtain ⟨q', e'⟩ := fg_sw (L := L) b w
  exact swR_uq b q e q' e'
end FG
