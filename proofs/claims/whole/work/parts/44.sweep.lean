/-! Names without uses go: the relation, and the model's sweep. -/
section SW
variable {h : xH} {m : Nat} {Z : Nat → Int32} {D : Int64} {A : Nat → Nat → Int32}
/-- each one in U is used by the row or by one in U -/
def clS (L : List Int32) (N : xNs) (U : Nat → Prop) : Prop := ∀ k, 8 ≤ k → k < 24 → U k → N.1 k ≠ -1 ∧ (cntI L (nI k) ≠ 0 ∨ ∃ j, 8 ≤ j ∧ j < 24 ∧ U j ∧ (N.1 j = nI k ∨ N.2.1 j = nI k))
/-- M is N, some names gone, none of them in a closed set -/
def swR (L : List Int32) (N M : xNs) : Prop := (∀ k, (M.1 k = N.1 k ∧ M.2.1 k = N.2.1 k ∧ M.2.2.1 k = N.2.2.1 k ∧ M.2.2.2 k = N.2.2.2 k) ∨ (8 ≤ k ∧ k < 24 ∧ M.1 k = -1 ∧ M.2.1 k = -1 ∧ M.2.2.1 k = 0 ∧ M.2.2.2 k = 0)) ∧ ∀ U, clS L N U → ∀ k, 8 ≤ k → k < 24 → U k → M.1 k = N.1 k ∧ M.2.1 k = N.2.1 k
theorem swR_rf (L : List Int32) (N : xNs) : swR L N N := ⟨fun _ => Or.inl ⟨rfl, rfl, rfl, rfl⟩, fun _ _ _ _ _ _ => ⟨rfl, rfl⟩⟩
theorem usN_pos {fs sn : Nat → Int32} {p : Int32} {j : Nat} (hj : fs j = p ∨ sn j = p) : ∀ (k i : Nat), i ≤ j → j < i + k → usN fs sn p i k ≠ 0 := by
  intro k
  induction k with
  | zero => intro i h1 h2; omega
  | succ k ih =>
    intro i h1 h2
    unfold usN
    by_cases e : i = j
    · subst e
      rcases hj with e | e
      · rw [if_pos e]; omega
      · rw [if_pos e]; omega
    · have := ih (i + 1) (by omega) (by omega)
      omega
theorem swR_out {L : List Int32} {N M : xNs} (q : swR L N M) {v : Nat} (h8 : 8 ≤ v) (h24 : v < 24) (hu : cntI L (nI v) + usN M.1 M.2.1 (nI v) 8 16 = 0) : swR L N (nsOut M v) := by
  refine ⟨fun k => ?_, fun U hU k k8 k24 hk => ?_⟩
  · by_cases e : k = v
    · subst e
      exact Or.inr ⟨h8, h24, va_up_self _ _ _, va_up_self _ _ _, va_up_self _ _ _, va_up_self _ _ _⟩
    · simp only [nsOut, va_up_ne _ _ e]
      exact q.1 k
  · have e : k ≠ v := by
      intro e
      subst e
      rcases (hU k k8 k24 hk).2 with h1 | ⟨j, j8, j24, hj, h1⟩
      · omega
      · obtain ⟨e1, e2⟩ := q.2 U hU j j8 j24 hj
        have := usN_pos (fs := M.1) (sn := M.2.1) (p := nI k) (j := j) (by rw [e1, e2]; exact h1) 16 8 j8 (by omega)
        omega
    simp only [nsOut, va_up_ne _ _ e]
    exact q.2 U hU k k8 k24 hk
/-- the names that there are: all used -/
def swE (L : List Int32) (M : xNs) : Prop := ∀ k, 8 ≤ k → k < 24 → M.1 k ≠ -1 → cntI L (nI k) + usN M.1 M.2.1 (nI k) 8 16 ≠ 0
theorem usN_ex {fs sn : Nat → Int32} {p : Int32} : ∀ (k i : Nat), usN fs sn p i k ≠ 0 → ∃ j, i ≤ j ∧ j < i + k ∧ (fs j = p ∨ sn j = p) := by
  intro k
  induction k with
  | zero => intro i hh; exact absurd rfl hh
  | succ k ih =>
    intro i hh
    unfold usN at hh
    by_cases e1 : fs i = p
    · exact ⟨i, by omega, by omega, Or.inl e1⟩
    · by_cases e2 : sn i = p
      · exact ⟨i, by omega, by omega, Or.inr e2⟩
      · rw [if_neg e1, if_neg e2] at hh
        obtain ⟨j, j1, j2, j3⟩ := ih (i + 1) (by omega)
        exact ⟨j, by omega, by omega, j3⟩
/-- absent names are blank -/
def nsB (N : xNs) : Prop := ∀ k, 8 ≤ k → k < 24 → N.1 k = -1 → N.2.1 k = -1 ∧ N.2.2.1 k = 0 ∧ N.2.2.2 k = 0
theorem nsB_out {N : xNs} (b : nsB N) (v : Nat) : nsB (nsOut N v) := by
  intro k k8 k24 hk
  by_cases e : k = v
  · subst e
    exact ⟨va_up_self _ _ _, va_up_self _ _ _, va_up_self _ _ _⟩
  · simp only [nsOut, va_up_ne _ _ e] at hk ⊢
    exact b k k8 k24 hk
theorem swR_B {L : List Int32} {N M : xNs} (q : swR L N M) (b : nsB N) : nsB M := by
  intro k k8 k24 hk
  rcases q.1 k with ⟨e1, e2, e3, e4⟩ | ⟨_, _, _, e2, e3, e4⟩
  · rw [e2, e3, e4]
    rw [e1] at hk
    exact b k k8 k24 hk
  · exact ⟨e2, e3, e4⟩
/-- what is left is closed -/
theorem swE_cl {L : List Int32} {N M : xNs} (q : swR L N M) (b : nsB N) (e : swE L M) : clS L N (fun k => M.1 k ≠ -1) := by
  intro k k8 k24 hk
  have bM := swR_B q b
  refine ⟨?_, ?_⟩
  · rcases q.1 k with ⟨e1, _⟩ | ⟨_, _, e1, _⟩
    · rw [← e1]; exact hk
    · exact absurd e1 hk
  · have hu := e k k8 k24 hk
    by_cases h1 : cntI L (nI k) = 0
    · rw [h1, Nat.zero_add] at hu
      obtain ⟨j, j1, j2, j3⟩ := usN_ex 16 8 hu
      have hj : M.1 j ≠ -1 := by
        intro z
        obtain ⟨z2, _, _⟩ := bM j j1 (by omega) z
        rcases j3 with e1 | e1
        · rw [z] at e1; exact nI_nm1 (by omega) e1.symm
        · rw [z2] at e1; exact nI_nm1 (by omega) e1.symm
      refine Or.inr ⟨j, j1, by omega, hj, ?_⟩
      rcases q.1 j with ⟨e1, e2, _⟩ | ⟨_, _, e1, _⟩
      · rw [← e1, ← e2]; exact j3
      · exact absurd e1 hj
    · exact Or.inl h1
/-- only one such M -/
theorem swR_uq {L : List Int32} {N M M' : xNs} (b : nsB N) (q : swR L N M) (e : swE L M) (q' : swR L N M') (e' : swE L M') : M = M' := by
  have key : ∀ {M M' : xNs}, swR L N M → swE L M → swR L N M' → ∀ k, 8 ≤ k → k < 24 → M.1 k ≠ -1 → M'.1 k = M.1 k := by
    intro M M' q e q' k k8 k24 hk
    obtain ⟨a1, _⟩ := q'.2 _ (swE_cl q b e) k k8 k24 hk
    rcases q.1 k with ⟨e1, _⟩ | ⟨_, _, e1, _⟩
    · rw [a1, e1]
    · exact absurd e1 hk
  have all : ∀ k, M.1 k = M'.1 k ∧ M.2.1 k = M'.2.1 k ∧ M.2.2.1 k = M'.2.2.1 k ∧ M.2.2.2 k = M'.2.2.2 k := by
    intro k
    by_cases hr : 8 ≤ k ∧ k < 24
    · have eqv : M.1 k = M'.1 k := by
        by_cases h1 : M.1 k = -1
        · by_cases h2 : M'.1 k = -1
          · rw [h1, h2]
          · exact key q' e' q k hr.1 hr.2 h2
        · exact (key q e q' k hr.1 hr.2 h1).symm
      by_cases h1 : M.1 k = -1
      · have b1 := swR_B q b k hr.1 hr.2 h1
        have b2 := swR_B q' b k hr.1 hr.2 (by rw [← eqv]; exact h1)
        exact ⟨eqv, by rw [b1.1, b2.1], by rw [b1.2.1, b2.2.1], by rw [b1.2.2, b2.2.2]⟩
      · rcases q.1 k with ⟨a1, a2, a3, a4⟩ | ⟨_, _, a1, _⟩
        · rcases q'.1 k with ⟨c1, c2, c3, c4⟩ | ⟨_, _, c1, _⟩
          · exact ⟨eqv, by rw [a2, c2], by rw [a3, c3], by rw [a4, c4]⟩
          · exact absurd (eqv.trans c1) h1
        · exact absurd a1 h1
    · rcases q.1 k with ⟨a1, a2, a3, a4⟩ | ⟨z1, z2, _⟩
      · rcases q'.1 k with ⟨c1, c2, c3, c4⟩ | ⟨z1, z2, _⟩
        · exact ⟨by rw [a1, c1], by rw [a2, c2], by rw [a3, c3], by rw [a4, c4]⟩
        · exact absurd ⟨z1, z2⟩ hr
      · exact absurd ⟨z1, z2⟩ hr
  obtain ⟨a, c, d, f⟩ := M
  obtain ⟨a', c', d', f'⟩ := M'
  simp only at all
  have x1 : a = a' := funext fun k => (all k).1
  have x2 : c = c' := funext fun k => (all k).2.1
  have x3 : d = d' := funext fun k => (all k).2.2.1
  have x4 : f = f' := funext fun k => (all k).2.2.2
  rw [x1, x2, x3, x4]
theorem rS_out {s : Nat → Int32} {L : List Int32} {N : xNs} {T : Int32 × Int32 × Int32 × Int32} (r : rS s (L, N, T)) {v : Nat} (h8 : 8 ≤ v) (h24 : v < 24) : rS (va_up s (57 + v) 0) (L, nsOut N v, T) := by
  obtain ⟨r1, r2, r3, r4, r5, r6, r7, r8⟩ := r
  simp only at r1 r2 r3 r4 r5 r6 r7 r8
  refine ⟨by rw [va_up_ne _ _ (by omega)]; exact r1, r2, fun i hi => by rw [va_up_ne _ _ (show 1 + i ≠ 57 + v by simp only at hi; omega)]; exact r3 i hi, fun k k8 k24 => ?_, by rw [va_up_ne _ _ (by omega)]; exact r5, by rw [va_up_ne _ _ (by omega)]; exact r6, by rw [va_up_ne _ _ (by omega)]; exact r7, by rw [va_up_ne _ _ (by omega)]; exact r8⟩
  simp only
  by_cases e : k = v
  · subst e
    simp only [nsOut, va_up_self]
    exact ⟨rfl, fun z => absurd rfl z⟩
  · simp only [nsOut, va_up_ne _ _ e]
    rw [va_up_ne _ _ (show 57 + k ≠ 57 + v by omega), va_up_ne _ _ (show 73 + k ≠ 57 + v by omega), va_up_ne _ _ (show 89 + k ≠ 57 + v by omega)]
    exact r4 k k8 k24
theorem okQ_B {N : xNs} (b : nsB N) : okQ N := fun k k8 k24 hk => (b k k8 k24 hk).1
/-- how many names, over 16 -/
def nmC (N : xNs) : Nat := namN N.1 8 16
theorem namN_out (f : Nat → Int32) (v : Nat) (hv : f v ≠ -1) : ∀ (k i : Nat), i ≤ v → v < i + k → namN (va_up f v (-1)) i k + 1 = namN f i k := by
  have same : ∀ (k i : Nat), v < i → namN (va_up f v (-1)) i k = namN f i k := by
    intro k
    induction k with
    | zero => intro i _; rfl
    | succ k ih => intro i hi; rw [namN, namN, ih (i + 1) (by omega), va_up_ne _ _ (show i ≠ v by omega)]
  intro k
  induction k with
  | zero => intro i h1 h2; omega
  | succ k ih =>
    intro i h1 h2
    rw [namN, namN]
    by_cases e : i = v
    · subst e
      rw [same k (i + 1) (by omega), va_up_self, if_pos rfl, if_neg hv]
      omega
    · have := ih (i + 1) (by omega) (by omega)
      rw [va_up_ne _ _ e]
      omega
theorem lp_swI {L : List Int32} {N : xNs} {T : Int32 × Int32 × Int32 × Int32} (b0 : nsB N) : ∀ (k i : Nat) (h : xH) (A : Nat → Nat → Int32) (M : xNs) (w : Bool), 8 ≤ i → i + k = 24 → isMo h m Z D A → rS (A 1) (L, M, T) → swR L N M → (w = false → ∀ j, 8 ≤ j → j < i → M.1 j ≠ -1 → cntI L (nI j) + usN M.1 M.2.1 (nI j) 8 16 ≠ 0) →
    ∃ h' f M' w', xf 119 11 [some (.ref m), some (.int (b32 w)), some (.int (nI i))] [] h = xf 119 2 [some (.ref m), some (.int (b32 w')), some (.int (nI 24))] [] h' ∧ isMo h' m Z D (va_up A 1 f) ∧ rS f (L, M', T) ∧ swR L N M' ∧ (w' = false → swE L M') ∧ nmC M' ≤ nmC M ∧ (w = false → w' = true → nmC M' < nmC M) ∧ xFr m (m + 10) h h' := by
  intro k
  induction k with
  | zero =>
    intro i h A M w h8 hk q r s e
    have h2 : ¬ nI i < 24 := nI_nlt (b := 24) (by omega) (by omega)
    have hi : i = 24 := by omega
    subst hi
    refine ⟨h, A 1, M, w, ?_, by rw [va_up_eta]; exact q, r, s, fun z => e z, Nat.le_refl _, fun z1 z2 => absurd (z1.symm.trans z2) (by decide), xFr.rf⟩
    rw [u_X8_sweep_11]
    simp only [u_X8_sweep_12, u_X8_sweep_14, u_X8_sweep_60, h2, if_false, xgo_some, xgo_none, xgoI_none, xcat_n, xcat_i, xcat_r, xcat_z, List.length_nil, List.length_cons, List.getD_cons_zero, List.getD_cons_succ, List.set_cons_zero, List.set_cons_succ, Nat.zero_le, Nat.reduceAdd, Nat.reduceLeDiff, Nat.reduceEqDiff, reduceIte]
  | succ k ih =>
    intro i h A M w h8 hk q r s e
    have h2 : nI i < 24 := nI_lt (b := 24) (by omega) (by omega)
    have h24 : i < 24 := by omega
    have bM := swR_B s b0
    have pp := m_isPart q r (nI i)
    simp only [hasP_nI h8 h24] at pp
    have pr := m_inRow q r (nI i)
    have pi := m_inPairs q r (okQ_B bM) (nI i) (nI_nm1 (by omega))
    simp only at pr pi
    by_cases h3 : M.1 i = -1
    · rw [decide_eq_false (fun z => z h3)] at pp
      obtain ⟨h', f, M', w', a1, a2, a3, a4, a5, a6, a7, a8⟩ := ih (i + 1) h A M w (by omega) (by omega) q r s (by
        intro z j j1 j2 j3
        by_cases ej : j = i
        · rw [ej] at j3; exact absurd h3 j3
        · exact e z j j1 (by omega) j3)
      refine ⟨h', f, M', w', ?_, a2, a3, a4, a5, a6, a7, a8⟩
      rw [u_X8_sweep_11]
      simp only [u_X8_sweep_0, u_X8_sweep_1, u_X8_sweep_3, u_X8_sweep_6, u_X8_sweep_7, u_X8_sweep_8, u_X8_sweep_10, u_X8_sweep_12, u_X8_sweep_14, u_X8_sweep_17, u_X8_sweep_18, u_X8_sweep_19, u_X8_sweep_22, u_X8_sweep_25, u_X8_sweep_26, u_X8_sweep_27, u_X8_sweep_30, u_X8_sweep_31, u_X8_sweep_32, u_X8_sweep_35, u_X8_sweep_36, u_X8_sweep_39, u_X8_sweep_40, u_X8_sweep_43, u_X8_sweep_45, u_X8_sweep_46, u_X8_sweep_47, u_X8_sweep_49, u_X8_sweep_50, u_X8_sweep_51, u_X8_sweep_52, u_X8_sweep_53, u_X8_sweep_54, u_X8_sweep_57, u_X8_sweep_63, h2, q.ob, pp, b32_f, nI_of1, if_true, xgo_some, xgo_none, xgoI_none, xcat_n, xcat_i, xcat_r, xcat_z, List.length_nil, List.length_cons, List.getD_cons_zero, List.getD_cons_succ, List.set_cons_zero, List.set_cons_succ, Nat.zero_le, Nat.reduceAdd, Nat.reduceLeDiff, Nat.reduceEqDiff, reduceIte]
      exact a1
    · rw [decide_eq_true h3] at pp
      by_cases h4 : cntI L (nI i) + usN M.1 M.2.1 (nI i) 8 16 = 0
      · have hx : xix (nI (57 + i)) 117 := xix_nI (by omega) (by decide)
        have ei : (65 : Int32) + nI i - 8 = nI (57 + i) := nI_ix 65 i h8 (by omega)
        have q1 := mo_w q (k := 1) (by decide) (by decide) (57 + i) 0
        have r1 := rS_out r h8 h24
        obtain ⟨h', f, M', w', a1, a2, a3, a4, a5, a6, a7, a8⟩ := ih (i + 1) _ _ (nsOut M i) true (by omega) (by omega) q1 (by rw [va_up_self]; exact r1) (swR_out s h8 h24 h4) (fun z => absurd z (by decide))
        have hc : nmC (nsOut M i) + 1 = nmC M := namN_out M.1 i h3 16 8 h8 (by omega)
        rw [va_up_up] at a2
        refine ⟨h', f, M', w', ?_, a2, a3, a4, a5, by omega, fun _ _ => by omega, (xFr_si _ _ _ _ _ (by decide)).tr a8⟩
        rw [u_X8_sweep_11]
        simp only [u_X8_sweep_0, u_X8_sweep_1, u_X8_sweep_3, u_X8_sweep_6, u_X8_sweep_7, u_X8_sweep_8, u_X8_sweep_10, u_X8_sweep_12, u_X8_sweep_14, u_X8_sweep_17, u_X8_sweep_18, u_X8_sweep_19, u_X8_sweep_22, u_X8_sweep_25, u_X8_sweep_26, u_X8_sweep_27, u_X8_sweep_30, u_X8_sweep_31, u_X8_sweep_32, u_X8_sweep_35, u_X8_sweep_36, u_X8_sweep_39, u_X8_sweep_40, u_X8_sweep_43, u_X8_sweep_45, u_X8_sweep_46, u_X8_sweep_47, u_X8_sweep_49, u_X8_sweep_50, u_X8_sweep_51, u_X8_sweep_52, u_X8_sweep_53, u_X8_sweep_54, u_X8_sweep_57, u_X8_sweep_63, h2, q.ob, q.a1, pp, pr, pi, nI_add, h4, nI_0, b32_t, i10, hx, ei, nI_clamp (show 57 + i < 2 ^ 31 by omega), nI_of1, if_true, if_false, xgo_some, xgo_none, xgoI_none, xcat_n, xcat_i, xcat_r, xcat_z, List.length_nil, List.length_cons, List.getD_cons_zero, List.getD_cons_succ, List.set_cons_zero, List.set_cons_succ, Nat.zero_le, Nat.reduceAdd, Nat.reduceLeDiff, Nat.reduceEqDiff, reduceIte]
        exact a1
      · have hc := cntI_le L (nI i)
        have hL := r.2.1
        simp only at hL
        have hu := usN_le M.1 M.2.1 (nI i) 16 8
        have h5 : ¬ nI (cntI L (nI i) + usN M.1 M.2.1 (nI i) 8 16) = 0 := nI_ne0 (by omega) (by omega)
        obtain ⟨h', f, M', w', a1, a2, a3, a4, a5, a6, a7, a8⟩ := ih (i + 1) h A M w (by omega) (by omega) q r s (by
          intro z j j1 j2 j3
          by_cases ej : j = i
          · rw [ej]; exact h4
          · exact e z j j1 (by omega) j3)
        refine ⟨h', f, M', w', ?_, a2, a3, a4, a5, a6, a7, a8⟩
        rw [u_X8_sweep_11]
        simp only [u_X8_sweep_0, u_X8_sweep_1, u_X8_sweep_3, u_X8_sweep_6, u_X8_sweep_7, u_X8_sweep_8, u_X8_sweep_10, u_X8_sweep_12, u_X8_sweep_14, u_X8_sweep_17, u_X8_sweep_18, u_X8_sweep_19, u_X8_sweep_22, u_X8_sweep_25, u_X8_sweep_26, u_X8_sweep_27, u_X8_sweep_30, u_X8_sweep_31, u_X8_sweep_32, u_X8_sweep_35, u_X8_sweep_36, u_X8_sweep_39, u_X8_sweep_40, u_X8_sweep_43, u_X8_sweep_45, u_X8_sweep_46, u_X8_sweep_47, u_X8_sweep_49, u_X8_sweep_50, u_X8_sweep_51, u_X8_sweep_52, u_X8_sweep_53, u_X8_sweep_54, u_X8_sweep_57, u_X8_sweep_63, h2, q.ob, pp, pr, pi, nI_add, h5, b32_t, i10, nI_of1, if_true, if_false, xgo_some, xgo_none, xgoI_none, xcat_n, xcat_i, xcat_r, xcat_z, List.length_nil, List.length_cons, List.getD_cons_zero, List.getD_cons_succ, List.set_cons_zero, List.set_cons_succ, Nat.zero_le, Nat.reduceAdd, Nat.reduceLeDiff, Nat.reduceEqDiff, reduceIte]
        exact a1
theorem lp_swO {L : List Int32} {N : xNs} {T : Int32 × Int32 × Int32 × Int32} (b0 : nsB N) : ∀ (k : Nat) (h : xH) (A : Nat → Nat → Int32) (M : xNs) (l2 : Option Value), nmC M ≤ k → isMo h m Z D A → rS (A 1) (L, M, T) → swR L N M →
    ∃ h' f M', xf 119 2 [some (.ref m), some (.int 1), l2] [] h = some (.inl none, h') ∧ isMo h' m Z D (va_up A 1 f) ∧ rS f (L, M', T) ∧ swR L N M' ∧ swE L M' ∧ xFr m (m + 10) h h' := by
  intro k
  induction k with
  | zero =>
    intro h A M l2 hk q r s
    obtain ⟨h', f, M', w', a1, a2, a3, a4, a5, a6, a7, a8⟩ := lp_swI b0 16 8 h A M false (by omega) (by omega) q r s (fun _ j j1 j2 => by omega)
    cases w' with
    | false =>
      refine ⟨h', f, M', ?_, a2, a3, a4, a5 rfl, a8⟩
      rw [u_X8_sweep_2]
      simp only [u_X8_sweep_3, u_X8_sweep_6, u_X8_sweep_7, u_X8_sweep_8, u_X8_sweep_10, i10, if_false, xgo_some, xgo_none, xgoI_none, xcat_n, xcat_i, xcat_r, xcat_z, List.length_nil, List.length_cons, List.getD_cons_zero, List.getD_cons_succ, List.set_cons_zero, List.set_cons_succ, Nat.zero_le, Nat.reduceAdd, Nat.reduceLeDiff, Nat.reduceEqDiff, reduceIte]
      rw [show (0 : Int32) = b32 false from rfl, show (8 : Int32) = nI 8 from rfl, a1, u_X8_sweep_2]
      simp only [u_X8_sweep_3, u_X8_sweep_63, b32_f, if_true, xgo_some, xgo_none, xgoI_none, xcat_n, xcat_i, xcat_r, xcat_z, List.length_nil, List.length_cons, List.getD_cons_zero, List.getD_cons_succ, List.set_cons_zero, List.set_cons_succ, Nat.zero_le, Nat.reduceAdd, Nat.reduceLeDiff, Nat.reduceEqDiff, reduceIte]
    | true => have := a7 rfl rfl; omega
  | succ k ih =>
    intro h A M l2 hk q r s
    obtain ⟨h', f, M', w', a1, a2, a3, a4, a5, a6, a7, a8⟩ := lp_swI b0 16 8 h A M false (by omega) (by omega) q r s (fun _ j j1 j2 => by omega)
    cases w' with
    | false =>
      refine ⟨h', f, M', ?_, a2, a3, a4, a5 rfl, a8⟩
      rw [u_X8_sweep_2]
      simp only [u_X8_sweep_3, u_X8_sweep_6, u_X8_sweep_7, u_X8_sweep_8, u_X8_sweep_10, i10, if_false, xgo_some, xgo_none, xgoI_none, xcat_n, xcat_i, xcat_r, xcat_z, List.length_nil, List.length_cons, List.getD_cons_zero, List.getD_cons_succ, List.set_cons_zero, List.set_cons_succ, Nat.zero_le, Nat.reduceAdd, Nat.reduceLeDiff, Nat.reduceEqDiff, reduceIte]
      rw [show (0 : Int32) = b32 false from rfl, show (8 : Int32) = nI 8 from rfl, a1, u_X8_sweep_2]
      simp only [u_X8_sweep_3, u_X8_sweep_63, b32_f, if_true, xgo_some, xgo_none, xgoI_none, xcat_n, xcat_i, xcat_r, xcat_z, List.length_nil, List.length_cons, List.getD_cons_zero, List.getD_cons_succ, List.set_cons_zero, List.set_cons_succ, Nat.zero_le, Nat.reduceAdd, Nat.reduceLeDiff, Nat.reduceEqDiff, reduceIte]
    | true =>
      have hd := a7 rfl rfl
      obtain ⟨h2, f2, M2, c1, c2, c3, c4, c5, c6⟩ := ih h' _ M' (some (.int (nI 24))) (by omega) a2 (by rw [va_up_self]; exact a3) a4
      rw [va_up_up] at c2
      refine ⟨h2, f2, M2, ?_, c2, c3, c4, c5, a8.tr c6⟩
      rw [u_X8_sweep_2]
      simp only [u_X8_sweep_3, u_X8_sweep_6, u_X8_sweep_7, u_X8_sweep_8, u_X8_sweep_10, i10, if_false, xgo_some, xgo_none, xgoI_none, xcat_n, xcat_i, xcat_r, xcat_z, List.length_nil, List.length_cons, List.getD_cons_zero, List.getD_cons_succ, List.set_cons_zero, List.set_cons_succ, Nat.zero_le, Nat.reduceAdd, Nat.reduceLeDiff, Nat.reduceEqDiff, reduceIte]
      rw [show (0 : Int32) = b32 false from rfl, show (8 : Int32) = nI 8 from rfl, a1]
      exact c1
theorem m_sweep {L : List Int32} {N : xNs} {T : Int32 × Int32 × Int32 × Int32} (b0 : nsB N) (q : isMo h m Z D A) (r : rS (A 1) (L, N, T)) : ∃ h' f M', xev 119 [.ref m] h = some (.inl none, h') ∧ isMo h' m Z D (va_up A 1 f) ∧ rS f (L, M', T) ∧ swR L N M' ∧ swE L M' ∧ xFr m (m + 10) h h' := by
  obtain ⟨h', f, M', a1, a2⟩ := lp_swO b0 (nmC N) h A N none (Nat.le_refl _) q r (swR_rf L N)
  refine ⟨h', f, M', ?_, a2⟩
  rw [e_X8_sweep]
  simp only [u_X8_sweep_0, u_X8_sweep_1, xgo_some, xgo_none, xgoI_none, xcat_n, xcat_i, xcat_r, xcat_z, List.length_nil, List.length_cons, List.getD_cons_zero, List.getD_cons_succ, List.set_cons_zero, List.set_cons_succ, Nat.zero_le, Nat.reduceAdd, Nat.reduceLeDiff, Nat.reduceEqDiff, reduceIte]
  exact a1
end SW
