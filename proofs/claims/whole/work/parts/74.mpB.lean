/-! The model: what would be; the share. -/
section NH
variable {m : Nat} {d l : Nat → Nat}
theorem all_sp : ∀ (k n : Nat) (X : xS), n ≤ (allF k n X).1 ∧ (allF k n X).2.2.2.2.2.1 = X.2.2.2.2.1 + nI ((allF k n X).1 - n) := by
  intro k
  induction k with
  | zero =>
    intro n X
    rw [allF]
    refine ⟨Nat.le_refl _, ?_⟩
    simp only
    rw [Nat.sub_self, show nI 0 = 0 from rfl, Int32.add_zero]
  | succ k ih =>
    intro n X
    rw [allF]
    by_cases g : (fdF X.1 X.2.1 X.2.2.1).2.2.2 = -1
    · rw [if_pos g]
      refine ⟨Nat.le_refl _, ?_⟩
      simp only
      rw [Nat.sub_self, show nI 0 = 0 from rfl, Int32.add_zero]
    · rw [if_neg g]
      obtain ⟨i1, i2⟩ := ih (n + 1) (apF X (fdF X.1 X.2.1 X.2.2.1))
      refine ⟨by omega, ?_⟩
      rw [i2]
      have e : (apF X (fdF X.1 X.2.1 X.2.2.1)).2.2.2.2.1 = X.2.2.2.2.1 + 1 := rfl
      rw [e, show (1 : Int32) = nI 1 from rfl, Int32.add_assoc, nI_add]
      exact congrArg (fun z => X.2.2.2.2.1 + nI z) (by omega)
theorem trX_self (X : xS) : trX X X.2.2.1 = (allF 64 0 X).2 := rfl
theorem tnX_0 (X : xS) : (trX X X.2.2.1).2.2.2.2.1 - X.2.2.2.2.1 = nI (allF 64 0 X).1 := by
  rw [trX_self, (all_sp 64 0 X).2, Nat.sub_zero, Int32.add_comm]
  exact Int32.add_sub_cancel _ _
theorem m_named {h : xH} {Z : Nat → Int32} {D : Int64} {A : Nat → Nat → Int32} {X : xS} {o : Nat} (q : isMo h m Z D A) (r : rS (A 1) X) (hR : rOk X.1) (eo : X.2.2.1 = nI o) (ho : 1 ≤ o) (ho2 : o < 2 ^ 31) (w1 : wfN (trX X X.2.2.1).2.1 d l) (pr1 : rPr (trX X X.2.2.1).1 (trX X X.2.2.1).2.1) (v : Int32) :
    ∃ h' Z' A', xev 150 [.ref m, .int v] h = some (.inl (some (.int (tnX X (trX X X.2.2.1) v))), h') ∧ isMo h' m Z' D A' ∧ zE Z Z' ∧ rS (A' 1) X ∧ A' 3 = A 3 ∧ A' 4 = A 4 ∧ xFr m (m + 10) h h' := by
  obtain ⟨h1, a1, a2, a3⟩ := m_aside q
  obtain ⟨h2, Z2, f, b1, b2, b3, b4, b5⟩ := m_steps a2 (by rw [va_up_ne _ _ (show 1 ≠ 2 by decide)]; exact r) hR eo ho ho2
  rw [← trX_self] at b3
  obtain ⟨h3, A3, c1, c2, c3, c4, c5⟩ := m_layOut b2 (by rw [va_up_self]; exact b3) w1
  have r3 : rS (A3 1) (trX X X.2.2.1) := by rw [c3 1 (by decide), va_up_self]; exact b3
  have e2 : A3 2 = cpG 0 117 (A 2) (A 1) := by rw [c3 2 (by decide), va_up_ne _ _ (by decide), va_up_self]
  have e3 : A3 3 = A 3 := by rw [c3 3 (by decide), va_up_ne _ _ (by decide), va_up_ne _ _ (by decide)]
  have e4 : A3 4 = A 4 := by rw [c3 4 (by decide), va_up_ne _ _ (by decide), va_up_ne _ _ (by decide)]
  have p1 := m_size c2 r3
  have p2 := m_deep c2 r3 c4 pr1
  obtain ⟨h4, d1, d2, d3⟩ := m_back c2
  have r4 : rS (cpG 0 117 (A3 1) (A3 2)) X := by
    refine rS_cg (fun i hi => ?_) r
    unfold cpG
    rw [if_pos ⟨Nat.zero_le _, hi⟩, e2]
    unfold cpG
    rw [if_pos ⟨Nat.zero_le _, hi⟩]
  refine ⟨h4, Z2, _, ?_, d2, b4, by rw [va_up_self]; exact r4, by rw [va_up_ne _ _ (by decide)]; exact e3, by rw [va_up_ne _ _ (by decide)]; exact e4, ((a3.tr b5).tr c5).tr d3⟩
  rw [e_X8_named]
  unfold tnX
  by_cases v0 : v = 0
  · rw [if_pos v0, tnX_0]
    simp only [u_X8_named_0, u_X8_named_1, u_X8_named_4, u_X8_named_5, u_X8_named_8, u_X8_named_9, u_X8_named_10, u_X8_named_13, u_X8_named_14, u_X8_named_17, u_X8_named_18, u_X8_named_21, u_X8_named_22, u_X8_named_23, u_X8_named_26, u_X8_named_27, u_X8_named_30, u_X8_named_31, u_X8_named_32, u_X8_named_35, u_X8_named_36, u_X8_named_37, u_X8_named_40, u_X8_named_41, u_X8_named_44, u_X8_named_47, u_X8_named_48, u_X8_named_51, u_X8_named_52, u_X8_named_53, u_X8_named_56, u_X8_named_57, q.ob, a1, a2.ob, b1, b2.ob, c1, c2.ob, v0, d1, if_true, xgo_some, xgo_none, xgoI_none, xcat_n, xcat_i, xcat_r, xcat_z, List.length_nil, List.length_cons, List.getD_cons_zero, List.getD_cons_succ, List.set_cons_zero, List.set_cons_succ, Nat.zero_le, Nat.reduceAdd, Nat.reduceLeDiff, Nat.reduceEqDiff, reduceIte]
  · rw [if_neg v0]
    by_cases v1 : v = 1
    · rw [if_pos v1]
      have r30 := r3.1
      simp only [u_X8_named_0, u_X8_named_1, u_X8_named_4, u_X8_named_5, u_X8_named_8, u_X8_named_9, u_X8_named_10, u_X8_named_13, u_X8_named_14, u_X8_named_17, u_X8_named_18, u_X8_named_21, u_X8_named_22, u_X8_named_23, u_X8_named_26, u_X8_named_27, u_X8_named_30, u_X8_named_31, u_X8_named_32, u_X8_named_35, u_X8_named_36, u_X8_named_37, u_X8_named_40, u_X8_named_41, u_X8_named_44, u_X8_named_47, u_X8_named_48, u_X8_named_51, u_X8_named_52, u_X8_named_53, u_X8_named_56, u_X8_named_57, q.ob, a1, a2.ob, b1, b2.ob, c1, c2.ob, c2.a1, x0117, c00, r30, v1, i10, d1, if_true, if_false, xgo_some, xgo_none, xgoI_none, xcat_n, xcat_i, xcat_r, xcat_z, List.length_nil, List.length_cons, List.getD_cons_zero, List.getD_cons_succ, List.set_cons_zero, List.set_cons_succ, Nat.zero_le, Nat.reduceAdd, Nat.reduceLeDiff, Nat.reduceEqDiff, reduceIte]
    · rw [if_neg v1]
      by_cases v2 : v = 2
      · rw [if_pos v2]
        subst v2
        simp only [u_X8_named_0, u_X8_named_1, u_X8_named_4, u_X8_named_5, u_X8_named_8, u_X8_named_9, u_X8_named_10, u_X8_named_13, u_X8_named_14, u_X8_named_17, u_X8_named_18, u_X8_named_21, u_X8_named_22, u_X8_named_23, u_X8_named_26, u_X8_named_27, u_X8_named_30, u_X8_named_31, u_X8_named_32, u_X8_named_35, u_X8_named_36, u_X8_named_37, u_X8_named_40, u_X8_named_41, u_X8_named_44, u_X8_named_47, u_X8_named_48, u_X8_named_51, u_X8_named_52, u_X8_named_53, u_X8_named_56, u_X8_named_57, q.ob, a1, a2.ob, b1, b2.ob, c1, c2.ob, v0, v1, p1, d1, if_true, if_false, xgo_some, xgo_none, xgoI_none, xcat_n, xcat_i, xcat_r, xcat_z, List.length_nil, List.length_cons, List.getD_cons_zero, List.getD_cons_succ, List.set_cons_zero, List.set_cons_succ, Nat.zero_le, Nat.reduceAdd, Nat.reduceLeDiff, Nat.reduceEqDiff, reduceIte]
        rfl
      · rw [if_neg v2]
        simp only [u_X8_named_0, u_X8_named_1, u_X8_named_4, u_X8_named_5, u_X8_named_8, u_X8_named_9, u_X8_named_10, u_X8_named_13, u_X8_named_14, u_X8_named_17, u_X8_named_18, u_X8_named_21, u_X8_named_22, u_X8_named_23, u_X8_named_26, u_X8_named_27, u_X8_named_30, u_X8_named_31, u_X8_named_32, u_X8_named_35, u_X8_named_36, u_X8_named_37, u_X8_named_40, u_X8_named_41, u_X8_named_44, u_X8_named_47, u_X8_named_48, u_X8_named_51, u_X8_named_52, u_X8_named_53, u_X8_named_56, u_X8_named_57, q.ob, a1, a2.ob, b1, b2.ob, c1, c2.ob, v0, v1, v2, p2, d1, if_false, xgo_some, xgo_none, xgoI_none, xcat_n, xcat_i, xcat_r, xcat_z, List.length_nil, List.length_cons, List.getD_cons_zero, List.getD_cons_succ, List.set_cons_zero, List.set_cons_succ, Nat.zero_le, Nat.reduceAdd, Nat.reduceLeDiff, Nat.reduceEqDiff, reduceIte]
theorem M_ifNamed {h : xH} {t : Int32} {P : pP} {o : Nat} (p : isMP h m t P) (hR : rOk P.1.1) (eo : P.1.2.2.1 = nI o) (ho : 1 ≤ o) (ho2 : o < 2 ^ 31) (w1 : wfN (trX P.1 P.1.2.2.1).2.1 d l) (pr1 : rPr (trX P.1 P.1.2.2.1).1 (trX P.1 P.1.2.2.1).2.1) (v : Int32) : outM m P (fun _ => 1) h (xev 151 [.ref m, .int v] h) (sp_ifNamed P v) := by
  obtain ⟨Z, D, A, q, z0, r, z4, h6, w, z6, hC, hT⟩ := p
  have pi := m_in (h := h) v 0 3
  unfold sp_ifNamed
  rw [e_X8_ifNamed]
  by_cases hv : v < 0 ∨ 3 < v
  · rw [if_pos hv]
    rw [if_neg (fun z => hv.elim z.1 z.2)] at pi
    have ph := m_holds q 1
    rw [if_neg i10] at ph
    refine ⟨_, 0, ?_, MP_no q r z4 h6 w z6 hC hT, xFr_mo _ _ _ _⟩
    simp only [u_X8_ifNamed_0, u_X8_ifNamed_1, u_X8_ifNamed_2, u_X8_ifNamed_3, u_X8_ifNamed_4, u_X8_ifNamed_7, u_X8_ifNamed_10, u_X8_ifNamed_11, u_X8_ifNamed_14, u_X8_ifNamed_15, u_X8_ifNamed_18, u_X8_ifNamed_21, u_X8_ifNamed_22, u_X8_ifNamed_23, u_X8_ifNamed_26, u_X8_ifNamed_29, u_X8_ifNamed_30, q.ob, pi, ph, if_true, xgo_some, xgo_none, xgoI_none, xcat_n, xcat_i, xcat_r, xcat_z, List.length_nil, List.length_cons, List.getD_cons_zero, List.getD_cons_succ, List.set_cons_zero, List.set_cons_succ, Nat.zero_le, Nat.reduceAdd, Nat.reduceLeDiff, Nat.reduceEqDiff, reduceIte]
  · rw [if_neg hv]
    rw [if_pos ⟨fun z => hv (Or.inl z), fun z => hv (Or.inr z)⟩] at pi
    have ph := m_holds q 0
    rw [if_pos rfl] at ph
    have q0 := mo_z0 q 0
    obtain ⟨h1, Z1, A1, a1, a2, a3, a4, a5, a6, a7⟩ := m_named q0 r hR eo ho ho2 w1 pr1 v
    refine ⟨h1, ?_, ⟨Z1, D, A1, a2, by rw [a3 0 (by decide) (by decide) (by decide) (by decide), va_up_self], a4, by rw [a3 4 (by decide) (by decide) (by decide) (by decide), va_up_ne _ _ (by decide)]; exact z4, h6, by rw [a5]; exact w, by rw [a3 6 (by decide) (by decide) (by decide) (by decide), va_up_ne _ _ (by decide)]; exact z6, hC, by rw [a6]; exact hT⟩, (xFr_mo _ _ _ _).tr a7⟩
    simp only [u_X8_ifNamed_0, u_X8_ifNamed_1, u_X8_ifNamed_2, u_X8_ifNamed_3, u_X8_ifNamed_4, u_X8_ifNamed_7, u_X8_ifNamed_10, u_X8_ifNamed_11, u_X8_ifNamed_14, u_X8_ifNamed_15, u_X8_ifNamed_18, u_X8_ifNamed_21, u_X8_ifNamed_22, u_X8_ifNamed_23, u_X8_ifNamed_26, u_X8_ifNamed_29, u_X8_ifNamed_30, q.ob, pi, ph, i10, q0.ob, a1, if_false, xgo_some, xgo_none, xgoI_none, xcat_n, xcat_i, xcat_r, xcat_z, List.length_nil, List.length_cons, List.getD_cons_zero, List.getD_cons_succ, List.set_cons_zero, List.set_cons_succ, Nat.zero_le, Nat.reduceAdd, Nat.reduceLeDiff, Nat.reduceEqDiff, reduceIte]
/-- one round of best -/
theorem bst_st {h : xH} {Z : Nat → Int32} {D : Int64} {A : Nat → Nat → Int32} {X : xS} {o : Nat} (q : isMo h m Z D A) (r : rS (A 1) X) (r2 : rS (A 2) X) (hR : rOk X.1) (ho : 1 ≤ o) (ho2 : o < 2 ^ 31) :
    ∃ h1 Z1 A1 h' A', isMo (xsi h (m + 1) 113 (nI o)) m Z D (va_up A 1 (va_up (A 1) 113 (nI o))) ∧ (∃ n, xev 126 [.ref m] (xsi h (m + 1) 113 (nI o)) = some (.inl (some (.int n)), h1)) ∧ isMo h1 m Z1 D A1 ∧ xev 112 [.ref m] h1 = some (.inl (some (.int (nI ((trX X (nI o)).1.length + 2 * namN (trX X (nI o)).2.1.1 8 16)))), h1) ∧ xev 103 [.ref m] h1 = some (.inl none, h') ∧ isMo h' m Z1 D A' ∧ zE Z Z1 ∧ rS (A' 1) X ∧ rS (A' 2) X ∧ A' 3 = A 3 ∧ A' 4 = A 4 ∧ xFr m (m + 10) h h' := by
  have q1 := mo_w q (k := 1) (by decide) (by decide) 113 (nI o)
  have rs := rS_set r (k := 0) (by decide) (nI o)
  rw [show seU X (nI 0) (nI o) = (X.1, X.2.1, nI o, X.2.2.2) from if_pos rfl] at rs
  obtain ⟨h1, Z1, f, b1, b2, b3, b4, b5⟩ := m_steps (X := (X.1, X.2.1, nI o, X.2.2.2)) q1 (by rw [va_up_self]; exact rs) hR rfl ho ho2
  have p1 := m_size b2 (by rw [va_up_self]; exact b3)
  obtain ⟨h', d1, d2, d3⟩ := m_back b2
  rw [va_up_up, va_up_up, va_up_self] at d2
  have e2 : va_up (va_up A 1 (va_up (A 1) 113 (nI o))) 1 f 2 = A 2 := by rw [va_up_ne _ _ (by decide), va_up_ne _ _ (by decide)]
  rw [e2] at d2
  refine ⟨h1, Z1, _, h', _, q1, ⟨_, b1⟩, b2, p1, d1, d2, b4, ?_, ?_, va_up_ne _ _ (by decide), va_up_ne _ _ (by decide), ((xFr_si _ _ _ _ _ (by decide)).tr b5).tr d3⟩
  · rw [va_up_self]
    exact rS_cg (fun i hi => (if_pos ⟨Nat.zero_le _, hi⟩).symm) r2
  · rw [va_up_ne _ _ (by decide)]; exact r2
theorem lp_bst {D : Int64} {X : xS} (hR : rOk X.1) : ∀ (k o : Nat) (h : xH) (Z : Nat → Int32) (A : Nat → Nat → Int32) (b s : Int32) (l4 l5 : Option Value), 3 ≤ o → o + k = 10 → isMo h m Z D A → rS (A 1) X → rS (A 2) X →
    ∃ h' Z' A', xf 152 10 [some (.ref m), some (.int b), some (.int s), some (.int (nI o)), l4, l5] [] h = some (.inl (some (.int (boF X o k b s))), h') ∧ isMo h' m Z' D A' ∧ zE Z Z' ∧ rS (A' 1) X ∧ A' 3 = A 3 ∧ A' 4 = A 4 ∧ xFr m (m + 10) h h' := by
  intro k
  induction k with
  | zero =>
    intro o h Z A b s l4 l5 h3 hk q r r2
    have h2 : (9 : Int32) < nI o := nI_lt (a := 9) (by omega) (by omega)
    refine ⟨h, Z, A, ?_, q, fun _ _ _ _ _ => rfl, r, rfl, rfl, xFr.rf⟩
    rw [u_X8_best_10]
    simp only [u_X8_best_0, u_X8_best_1, u_X8_best_2, u_X8_best_3, u_X8_best_4, u_X8_best_5, u_X8_best_8, u_X8_best_9, u_X8_best_11, u_X8_best_13, u_X8_best_16, u_X8_best_17, u_X8_best_20, u_X8_best_22, u_X8_best_23, u_X8_best_24, u_X8_best_25, u_X8_best_28, u_X8_best_30, u_X8_best_31, u_X8_best_34, u_X8_best_36, u_X8_best_37, u_X8_best_38, u_X8_best_41, u_X8_best_43, u_X8_best_44, u_X8_best_47, u_X8_best_48, u_X8_best_51, u_X8_best_52, u_X8_best_53, u_X8_best_54, u_X8_best_55, u_X8_best_58, u_X8_best_60, u_X8_best_61, u_X8_best_64, u_X8_best_66, u_X8_best_69, u_X8_best_70, u_X8_best_71, u_X8_best_72, u_X8_best_75, u_X8_best_78, u_X8_best_81, u_X8_best_82, h2, if_true, boF, xgo_some, xgo_none, xgoI_none, xcat_n, xcat_i, xcat_r, xcat_z, List.length_nil, List.length_cons, List.getD_cons_zero, List.getD_cons_succ, List.set_cons_zero, List.set_cons_succ, Nat.zero_le, Nat.reduceAdd, Nat.reduceLeDiff, Nat.reduceEqDiff, reduceIte]
  | succ k ih =>
    intro o h Z A b s l4 l5 h3 hk q r r2
    have h2 : ¬ (9 : Int32) < nI o := nI_nlt (a := 9) (by omega) (by omega)
    have n2 : ¬ nI o = 2 := fun z => by
      have := (nI_eq (b := 2) (by omega) (by decide)).mp z
      omega
    obtain ⟨h1, Z1, A1, h4, A4, c1, ⟨n, c2⟩, c3, c4, c5, c6, c7, c8, c9, c10, c11, c12⟩ := bst_st q r r2 hR (show 1 ≤ o by omega) (by omega)
    rw [boF]
    by_cases h5 : nI ((trX X (nI o)).1.length + 2 * namN (trX X (nI o)).2.1.1 8 16) < s
    · rw [if_pos h5]
      obtain ⟨h', Z', A', d1, d2, d3, d4, d5, d6, d7⟩ := ih (o + 1) h4 Z1 A4 (nI o) (nI ((trX X (nI o)).1.length + 2 * namN (trX X (nI o)).2.1.1 8 16)) (some (.int n)) (some (.int (nI ((trX X (nI o)).1.length + 2 * namN (trX X (nI o)).2.1.1 8 16)))) (by omega) (by omega) c6 c8 c9
      refine ⟨h', Z', A', ?_, d2, c7.tr d3, d4, d5.trans c10, d6.trans c11, c12.tr d7⟩
      rw [u_X8_best_10]
      simp only [u_X8_best_0, u_X8_best_1, u_X8_best_2, u_X8_best_3, u_X8_best_4, u_X8_best_5, u_X8_best_8, u_X8_best_9, u_X8_best_11, u_X8_best_13, u_X8_best_16, u_X8_best_17, u_X8_best_20, u_X8_best_22, u_X8_best_23, u_X8_best_24, u_X8_best_25, u_X8_best_28, u_X8_best_30, u_X8_best_31, u_X8_best_34, u_X8_best_36, u_X8_best_37, u_X8_best_38, u_X8_best_41, u_X8_best_43, u_X8_best_44, u_X8_best_47, u_X8_best_48, u_X8_best_51, u_X8_best_52, u_X8_best_53, u_X8_best_54, u_X8_best_55, u_X8_best_58, u_X8_best_60, u_X8_best_61, u_X8_best_64, u_X8_best_66, u_X8_best_69, u_X8_best_70, u_X8_best_71, u_X8_best_72, u_X8_best_75, u_X8_best_78, u_X8_best_81, u_X8_best_82, h2, n2, q.ob, q.a1, x113, c113, c1.ob, c2, c3.ob, c4, h5, c5, nI_of1, if_true, if_false, xgo_some, xgo_none, xgoI_none, xcat_n, xcat_i, xcat_r, xcat_z, List.length_nil, List.length_cons, List.getD_cons_zero, List.getD_cons_succ, List.set_cons_zero, List.set_cons_succ, Nat.zero_le, Nat.reduceAdd, Nat.reduceLeDiff, Nat.reduceEqDiff, reduceIte]
      exact d1
    · rw [if_neg h5]
      obtain ⟨h', Z', A', d1, d2, d3, d4, d5, d6, d7⟩ := ih (o + 1) h4 Z1 A4 b s (some (.int n)) (some (.int (nI ((trX X (nI o)).1.length + 2 * namN (trX X (nI o)).2.1.1 8 16)))) (by omega) (by omega) c6 c8 c9
      refine ⟨h', Z', A', ?_, d2, c7.tr d3, d4, d5.trans c10, d6.trans c11, c12.tr d7⟩
      rw [u_X8_best_10]
      simp only [u_X8_best_0, u_X8_best_1, u_X8_best_2, u_X8_best_3, u_X8_best_4, u_X8_best_5, u_X8_best_8, u_X8_best_9, u_X8_best_11, u_X8_best_13, u_X8_best_16, u_X8_best_17, u_X8_best_20, u_X8_best_22, u_X8_best_23, u_X8_best_24, u_X8_best_25, u_X8_best_28, u_X8_best_30, u_X8_best_31, u_X8_best_34, u_X8_best_36, u_X8_best_37, u_X8_best_38, u_X8_best_41, u_X8_best_43, u_X8_best_44, u_X8_best_47, u_X8_best_48, u_X8_best_51, u_X8_best_52, u_X8_best_53, u_X8_best_54, u_X8_best_55, u_X8_best_58, u_X8_best_60, u_X8_best_61, u_X8_best_64, u_X8_best_66, u_X8_best_69, u_X8_best_70, u_X8_best_71, u_X8_best_72, u_X8_best_75, u_X8_best_78, u_X8_best_81, u_X8_best_82, h2, n2, q.ob, q.a1, x113, c113, c1.ob, c2, c3.ob, c4, h5, c5, nI_of1, if_false, xgo_some, xgo_none, xgoI_none, xcat_n, xcat_i, xcat_r, xcat_z, List.length_nil, List.length_cons, List.getD_cons_zero, List.getD_cons_succ, List.set_cons_zero, List.set_cons_succ, Nat.zero_le, Nat.reduceAdd, Nat.reduceLeDiff, Nat.reduceEqDiff, reduceIte]
      exact d1
theorem m_best {h : xH} {Z : Nat → Int32} {D : Int64} {A : Nat → Nat → Int32} {X : xS} (q : isMo h m Z D A) (r : rS (A 1) X) (hR : rOk X.1) (h96 : (trX X (nI 2)).1.length ≤ 64) :
    ∃ h' Z' A', xev 152 [.ref m] h = some (.inl (some (.int (boX X))), h') ∧ isMo h' m Z' D A' ∧ zE Z Z' ∧ rS (A' 1) X ∧ A' 3 = A 3 ∧ A' 4 = A 4 ∧ xFr m (m + 10) h h' := by
  obtain ⟨h0, a1, a2, a3⟩ := m_aside q
  have r1 : rS (va_up A 2 (cpG 0 117 (A 2) (A 1)) 1) X := by rw [va_up_ne _ _ (by decide)]; exact r
  have r2 : rS (va_up A 2 (cpG 0 117 (A 2) (A 1)) 2) X := by
    rw [va_up_self]
    exact rS_cg (fun i hi => (if_pos ⟨Nat.zero_le _, hi⟩).symm) r
  obtain ⟨h1, Z1, A1, h4, A4, c1, ⟨n, c2⟩, c3, c4, c5, c6, c7, c8, c9, c10, c11, c12⟩ := bst_st a2 r1 r2 hR (show 1 ≤ 2 by decide) (by decide)
  obtain ⟨h', Z', A', d1, d2, d3, d4, d5, d6, d7⟩ := lp_bst hR 7 3 h4 Z1 A4 (nI 2) (nI ((trX X (nI 2)).1.length + 2 * namN (trX X (nI 2)).2.1.1 8 16)) (some (.int n)) (some (.int (nI ((trX X (nI 2)).1.length + 2 * namN (trX X (nI 2)).2.1.1 8 16)))) (by omega) rfl c6 c8 c9
  rw [va_up_ne _ _ (by decide)] at c10 c11
  have hn := namN_le (trX X (nI 2)).2.1.1 16 8
  have hlt : nI ((trX X (nI 2)).1.length + 2 * namN (trX X (nI 2)).2.1.1 8 16) < 97 := nI_lt (b := 97) (by omega) (by decide)
  have h92 : ¬ (9 : Int32) < nI 2 := by decide
  have e22 : (2 : Int32) = nI 2 := rfl
  have e23 : nI 2 + 1 = nI 3 := rfl
  refine ⟨h', Z', A', ?_, d2, c7.tr d3, d4, d5.trans c10, d6.trans c11, (a3.tr c12).tr d7⟩
  rw [e_X8_best]
  unfold boX
  rw [boF, if_pos hlt]
  simp only [u_X8_best_0, u_X8_best_1, u_X8_best_2, u_X8_best_3, u_X8_best_4, u_X8_best_5, u_X8_best_8, u_X8_best_9, q.ob, a1, xgo_some, xgo_none, xgoI_none, xcat_n, xcat_i, xcat_r, xcat_z, List.length_nil, List.length_cons, List.getD_cons_zero, List.getD_cons_succ, List.set_cons_zero, List.set_cons_succ, Nat.zero_le, Nat.reduceAdd, Nat.reduceLeDiff, Nat.reduceEqDiff, reduceIte]
  rw [e22, u_X8_best_10]
  simp only [u_X8_best_0, u_X8_best_1, u_X8_best_2, u_X8_best_3, u_X8_best_4, u_X8_best_5, u_X8_best_8, u_X8_best_9, u_X8_best_11, u_X8_best_13, u_X8_best_16, u_X8_best_17, u_X8_best_20, u_X8_best_22, u_X8_best_23, u_X8_best_24, u_X8_best_25, u_X8_best_28, u_X8_best_30, u_X8_best_31, u_X8_best_34, u_X8_best_36, u_X8_best_37, u_X8_best_38, u_X8_best_41, u_X8_best_43, u_X8_best_44, u_X8_best_47, u_X8_best_48, u_X8_best_51, u_X8_best_52, u_X8_best_53, u_X8_best_54, u_X8_best_55, u_X8_best_58, u_X8_best_60, u_X8_best_61, u_X8_best_64, u_X8_best_66, u_X8_best_69, u_X8_best_70, u_X8_best_71, u_X8_best_72, u_X8_best_75, u_X8_best_78, u_X8_best_81, u_X8_best_82, h92, e22, e23, a2.ob, a2.a1, x113, c113, c1.ob, c2, c3.ob, c4, c5, eq_self, if_true, if_false, xgo_some, xgo_none, xgoI_none, xcat_n, xcat_i, xcat_r, xcat_z, List.length_nil, List.length_cons, List.getD_cons_zero, List.getD_cons_succ, List.set_cons_zero, List.set_cons_succ, Nat.zero_le, Nat.reduceAdd, Nat.reduceLeDiff, Nat.reduceEqDiff, reduceIte]
  exact d1
theorem M_best {h : xH} {t : Int32} {P : pP} (p : isMP h m t P) (hR : rOk P.1.1) (h96 : (trX P.1 (nI 2)).1.length ≤ 64) (cd : Nat → Int32) : outM m P cd h (xev 153 [.ref m] h) (.inl (boX P.1, P)) := by
  obtain ⟨Z, D, A, q, z0, r, z4, h6, w, z6, hC, hT⟩ := p
  have q0 := mo_z0 q 0
  obtain ⟨h1, Z1, A1, a1, a2, a3, a4, a5, a6, a7⟩ := m_best q0 r hR h96
  refine ⟨h1, ?_, ⟨Z1, D, A1, a2, by rw [a3 0 (by decide) (by decide) (by decide) (by decide), va_up_self], a4, by rw [a3 4 (by decide) (by decide) (by decide) (by decide), va_up_ne _ _ (by decide)]; exact z4, h6, by rw [a5]; exact w, by rw [a3 6 (by decide) (by decide) (by decide) (by decide), va_up_ne _ _ (by decide)]; exact z6, hC, by rw [a6]; exact hT⟩, (xFr_mo _ _ _ _).tr a7⟩
  rw [e_X8_bestOften]
  simp only [u_X8_bestOften_0, u_X8_bestOften_1, u_X8_bestOften_2, u_X8_bestOften_5, u_X8_bestOften_6, u_X8_bestOften_9, q.ob, q0.ob, a1, xgo_some, xgo_none, xgoI_none, xcat_n, xcat_i, xcat_r, xcat_z, List.length_nil, List.length_cons, List.getD_cons_zero, List.getD_cons_succ, List.set_cons_zero, List.set_cons_succ, Nat.zero_le, Nat.reduceAdd, Nat.reduceLeDiff, Nat.reduceEqDiff, reduceIte]
theorem tx_pos {X : xS} (w0 : wfN X.2.1 d l) (pr : rPr X.1 X.2.1) (hl : X.1.length ≤ 64) : (0 < txF X.2.1.2.2.2 X.1 ↔ ¬ X.1.length = 0) := by
  obtain ⟨b1, b2⟩ := lnL_bd w0 X.1 pr
  rw [txF_ln w0 X.1 pr]
  constructor
  · intro z e
    have : lnL l X.1 = 0 := by omega
    rw [this] at z
    exact absurd z (by decide)
  · intro e
    exact nI_lt (a := 0) (by omega) (by omega)
theorem m_share {h : xH} {Z : Nat → Int32} {D : Int64} {A : Nat → Nat → Int32} {X : xS} (q : isMo h m Z D A) (r : rS (A 1) X) (y : lyA X.2.1 A) (w0 : wfN X.2.1 d l) (pr : rPr X.1 X.2.1) (hD : 0 < txF X.2.1.2.2.2 X.1 → okD (szI X) (txF X.2.1.2.2.2 X.1)) : xev 154 [.ref m] h = some (.inl (some (.double (svX X))), h) := by
  have tp := tx_pos w0 pr r.2.1
  have p1 := m_size q r
  have p2 := m_txt q r y pr
  rw [e_X8_share]
  unfold svX
  by_cases e : X.1.length = 0
  · rw [if_neg (fun z => tp.mp z e)]
    have e0 : nI X.1.length = 0 := by rw [e]; rfl
    simp only [u_X8_share_0, u_X8_share_1, u_X8_share_4, u_X8_share_5, u_X8_share_6, u_X8_share_9, u_X8_share_10, u_X8_share_13, u_X8_share_14, u_X8_share_15, u_X8_share_18, u_X8_share_19, u_X8_share_20, u_X8_share_23, u_X8_share_24, u_X8_share_25, u_X8_share_26, q.ob, q.a1, x0117, c00, r.1, e0, if_true, xgo_some, xgo_none, xgoI_none, xcat_n, xcat_i, xcat_r, xcat_z, List.length_nil, List.length_cons, List.getD_cons_zero, List.getD_cons_succ, List.set_cons_zero, List.set_cons_succ, Nat.zero_le, Nat.reduceAdd, Nat.reduceLeDiff, Nat.reduceEqDiff, reduceIte]
  · have z := tp.mpr e
    rw [if_pos z]
    obtain ⟨k1, k2⟩ := hD z
    have n0 : ¬ nI X.1.length = 0 := fun y => e ((nI_eq (b := 0) (by have := r.2.1; omega) (by decide)).mp y)
    simp only [u_X8_share_0, u_X8_share_1, u_X8_share_4, u_X8_share_5, u_X8_share_6, u_X8_share_9, u_X8_share_10, u_X8_share_13, u_X8_share_14, u_X8_share_15, u_X8_share_18, u_X8_share_19, u_X8_share_20, u_X8_share_23, u_X8_share_24, u_X8_share_25, u_X8_share_26, q.ob, q.a1, x0117, c00, r.1, n0, p1, p2, k1, k2, if_false, xgo_some, xgo_none, xgoI_none, xcat_n, xcat_i, xcat_r, xcat_z, List.length_nil, List.length_cons, List.getD_cons_zero, List.getD_cons_succ, List.set_cons_zero, List.set_cons_succ, Nat.zero_le, Nat.reduceAdd, Nat.reduceLeDiff, Nat.reduceEqDiff, reduceIte]
    rfl
theorem M_saved {h : xH} {t : Int32} {P : pP} (p : isMP h m t P) (w0 : wfN P.1.2.1 d l) (pr : rPr P.1.1 P.1.2.1) (hD : 0 < txF P.1.2.1.2.2.2 P.1.1 → okD (szI P.1) (txF P.1.2.1.2.2.2 P.1.1)) : ∃ h', xev 155 [.ref m] h = some (.inl (some (.double (svX P.1))), h') ∧ isMP h' m 0 P ∧ xFr m (m + 10) h h' := by
  obtain ⟨Z, D, A, q, z0, r, z4, h6, w, z6, hC, hT⟩ := p
  have q0 := mo_z0 q 0
  obtain ⟨h1, A1, a1, a2, a3, a4, a5⟩ := m_layOut q0 r w0
  have r' : rS (A1 1) P.1 := by rw [a3 1 (by decide)]; exact r
  have ps := m_share a2 r' a4 w0 pr hD
  refine ⟨h1, ?_, ⟨_, D, A1, a2, va_up_self _ _ _, r', by rw [va_up_ne _ _ (by decide)]; exact z4, h6, by rw [a3 3 (by decide)]; exact w, by rw [va_up_ne _ _ (by decide)]; exact z6, hC, by rw [a3 4 (by decide)]; exact hT⟩, (xFr_mo _ _ _ _).tr a5⟩
  rw [e_X8_saved]
  simp only [u_X8_saved_0, u_X8_saved_1, u_X8_saved_2, u_X8_saved_5, u_X8_saved_6, u_X8_saved_9, u_X8_saved_10, u_X8_saved_13, q.ob, q0.ob, a1, a2.ob, ps, xgo_some, xgo_none, xgoI_none, xcat_n, xcat_i, xcat_r, xcat_z, List.length_nil, List.length_cons, List.getD_cons_zero, List.getD_cons_succ, List.set_cons_zero, List.set_cons_succ, Nat.zero_le, Nat.reduceAdd, Nat.reduceLeDiff, Nat.reduceEqDiff, reduceIte]
end NH
