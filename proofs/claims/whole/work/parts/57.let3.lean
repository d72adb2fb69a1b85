/-! The model: letting go. -/
section LI
variable {m : Nat} {Z : Nat → Int32} {D : Int64}
theorem lp_scan {h : xH} {A : Nat → Nat → Int32} {X : xS} (q : isMo h m Z D A) (r : rS (A 1) X) (o : okQ X.2.1) (n : Int32) (l3 : Option Value) : ∀ (k i : Nat), 8 ≤ i → i + k = 24 → xf 130 14 [some (.ref m), some (.int n), some (.int (nI i)), l3] [] h = if lowL X.1 X.2.1 X.2.2.2.1 i k = -1 then xf 130 92 [some (.ref m), some (.int n), some (.int (nI 24)), l3] [] h else xf 130 28 [some (.ref m), some (.int n), some (.int (lowL X.1 X.2.1 X.2.2.2.1 i k)), l3] [] h := by
  intro k
  induction k with
  | zero =>
    intro i h8 hk
    have h2 : ¬ nI i < 24 := nI_nlt (b := 24) (by omega) (by omega)
    have hi : i = 24 := by omega
    subst hi
    rw [lowL, if_pos rfl, u_X8_letGo_14]
    simp only [u_X8_letGo_15, u_X8_letGo_17, h2, if_false, xgo_some, xgo_none, xgoI_none, xcat_n, xcat_i, xcat_r, xcat_z, List.length_nil, List.length_cons, List.getD_cons_zero, List.getD_cons_succ, List.set_cons_zero, List.set_cons_succ, Nat.zero_le, Nat.reduceAdd, Nat.reduceLeDiff, Nat.reduceEqDiff, reduceIte]
  | succ k ih =>
    intro i h8 hk
    have h2 : nI i < 24 := nI_lt (b := 24) (by omega) (by omega)
    have pg := m_mayGo q r o (show i < 24 by omega)
    rw [lowL]
    cases hg : mgB X i with
    | true =>
      rw [hg] at pg
      have hc : hasP X.2.1.1 (nI i) = true ∧ (decide (nI (cntI X.1 (nI i)) < X.2.2.2.1) && decide (usN X.2.1.1 X.2.1.2.1 (nI i) 8 16 = 0) && decide (X.1.length + cntI X.1 (nI i) ≤ 64)) = true := by
        unfold mgB at hg
        rw [Bool.and_eq_true] at hg
        exact hg
      rw [if_pos hc, if_neg (nI_nm1 (by omega)), u_X8_letGo_14]
      simp only [u_X8_letGo_15, u_X8_letGo_17, u_X8_letGo_20, u_X8_letGo_21, u_X8_letGo_22, u_X8_letGo_25, h2, q.ob, pg, b32_t, i10, if_true, if_false, xgo_some, xgo_none, xgoI_none, xcat_n, xcat_i, xcat_r, xcat_z, List.length_nil, List.length_cons, List.getD_cons_zero, List.getD_cons_succ, List.set_cons_zero, List.set_cons_succ, Nat.zero_le, Nat.reduceAdd, Nat.reduceLeDiff, Nat.reduceEqDiff, reduceIte]
    | false =>
      rw [hg] at pg
      have hc : ¬ (hasP X.2.1.1 (nI i) = true ∧ (decide (nI (cntI X.1 (nI i)) < X.2.2.2.1) && decide (usN X.2.1.1 X.2.1.2.1 (nI i) 8 16 = 0) && decide (X.1.length + cntI X.1 (nI i) ≤ 64)) = true) := by
        intro z
        unfold mgB at hg
        rw [z.1, z.2] at hg
        exact absurd hg (by decide)
      rw [if_neg hc, u_X8_letGo_14, ← ih (i + 1) (by omega) (by omega)]
      simp only [u_X8_letGo_15, u_X8_letGo_17, u_X8_letGo_20, u_X8_letGo_21, u_X8_letGo_22, u_X8_letGo_25, u_X8_letGo_86, u_X8_letGo_89, h2, q.ob, pg, b32_f, nI_of1, if_true, xgo_some, xgo_none, xgoI_none, xcat_n, xcat_i, xcat_r, xcat_z, List.length_nil, List.length_cons, List.getD_cons_zero, List.getD_cons_succ, List.set_cons_zero, List.set_cons_succ, Nat.zero_le, Nat.reduceAdd, Nat.reduceLeDiff, Nat.reduceEqDiff, reduceIte]
theorem lp_lets : ∀ (K : Nat) (h : xH) (A : Nat → Nat → Int32) (L : List Int32) (N : xNs) (a rr sp go : Int32) (n : Nat) (l3 : Option Value), nmC N ≤ K → isMo h m Z D A → rS (A 1) (L, N, a, rr, sp, go) → nsB N → ∀ g : Int32,
    ∃ h' f j l2 l3', xf 130 14 [some (.ref m), some (.int (nI n)), some (.int 8), l3] [] h = xf 130 92 [some (.ref m), some (.int (nI (n + j))), l2, l3'] [] h' ∧ isMo h' m Z D (va_up A 1 f) ∧ (∃ L' N', lgF K (L, N, a, rr, sp, g) = (L', N', a, rr, sp, g + nI j) ∧ rS f (L', N', a, rr, sp, go)) ∧ xFr m (m + 10) h h' := by
  intro K
  induction K with
  | zero =>
    intro h A L N a rr sp go n l3 hK q r b g
    have hs := lp_scan q r (okQ_B b) (nI n) l3 16 8 (by omega) (by omega)
    rcases lowL_is L N rr 16 8 (by omega) with e | ⟨v, v1, v2, e, v3, _⟩
    · simp only [e, if_true] at hs
      refine ⟨h, A 1, 0, _, _, hs, by rw [va_up_eta]; exact q, ⟨L, N, ?_, r⟩, xFr.rf⟩
      rw [lgF, nI_0, Int32.add_zero]
    · have hp : N.1 v ≠ -1 := by
        rw [hasP_nI v1 (by omega)] at v3
        exact of_decide_eq_true v3
      have := namN_out N.1 v hp 16 8 v1 (by omega)
      unfold nmC at hK
      omega
  | succ K ih =>
    intro h A L N a rr sp go n l3 hK q r b g
    have hl := r.2.1
    simp only at hl
    have hs := lp_scan q r (okQ_B b) (nI n) l3 16 8 (by omega) (by omega)
    rcases lowL_is L N rr 16 8 (by omega) with e | ⟨v, v1, v2, e, v3, v4, v5, v6⟩
    · simp only [e, if_true] at hs
      refine ⟨h, A 1, 0, _, _, hs, by rw [va_up_eta]; exact q, ⟨L, N, ?_, r⟩, xFr.rf⟩
      simp only [lgF, e, if_true, nI_0, Int32.add_zero]
    · have hp : N.1 v ≠ -1 := by
        rw [hasP_nI v1 (by omega)] at v3
        exact of_decide_eq_true v3
      have hv1 : ¬ nI v = -1 := nI_nm1 (by omega)
      simp only [e, hv1, if_false] at hs
      obtain ⟨h1, f, b1, b2, b3, b4⟩ := lp_let (n := n) v1 (show v < 24 by omega) hp L.length h A L (Nat.le_refl _) (by rw [List.take_of_length_le (Nat.le_refl _)]; exact v6) q r
      rw [lB_all (by omega)] at b3
      have q2 := mo_w b2 (k := 1) (by decide) (by decide) (57 + v) 0
      rw [va_up_self, va_up_up] at q2
      have r2 := rS_out b3 v1 (show v < 24 by omega)
      have hc : nmC (nsOut N v) + 1 = nmC N := namN_out N.1 v hp 16 8 v1 (by omega)
      obtain ⟨h2, f2, j, l2, l3', c1, c2, ⟨L', N', c3, c4⟩, c5⟩ := ih _ _ _ (nsOut N v) a rr sp go (n + 1) (some (.int (-1))) (by omega) q2 (by rw [va_up_self]; exact r2) (nsB_out b v) (g + 1)
      rw [va_up_up] at c2
      have hx : xix (nI (57 + v)) 117 := xix_nI (by omega) (by decide)
      have ei : (65 : Int32) + nI v - 8 = nI (57 + v) := nI_ix 65 v v1 (by omega)
      have r1 := r.1
      simp only at r1
      refine ⟨h2, f2, j + 1, l2, l3', ?_, c2, ⟨L', N', ?_, c4⟩, (b4.tr (xFr_si _ _ _ _ _ (by decide))).tr c5⟩
      · rw [show (8 : Int32) = nI 8 from rfl, hs]
        cases l3 <;> simp only [u_X8_letGo_28, u_X8_letGo_29, u_X8_letGo_32, u_X8_letGo_33, u_X8_letGo_34, u_X8_letGo_35, u_X8_letGo_36, q.ob, q.a1, x0117, c00, r1, xgo_some, xgo_none, xgoI_none, xcat_n, xcat_i, xcat_r, xcat_z, List.length_nil, List.length_cons, List.getD_cons_zero, List.getD_cons_succ, List.set_cons_zero, List.set_cons_succ, Nat.zero_le, Nat.reduceAdd, Nat.reduceLeDiff, Nat.reduceEqDiff, reduceIte]
        all_goals
          rw [b1, u_X8_letGo_64]
          simp only [u_X8_letGo_0, u_X8_letGo_1, u_X8_letGo_2, u_X8_letGo_5, u_X8_letGo_6, u_X8_letGo_9, u_X8_letGo_10, u_X8_letGo_11, u_X8_letGo_13, u_X8_letGo_15, u_X8_letGo_17, u_X8_letGo_20, u_X8_letGo_21, u_X8_letGo_22, u_X8_letGo_25, u_X8_letGo_28, u_X8_letGo_29, u_X8_letGo_32, u_X8_letGo_33, u_X8_letGo_34, u_X8_letGo_35, u_X8_letGo_36, u_X8_letGo_38, u_X8_letGo_41, u_X8_letGo_42, u_X8_letGo_45, u_X8_letGo_46, u_X8_letGo_47, u_X8_letGo_48, u_X8_letGo_49, u_X8_letGo_50, u_X8_letGo_53, u_X8_letGo_54, u_X8_letGo_55, u_X8_letGo_58, u_X8_letGo_61, u_X8_letGo_65, u_X8_letGo_68, u_X8_letGo_70, u_X8_letGo_71, u_X8_letGo_72, u_X8_letGo_74, u_X8_letGo_75, u_X8_letGo_76, u_X8_letGo_77, u_X8_letGo_80, u_X8_letGo_82, u_X8_letGo_83, u_X8_letGo_86, u_X8_letGo_89, u_X8_letGo_93, u_X8_letGo_96, u_X8_letGo_98, u_X8_letGo_99, u_X8_letGo_100, u_X8_letGo_101, u_X8_letGo_102, u_X8_letGo_103, u_X8_letGo_104, b2.ob, b2.a1, ei, hx, nI_clamp (show 57 + v < 2 ^ 31 by omega), nI_of1, xgo_some, xgo_none, xgoI_none, xcat_n, xcat_i, xcat_r, xcat_z, List.length_nil, List.length_cons, List.getD_cons_zero, List.getD_cons_succ, List.set_cons_zero, List.set_cons_succ, Nat.zero_le, Nat.reduceAdd, Nat.reduceLeDiff, Nat.reduceEqDiff, reduceIte]
          rw [c1, show n + 1 + j = n + (j + 1) by omega]
      · simp only [lgF, e, hv1, if_false, nI_clamp (show v < 2 ^ 31 by omega)]
        rw [c3, Int32.add_assoc, show (1 : Int32) + nI j = nI (j + 1) by rw [nI_s1, Nat.add_comm]]
end LI
