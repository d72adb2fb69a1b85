/-! The law: its loop, and the whole of it. -/
section LE
variable {b x L : Nat} {xs : Nat → Int32}
/-- what holds between two rounds -/
def LI (b x L : Nat) (xs : Nat → Int32) (h : xH) (P : pP) : Prop := isP h x P ∧ okP P ∧ h.1 b = some (.inl (3, L, .inl xs))
theorem LI_fr {h h' : xH} {P' : pP} (hb : b < x) (q : isP h' x P') (k : okP P') (s : h.1 b = some (.inl (3, L, .inl xs))) (f : xFr x (x + 139) h h') : LI b x L xs h' P' := ⟨q, k, by rw [f.2 b (Or.inl hb)]; exact s⟩
theorem rem_nI {e d : Nat} {c : Int32} (ec : c = nI d) (he : e < 2 ^ 31) (h0 : 0 < d) (hd : d < 2 ^ 31) : nI e - nI e / c * c = nI (e % d) := by
  rw [ec]
  exact pk_rem he h0 hd
/-- from the check of the best setting on -/
theorem lp_l69 (hb : b < x) {h : xH} {P : pP} (I : LI b x L xs h P) (e : Nat) (he : e < 36) (l3 l4 l5 : Option Value) : ∃ h' P', xf 101 69 [some (.ref b), some (.ref x), some (.int (nI e)), l3, l4, l5] [] h = xf 101 10 [some (.ref b), some (.ref x), some (.int (nI (e + 1))), l3, l4, l5] [] h' ∧ LI b x L xs h' P' ∧ h'.2 = h.2 := by
  obtain ⟨q, k, s⟩ := I
  have er := rem_nI (e := e) (d := 9) (c := 9) rfl (by omega) (by omega) (by omega)
  by_cases h8 : e % 9 = 8
  · obtain ⟨X, Hs, C⟩ := P
    obtain ⟨h', Hs', a1, a2, a3, a4⟩ := l_best q k
    refine ⟨h', _, ?_, LI_fr hb a2 a3 s a4, a4.1⟩
    rw [h8] at er
    rw [u_L_law_69]
    simp only [u_L_law_70, u_L_law_72, u_L_law_73, u_L_law_75, u_L_law_78, u_L_law_79, u_L_law_82, u_L_law_87, u_L_law_90, er, show nI 8 = 8 from rfl, show ¬ (9 : Int32) = 0 by decide, q.ob, a1, i10, nI_of1, eq_self, not_false_eq_true, if_true, if_false, xcat_r, xgo_some, xgo_none, xgoI_none, xcat_n, xcat_i, xcat_r, xcat_z, List.length_nil, List.length_cons, List.getD_cons_zero, List.getD_cons_succ, List.set_cons_zero, List.set_cons_succ, Nat.zero_le, Nat.reduceAdd, Nat.reduceLeDiff, Nat.reduceEqDiff, reduceIte]
  · have hne : ¬ nI (e % 9) = 8 := fun z => h8 ((nI_eq (b := 8) (by omega) (by omega)).mp z)
    refine ⟨h, P, ?_, ⟨q, k, s⟩, rfl⟩
    rw [u_L_law_69]
    simp only [u_L_law_70, u_L_law_72, u_L_law_73, u_L_law_75, u_L_law_87, u_L_law_90, er, hne, show ¬ (9 : Int32) = 0 by decide, nI_of1, not_false_eq_true, if_false, xcat_r, xgo_some, xgo_none, xgoI_none, xcat_n, xcat_i, xcat_r, xcat_z, List.length_nil, List.length_cons, List.getD_cons_zero, List.getD_cons_succ, List.set_cons_zero, List.set_cons_succ, Nat.zero_le, Nat.reduceAdd, Nat.reduceLeDiff, Nat.reduceEqDiff, reduceIte]
/-- from the check of the counts on -/
theorem lp_l48 (hb : b < x) {h : xH} {P : pP} (I : LI b x L xs h P) (e : Nat) (he : e < 36) (l3 l4 l5 : Option Value) : ∃ h' P', xf 101 48 [some (.ref b), some (.ref x), some (.int (nI e)), l3, l4, l5] [] h = xf 101 10 [some (.ref b), some (.ref x), some (.int (nI (e + 1))), l3, l4, l5] [] h' ∧ LI b x L xs h' P' ∧ h'.2 = h.2 := by
  obtain ⟨q, k, s⟩ := I
  have er := rem_nI (e := e) (d := 3) (c := 3) rfl (by omega) (by omega) (by omega)
  by_cases h8 : e % 3 = 2
  · obtain ⟨X, Hs, C⟩ := P
    obtain ⟨h1, a1, a2, a3⟩ := l_counts q k.1
    obtain ⟨h2, Hs', b1, b2, b3, b4⟩ := l_next a2 k
    obtain ⟨h', P', c1, c2, c3⟩ := lp_l69 hb (LI_fr hb b2 b3 s (a3.tr b4)) e he l3 l4 l5
    refine ⟨h', P', ?_, c2, c3.trans (a3.tr b4).1⟩
    rw [h8] at er
    rw [← c1, u_L_law_48]
    simp only [u_L_law_49, u_L_law_50, u_L_law_51, u_L_law_52, u_L_law_55, u_L_law_56, u_L_law_59, u_L_law_62, u_L_law_63, u_L_law_66, er, show nI 2 = 2 from rfl, show ¬ (3 : Int32) = 0 by decide, q.ob, a2.ob, a1, b1, i10, eq_self, not_false_eq_true, if_true, if_false, xgo_some, xgo_none, xgoI_none, xcat_n, xcat_i, xcat_r, xcat_z, List.length_nil, List.length_cons, List.getD_cons_zero, List.getD_cons_succ, List.set_cons_zero, List.set_cons_succ, Nat.zero_le, Nat.reduceAdd, Nat.reduceLeDiff, Nat.reduceEqDiff, reduceIte]
  · have hne : ¬ nI (e % 3) = 2 := fun z => h8 ((nI_eq (b := 2) (by omega) (by omega)).mp z)
    obtain ⟨h', P', c1, c2, c3⟩ := lp_l69 hb ⟨q, k, s⟩ e he l3 l4 l5
    refine ⟨h', P', ?_, c2, c3⟩
    rw [← c1, u_L_law_48]
    simp only [u_L_law_49, u_L_law_50, u_L_law_51, u_L_law_52, er, hne, show ¬ (3 : Int32) = 0 by decide, not_false_eq_true, if_false, xgo_some, xgo_none, xgoI_none, xcat_n, xcat_i, xcat_r, xcat_z, List.length_nil, List.length_cons, List.getD_cons_zero, List.getD_cons_succ, List.set_cons_zero, List.set_cons_succ, Nat.zero_le, Nat.reduceAdd, Nat.reduceLeDiff, Nat.reduceEqDiff, reduceIte]
theorem lp_law (hb : b < x) (hL : L ≤ 260) : ∀ (n e : Nat) (h : xH) (P : pP) (l3 l4 l5 : Option Value), e + n = 36 → LI b x L xs h P →
    ∃ h', xf 101 10 [some (.ref b), some (.ref x), some (.int (nI e)), l3, l4, l5] [] h = some (.inl (some (.int 1)), h') ∧ h'.2 = h.2 := by
  intro n
  induction n with
  | zero =>
    intro e h P l3 l4 l5 he I
    have h2 : ¬ nI e < 36 := nI_nlt (b := 36) (by omega) (by omega)
    refine ⟨h, ?_, rfl⟩
    rw [u_L_law_10]
    simp only [u_L_law_11, u_L_law_13, u_L_law_93, u_L_law_94, h2, eq_self, or_true, if_false, xgo_some, xgo_none, xgoI_none, xcat_n, xcat_i, xcat_r, xcat_z, List.length_nil, List.length_cons, List.getD_cons_zero, List.getD_cons_succ, List.set_cons_zero, List.set_cons_succ, Nat.zero_le, Nat.reduceAdd, Nat.reduceLeDiff, Nat.reduceEqDiff, reduceIte]
  | succ n ih =>
    intro e h P l3 l4 l5 he I
    obtain ⟨q, k, s⟩ := I
    have h2 : nI e < 36 := nI_lt (b := 36) (by omega) (by omega)
    obtain ⟨v, ev⟩ := l_cell s (by omega) (k := e) (by omega)
    have t0 := l_tale q
    obtain ⟨r, h1, P1, a1, a2, a3, a4, a5⟩ := l_does q k v
    obtain ⟨h', P', c1, c2, c3⟩ := lp_l48 hb (LI_fr hb a2 a3 s a4) e (by omega) (some (.int v)) (some (.long (tlX P.1))) none
    obtain ⟨h'', d1, d2⟩ := ih (e + 1) h' P' (some (.int v)) (some (.long (tlX P.1))) none (by omega) c2
    refine ⟨h'', ?_, d2.trans (c3.trans a4.1)⟩
    rw [← d1, ← c1, u_L_law_10]
    rcases a5 with a5 | ⟨a5, a6⟩
    · subst a5
      simp only [u_L_law_11, u_L_law_13, u_L_law_16, u_L_law_17, u_L_law_18, u_L_law_21, u_L_law_22, u_L_law_23, u_L_law_26, u_L_law_28, u_L_law_29, u_L_law_30, u_L_law_33, h2, ev, t0, q.ob, a1, xcat_l, eq_self, if_true, xgo_some, xgo_none, xgoI_none, xcat_n, xcat_i, xcat_r, xcat_z, List.length_nil, List.length_cons, List.getD_cons_zero, List.getD_cons_succ, List.set_cons_zero, List.set_cons_succ, Nat.zero_le, Nat.reduceAdd, Nat.reduceLeDiff, Nat.reduceEqDiff, reduceIte]
    · subst a5
      have t1 := l_tale a2
      have et : lg_cmp (tlX P1.1) (tlX P.1) = 0 := (lg_cmp_eq _ _).mpr (tl_same k.1 a3.1 a6).symm
      simp only [u_L_law_11, u_L_law_13, u_L_law_16, u_L_law_17, u_L_law_18, u_L_law_21, u_L_law_22, u_L_law_23, u_L_law_26, u_L_law_28, u_L_law_29, u_L_law_30, u_L_law_33, u_L_law_36, u_L_law_37, u_L_law_40, u_L_law_42, u_L_law_43, h2, ev, t0, t1, et, q.ob, a2.ob, a1, xcat_l, i10, eq_self, if_true, if_false, xgo_some, xgo_none, xgoI_none, xcat_n, xcat_i, xcat_r, xcat_z, List.length_nil, List.length_cons, List.getD_cons_zero, List.getD_cons_succ, List.set_cons_zero, List.set_cons_succ, Nat.zero_le, Nat.reduceAdd, Nat.reduceLeDiff, Nat.reduceEqDiff, reduceIte]
theorem ok_P0 : okP P0 := by
  refine ⟨⟨Nat.zero_le _, ⟨fun _ => 0, fun _ => 1, ?_, ?_, ?_⟩, fun y hy => absurd hy (by intro z; cases z), ?_, 2, Nat.le_refl _, by decide, rfl⟩, fun Y hY => by cases hY⟩
  · intro k k8 k24 _
    exact ⟨if_pos k24, rfl, if_neg (by omega)⟩
  · intro k k8
    exact ⟨if_pos (by omega), if_pos (by omega), rfl, if_pos k8, rfl, rfl⟩
  · intro k k8 k24 hk
    exact absurd (if_pos k24) hk
  · intro k k8 k24 hk
    exact absurd (if_pos k24) hk
theorem xlaw_ok : xLawRuns := by
  intro b N0 L xs hL hb
  have n0 : N0 ≠ 0 := by omega
  have hN : (xh0 b N0 L xs).2.1 = N0 := rfl
  obtain ⟨h1, a1, a2, a3⟩ := k_PN hN n0
  have s1 : h1.1 b = some (.inl (3, L, .inl xs)) := by
    rw [a3.2.2.2 b (by omega)]
    exact if_pos rfl
  obtain ⟨h', c1, c2⟩ := lp_law (b := b) (x := N0) (L := L) (xs := xs) hb hL 36 0 h1 P0 none none none (by omega) ⟨a2, ok_P0, s1⟩
  have t1 : h1.2.2.1 = 139 := by
    rw [a3.2.1]
    rfl
  have t2 : h1.2.2.2 = 2357 := by
    rw [a3.2.2.1]
    rfl
  have m0 : (xh0 b N0 L xs).2.1 ≠ 0 := n0
  refine ⟨h', ?_, by rw [c2]; omega, by rw [c2]; omega⟩
  show xf 101 0 [some (.ref b), none, none, none, none, none] [] _ = _
  rw [u_L_law_0 _ _ _ m0]
  simp only [u_L_law_3, u_L_law_4, u_L_law_7, u_L_law_8, u_L_law_9, hN, a1, xgo_some, xgo_none, xgoI_none, xcat_n, xcat_i, xcat_r, xcat_z, List.length_nil, List.length_cons, List.getD_cons_zero, List.getD_cons_succ, List.set_cons_zero, List.set_cons_succ, Nat.zero_le, Nat.reduceAdd, Nat.reduceLeDiff, Nat.reduceEqDiff, reduceIte]
  exact c1
end LE
