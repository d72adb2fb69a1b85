/-! The class: naming, letting go, opening all, settings. -/
section PQ
variable {h : xH} {x : Nat}
def sp_name (P : pP) : (Int32 × pP) ⊕ Nat := if (fdF P.1.1 P.1.2.1 P.1.2.2.1).2.2.2 = -1 then .inl (-1, P.1, (P.1 :: P.2.1).take 6, P.2.2) else .inl ((fdF P.1.1 P.1.2.1 P.1.2.2.1).2.2.2, apF P.1 (fdF P.1.1 P.1.2.1 P.1.2.2.1), (P.1 :: P.2.1).take 6, P.2.2)
theorem P_ng {h' : xH} {X : xS} {Hs : List xS} {C : List Int32} {Z : Int32 × Int32 × Int32 × Int32} (q : isP h x (X, Hs, C)) (s : isN h' (x + 118) Z) (w : xFr (x + 118) (x + 123) h h') : isP h' x (X, Hs, C) := by
  obtain ⟨Y, q6⟩ := q.2.2.2.2.2
  exact P_nt q s (isS_fr q6 w (by omega)) (xFr.wd w (by omega) (by omega))
theorem P_name {P : pP} (q : isP h x P) (hR : rOk P.1.1) (ha : 0 < P.1.2.2.1) : outP x h (xev 67 [.ref x] h) (sp_name P) := by
  obtain ⟨⟨L, N, a, r, sp, go⟩, Hs, C⟩ := P
  obtain ⟨fr, ho⟩ := q.2.2.1.ob
  unfold sp_name
  rw [e_X7_name]
  simp only at hR ha ⊢
  obtain ⟨h1, b1, b2, b3⟩ := P_save q
  obtain ⟨Z, qz⟩ := b2.2.2.2.2.1
  obtain ⟨h2, c1, c2, c3⟩ := c_find qz b2.2.1 hR ha (by omega)
  have r2 := P_ng b2 c2 (by exact xFr.wd c3 (by omega) (by omega))
  rcases fdF_is (N := N) hR ha with e | ⟨u, v, o, g, e, g1, g2, g3, g4, g5, _⟩
  · rw [e] at c2 ⊢
    rw [if_pos rfl]
    refine ⟨h2, ?_, r2, b3.tr (xFr.wd c3 (by omega) (by omega))⟩
    have p1 := c_apply0 (d := x + 1) c2
    simp only [u_X7_name_0, u_X7_name_1, u_X7_name_4, u_X7_name_5, u_X7_name_8, u_X7_name_11, u_X7_name_12, u_X7_name_15, u_X7_name_16, u_X7_name_19, u_X7_name_22, u_X7_name_23, u_X7_name_26, u_X7_name_27, u_X7_name_30, u_X7_name_33, u_X7_name_34, u_X7_name_37, u_X7_name_40, q.ob, ho, b1, b2.ob, qz.ob, c1, r2.ob, c2.ob, p1, xgo_some, xgo_none, xgoI_none, xcat_n, xcat_i, xcat_r, xcat_z, List.length_nil, List.length_cons, List.getD_cons_zero, List.getD_cons_succ, List.set_cons_zero, List.set_cons_succ, Nat.zero_le, Nat.reduceAdd, Nat.reduceLeDiff, Nat.reduceEqDiff, reduceIte]
  · rw [e] at c2 ⊢
    have hg : ¬ nI g = -1 := nI_nm1 (by omega)
    rw [if_neg hg]
    obtain ⟨h3, d1, d2, d3⟩ := c_apply c2 r2.2.1 g2 g5 (by omega)
    have r3 := P_st r2 d2 (by exact xFr.wd d3 (by omega) (by omega))
    have c2' := isN_fr c2 d3 (by omega)
    refine ⟨h3, ?_, r3, (b3.tr (xFr.wd c3 (by omega) (by omega))).tr (xFr.wd d3 (by omega) (by omega))⟩
    simp only [u_X7_name_0, u_X7_name_1, u_X7_name_4, u_X7_name_5, u_X7_name_8, u_X7_name_11, u_X7_name_12, u_X7_name_15, u_X7_name_16, u_X7_name_19, u_X7_name_22, u_X7_name_23, u_X7_name_26, u_X7_name_27, u_X7_name_30, u_X7_name_33, u_X7_name_34, u_X7_name_37, u_X7_name_40, q.ob, ho, b1, b2.ob, qz.ob, c1, r2.ob, c2.ob, d1, r3.ob, c2'.ob, xgo_some, xgo_none, xgoI_none, xcat_n, xcat_i, xcat_r, xcat_z, List.length_nil, List.length_cons, List.getD_cons_zero, List.getD_cons_succ, List.set_cons_zero, List.set_cons_succ, Nat.zero_le, Nat.reduceAdd, Nat.reduceLeDiff, Nat.reduceEqDiff, reduceIte]
def sp_nameAll (P : pP) : (Int32 × pP) ⊕ Nat := .inl (nI (allF 64 0 P.1).1, (allF 64 0 P.1).2, (P.1 :: P.2.1).take 6, P.2.2)
theorem P_all2 {h' : xH} {X X' : xS} {Hs : List xS} {C : List Int32} {Z : Int32 × Int32 × Int32 × Int32} (q : isP h x (X, Hs, C)) (s : isN h' (x + 118) Z) (t : isS h' (x + 1) X') (w : x2F (x + 118) (x + 123) (x + 1) (x + 17) h h') : isP h' x (X', Hs, C) := by
  obtain ⟨q1, q2, q3, q4, _, Y, q6⟩ := q
  obtain ⟨fr, g, S, i1, i2, i3⟩ := q3
  obtain ⟨h2, e2⟩ : ∃ h2 : xH, h2 = ((fun c => if x + 1 ≤ c ∧ c < x + 17 then h'.1 c else h.1 c), h.2) := ⟨_, rfl⟩
  have w1 : xFr (x + 1) (x + 17) h h2 := by
    rw [e2]
    exact ⟨rfl, fun c hc => if_neg (by omega)⟩
  have w2 : xFr (x + 118) (x + 123) h2 h' := by
    rw [e2]
    refine ⟨w.1, fun c hc => ?_⟩
    by_cases h5 : x + 1 ≤ c ∧ c < x + 17
    · exact (if_pos h5).symm
    · exact (w.2 c (by omega) (by omega)).trans (if_neg h5).symm
  exact ⟨by rw [w2.2 x (by omega), w1.2 x (by omega)]; exact q1, t, isHi_fr (isHi_fr ⟨fr, g, S, i1, i2, i3⟩ w1 (by omega)) w2 (by omega), isB_fr (isB_fr q4 w1 (by omega)) w2 (by omega), ⟨Z, s⟩, Y, isS_fr (isS_fr q6 w1 (by omega)) w2 (by omega)⟩
def lowL (L : List Int32) (N : xNs) (r : Int32) : Nat → Nat → Int32
  | _, 0 => -1
  | m, k + 1 => if hasP N.1 (nI m) = true ∧ (decide (nI (cntI L (nI m)) < r) && decide (usN N.1 N.2.1 (nI m) 8 16 = 0) && decide (L.length + cntI L (nI m) ≤ 64)) = true then nI m else lowL L N r (m + 1) k
theorem low_eq (n : Nat) (f se : Nat → Int32) (N : xNs) : ∀ (k m : Nat), lowF n f N.1 N.2.1 se m k = lowL (seg f 0 n) N (se 1) m k := by
  intro k
  induction k with
  | zero => intro m; rfl
  | succ k ih => intro m; rw [lowF, lowL, ih, clgF, seg_len]
theorem c_low {b : Nat} {X : xS} (q : isS h b X) : xev 59 [.ref b] h = some (.inl (some (.int (lowL X.1 X.2.1 X.2.2.2.1 8 16))), h) := by
  obtain ⟨_, n, f, se, _, e, _, e3, o⟩ := q
  rw [m_State_low o, ← e, ← e3, low_eq]
def lgF : Nat → xS → xS
  | 0, X => X
  | k + 1, X => if lowL X.1 X.2.1 X.2.2.2.1 8 16 = -1 then X else lgF k (rlI (lowL X.1 X.2.1 X.2.2.2.1 8 16) (X.2.1.1 (lowL X.1 X.2.1 X.2.2.2.1 8 16).toNatClampNeg) (X.2.1.2.1 (lowL X.1 X.2.1 X.2.2.2.1 8 16).toNatClampNeg) X.1, nsOut X.2.1 (lowL X.1 X.2.1 X.2.2.2.1 8 16).toNatClampNeg, X.2.2.1, X.2.2.2.1, X.2.2.2.2.1, X.2.2.2.2.2 + 1)
theorem lowL_is (L : List Int32) (N : xNs) (r : Int32) : ∀ (k m : Nat), m + k ≤ 24 → lowL L N r m k = -1 ∨ ∃ v, m ≤ v ∧ v < m + k ∧ lowL L N r m k = nI v ∧ hasP N.1 (nI v) = true ∧ nI (cntI L (nI v)) < r ∧ usN N.1 N.2.1 (nI v) 8 16 = 0 ∧ L.length + cntI L (nI v) ≤ 64 := by
  intro k
  induction k with
  | zero => intro m _; exact Or.inl rfl
  | succ k ih =>
    intro m hm
    rw [lowL]
    split
    · rename_i h1
      obtain ⟨h2, h3⟩ := h1
      rw [Bool.and_eq_true, Bool.and_eq_true, decide_eq_true_eq, decide_eq_true_eq, decide_eq_true_eq] at h3
      exact Or.inr ⟨m, by omega, by omega, rfl, h2, h3.1.1, h3.1.2, h3.2⟩
    · rcases ih (m + 1) (by omega) with e | ⟨v, v1, v2, v3⟩
      · exact Or.inl e
      · exact Or.inr ⟨v, by omega, by omega, v3⟩
/-- no name is in its own pair -/
def acN (N : xNs) : Prop := ∀ m, m < 24 → N.1 m ≠ nI m ∧ N.2.1 m ≠ nI m
theorem acN_out {N : xNs} (q : acN N) {v : Nat} (hv : v < 24) : acN (nsOut N v) := by
  intro m hm
  by_cases e : m = v
  · subst e
    simp only [nsOut, va_up_self]
    exact ⟨(nI_nm1 (by omega)).symm, (nI_nm1 (by omega)).symm⟩
  · simp only [nsOut, va_up_ne _ _ e]
    exact q m hm
theorem lp_letGo (g0 : Int32) : ∀ (k m : Nat) (h : xH) (X : xS) (Hs : List xS) (C : List Int32) (l3 : Option Value), m + k = 16 → isP h x (X, Hs, C) → acN X.2.1 →
    ∃ h', xf 69 21 [some (.ref x), some (.int g0), some (.int (nI m)), l3] [] h = some (.inl (some (.int ((lgF k X).2.2.2.2.2 - g0))), h') ∧ isP h' x (lgF k X, Hs, C) ∧ xFr x (x + 139) h h' := by
  intro k
  induction k with
  | zero =>
    intro m h X Hs C l3 hk q hA
    have hm : m = 16 := by omega
    subst hm
    have h2 : ¬ nI 16 < 16 := by decide
    refine ⟨h, ?_, q, xFr.rf⟩
    rw [u_X7_letGo_21]
    simp only [u_X7_letGo_0, u_X7_letGo_1, u_X7_letGo_4, u_X7_letGo_5, u_X7_letGo_8, u_X7_letGo_11, u_X7_letGo_12, u_X7_letGo_15, u_X7_letGo_18, u_X7_letGo_19, u_X7_letGo_20, u_X7_letGo_22, u_X7_letGo_24, u_X7_letGo_27, u_X7_letGo_28, u_X7_letGo_31, u_X7_letGo_34, u_X7_letGo_35, u_X7_letGo_36, u_X7_letGo_37, u_X7_letGo_40, u_X7_letGo_43, u_X7_letGo_44, u_X7_letGo_47, u_X7_letGo_48, u_X7_letGo_51, u_X7_letGo_54, u_X7_letGo_57, u_X7_letGo_58, u_X7_letGo_61, u_X7_letGo_64, u_X7_letGo_65, u_X7_letGo_66, q.ob, q.2.1.ob, h2, if_false, lgF, xgo_some, xgo_none, xgoI_none, xcat_n, xcat_i, xcat_r, xcat_z, List.length_nil, List.length_cons, List.getD_cons_zero, List.getD_cons_succ, List.set_cons_zero, List.set_cons_succ, Nat.zero_le, Nat.reduceAdd, Nat.reduceLeDiff, Nat.reduceEqDiff, reduceIte]
  | succ k ih =>
    intro m h X Hs C l3 hk q hA
    have h2 : nI m < 16 := nI_lt (b := 16) (by omega) (by omega)
    have pl := c_low q.2.1
    simp only at pl
    rcases lowL_is X.1 X.2.1 X.2.2.2.1 16 8 (by omega) with e | ⟨v, v1, v2, e, v3, v4, v5, v6⟩
    · rw [lgF, if_pos e]
      rw [e] at pl
      refine ⟨h, ?_, q, xFr.rf⟩
      rw [u_X7_letGo_21]
      simp only [u_X7_letGo_0, u_X7_letGo_1, u_X7_letGo_4, u_X7_letGo_5, u_X7_letGo_8, u_X7_letGo_11, u_X7_letGo_12, u_X7_letGo_15, u_X7_letGo_18, u_X7_letGo_19, u_X7_letGo_20, u_X7_letGo_22, u_X7_letGo_24, u_X7_letGo_27, u_X7_letGo_28, u_X7_letGo_31, u_X7_letGo_34, u_X7_letGo_35, u_X7_letGo_36, u_X7_letGo_37, u_X7_letGo_40, u_X7_letGo_43, u_X7_letGo_44, u_X7_letGo_47, u_X7_letGo_48, u_X7_letGo_51, u_X7_letGo_54, u_X7_letGo_57, u_X7_letGo_58, u_X7_letGo_61, u_X7_letGo_64, u_X7_letGo_65, u_X7_letGo_66, q.ob, q.2.1.ob, h2, pl, if_true, xgo_some, xgo_none, xgoI_none, xcat_n, xcat_i, xcat_r, xcat_z, List.length_nil, List.length_cons, List.getD_cons_zero, List.getD_cons_succ, List.set_cons_zero, List.set_cons_succ, Nat.zero_le, Nat.reduceAdd, Nat.reduceLeDiff, Nat.reduceEqDiff, reduceIte]
    · have hg : ¬ nI v = -1 := nI_nm1 (by omega)
      rw [lgF, if_neg (by rw [e]; exact hg), e, nI_clamp (show v < 2 ^ 31 by omega)]
      rw [e] at pl
      obtain ⟨L, N, a, r, sp, go⟩ := X
      simp only at hA v6 e ⊢
      obtain ⟨h1, b1, b2, b3⟩ := c_release q.2.1 (show v < 24 by omega) (hA v (by omega)).1 (hA v (by omega)).2 v6
      have r2 := P_st q b2 (by exact xFr.wd b3 (by omega) (by omega))
      obtain ⟨h', c1, c2, c3⟩ := ih (m + 1) h1 _ Hs C (some (.int (nI v))) (by omega) r2 (acN_out hA (by omega))
      refine ⟨h', ?_, c2, (xFr.wd b3 (by omega) (by omega)).tr c3⟩
      rw [u_X7_letGo_21]
      simp only [u_X7_letGo_0, u_X7_letGo_1, u_X7_letGo_4, u_X7_letGo_5, u_X7_letGo_8, u_X7_letGo_11, u_X7_letGo_12, u_X7_letGo_15, u_X7_letGo_18, u_X7_letGo_19, u_X7_letGo_20, u_X7_letGo_22, u_X7_letGo_24, u_X7_letGo_27, u_X7_letGo_28, u_X7_letGo_31, u_X7_letGo_34, u_X7_letGo_35, u_X7_letGo_36, u_X7_letGo_37, u_X7_letGo_40, u_X7_letGo_43, u_X7_letGo_44, u_X7_letGo_47, u_X7_letGo_48, u_X7_letGo_51, u_X7_letGo_54, u_X7_letGo_57, u_X7_letGo_58, u_X7_letGo_61, u_X7_letGo_64, u_X7_letGo_65, u_X7_letGo_66, q.ob, q.2.1.ob, h2, pl, hg, b1, nI_of1, if_true, if_false, xgo_some, xgo_none, xgoI_none, xcat_n, xcat_i, xcat_r, xcat_z, List.length_nil, List.length_cons, List.getD_cons_zero, List.getD_cons_succ, List.set_cons_zero, List.set_cons_succ, Nat.zero_le, Nat.reduceAdd, Nat.reduceLeDiff, Nat.reduceEqDiff, reduceIte]
      exact c1
def sp_letGo (P : pP) : (Int32 × pP) ⊕ Nat := .inl ((lgF 16 P.1).2.2.2.2.2 - P.1.2.2.2.2.2, lgF 16 P.1, (P.1 :: P.2.1).take 6, P.2.2)
theorem P_letGo {P : pP} (q : isP h x P) (hA : acN P.1.2.1) : outP x h (xev 69 [.ref x] h) (sp_letGo P) := by
  obtain ⟨X, Hs, C⟩ := P
  obtain ⟨fr, ho⟩ := q.2.2.1.ob
  rw [e_X7_letGo]
  obtain ⟨h1, b1, b2, b3⟩ := P_save q
  obtain ⟨h2, c1, c2, c3⟩ := lp_letGo X.2.2.2.2.2 16 0 h1 X _ C none (by omega) b2 hA
  refine ⟨h2, ?_, c2, b3.tr c3⟩
  simp only [u_X7_letGo_0, u_X7_letGo_1, u_X7_letGo_4, u_X7_letGo_5, u_X7_letGo_8, u_X7_letGo_11, u_X7_letGo_12, u_X7_letGo_15, u_X7_letGo_18, u_X7_letGo_19, u_X7_letGo_20, u_X7_letGo_22, u_X7_letGo_24, u_X7_letGo_27, u_X7_letGo_28, u_X7_letGo_31, u_X7_letGo_34, u_X7_letGo_35, u_X7_letGo_36, u_X7_letGo_37, u_X7_letGo_40, u_X7_letGo_43, u_X7_letGo_44, u_X7_letGo_47, u_X7_letGo_48, u_X7_letGo_51, u_X7_letGo_54, u_X7_letGo_57, u_X7_letGo_58, u_X7_letGo_61, u_X7_letGo_64, u_X7_letGo_65, u_X7_letGo_66, q.ob, ho, b1, b2.ob, b2.2.1.ob, xgo_some, xgo_none, xgoI_none, xcat_n, xcat_i, xcat_r, xcat_z, List.length_nil, List.length_cons, List.getD_cons_zero, List.getD_cons_succ, List.set_cons_zero, List.set_cons_succ, Nat.zero_le, Nat.reduceAdd, Nat.reduceLeDiff, Nat.reduceEqDiff, reduceIte]
  exact c1
theorem P_nameAll {P : pP} (q : isP h x P) (hR : rOk P.1.1) (ha : 0 < P.1.2.2.1) : outP x h (xev 68 [.ref x] h) (sp_nameAll P) := by
  obtain ⟨X, Hs, C⟩ := P
  obtain ⟨fr, ho⟩ := q.2.2.1.ob
  rw [e_X7_nameAll]
  obtain ⟨h1, b1, b2, b3⟩ := P_save q
  obtain ⟨Z, qz⟩ := b2.2.2.2.2.1
  obtain ⟨h2, Z', c1, c2, c3, c4⟩ := c_all (by omega) qz b2.2.1 hR ha
  refine ⟨h2, ?_, P_all2 b2 c2 c3 c4, b3.tr (c4.wd (by omega) (by omega) (by omega) (by omega))⟩
  simp only [u_X7_nameAll_0, u_X7_nameAll_1, u_X7_nameAll_4, u_X7_nameAll_5, u_X7_nameAll_8, u_X7_nameAll_11, u_X7_nameAll_12, u_X7_nameAll_15, u_X7_nameAll_16, u_X7_nameAll_19, u_X7_nameAll_22, q.ob, ho, b1, b2.ob, qz.ob, c1, xgo_some, xgo_none, xgoI_none, xcat_n, xcat_i, xcat_r, xcat_z, List.length_nil, List.length_cons, List.getD_cons_zero, List.getD_cons_succ, List.set_cons_zero, List.set_cons_succ, Nat.zero_le, Nat.reduceAdd, Nat.reduceLeDiff, Nat.reduceEqDiff, reduceIte]
end PQ
