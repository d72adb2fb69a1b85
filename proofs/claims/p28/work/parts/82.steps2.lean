/-! What a step of naming is told to be, and is. -/
section NX
theorem occI_short {a c : Int32} {L : List Int32} (h : ¬ 1 < L.length) : occI a c L = 0 := by
  match L, h with
  | [], _ => rfl
  | [_], _ => rfl
  | _ :: _ :: _, h => simp at h
/-- the step that is told: none, or a pair that there is, with how often it occurs -/
theorem fd_is {X : xS} (k : okS X) : ((fdF X.1 X.2.1 X.2.2.1) = (-1, -1, -1, -1)) ∨ ∃ a c b, a < 24 ∧ c < 24 ∧ 8 ≤ b ∧ b < 24 ∧ fdF X.1 X.2.1 X.2.2.1 = (nI a, nI c, nI (occI (nI a) (nI c) X.1), nI b) ∧ hsN X.2.1 a ∧ hsN X.2.1 c ∧ ¬ nI (occI (nI a) (nI c) X.1) < X.2.2.1 := by
  by_cases hg : (fdF X.1 X.2.1 X.2.2.1).2.2.2 = -1
  · left
    by_cases z : fdG X.1 X.2.1 X.2.2.1 = -1
    · exact if_pos z
    · refine absurd ?_ z
      unfold fdF at hg
      rw [if_neg z] at hg
      exact hg
  · right
    obtain ⟨a, c, b, v, a24, c24, b8, b24, eF, ha, hc, ho, hb⟩ := ap_is k hg
    obtain ⟨hl, ⟨d, l, w⟩, pr, us, o, o2, o9, eo⟩ := k
    have hR := rPr_ok pr
    have hG : fdG X.1 X.2.1 X.2.2.1 ≠ -1 := by
      intro z
      exact hg (by unfold fdF; rw [if_pos z])
    have eF2 : fdF X.1 X.2.1 X.2.2.1 = ((fdR X.1).1, (fdR X.1).2.1, (fdR X.1).2.2, fdG X.1 X.2.1 X.2.2.1) := if_neg hG
    have h6 : ¬ (fdR X.1).2.2 < X.2.2.1 := by
      intro z
      exact hG (if_pos z)
    have h2 : 1 < X.1.length := Classical.byContradiction (fun z => ho (occI_short z))
    obtain ⟨a', c', a24', c24', e, _⟩ := fdR_best hl hR h2
    have e3 := eF.symm.trans eF2
    rw [e] at e3 h6
    simp only [Prod.mk.injEq] at e3
    obtain ⟨e4, e5, e6, e7⟩ := e3
    have ea : a = a' := (nI_eq (by omega) (by omega)).mp e4
    have ec : c = c' := (nI_eq (by omega) (by omega)).mp e5
    subst ea ec
    refine ⟨a, c, b, a24, c24, b8, b24, ?_, ha, hc, h6⟩
    rw [eF, e6]
    rfl
/-- behind all steps there is none -/
theorem all_fix : ∀ (k n : Nat) (X : xS), okS X → X.1.length ≤ k → (fdF (allF k n X).2.1 (allF k n X).2.2.1 (allF k n X).2.2.2.1).2.2.2 = -1 := by
  intro k
  induction k with
  | zero =>
    intro n X q hk
    obtain ⟨_, _, _, _, o, o2, o9, eo⟩ := q
    exact fdF_m1 _ (by show X.1.length = 0; omega) (by show 0 < X.2.2.1; rw [eo, ← nI_0]; exact nI_lt (by omega) (by omega))
  | succ k ih =>
    intro n X q hk
    rw [allF]
    by_cases g : (fdF X.1 X.2.1 X.2.2.1).2.2.2 = -1
    · rw [if_pos g]
      exact g
    · rw [if_neg g]
      have q2 := ok_ap q g
      obtain ⟨hl, _, pr, _, o, o2, o9, eo⟩ := q
      have := step_less hl (rPr_ok pr) eo (by omega) (by omega) g
      exact ih _ _ q2 (by omega)
theorem ok_ha {X : xS} (k : okS X) : 0 < X.2.2.1 := by
  obtain ⟨_, _, _, _, o, o2, o9, eo⟩ := k
  rw [eo, ← nI_0]
  exact nI_lt (by omega) (by omega)
theorem ok_hR {X : xS} (k : okS X) : rOk X.1 := rPr_ok k.2.2.1
/-- a size is at most 96 -/
theorem size_96 {T : xS} (k : okS T) : T.1.length + 2 * namN T.2.1.1 8 16 ≤ 96 := by
  have h1 := k.1
  have h2 := namN_le T.2.1.1 16 8
  omega
/-- the best setting, begun with none and a large size -/
theorem bo_same {X : xS} (k : okS X) : boF X 2 8 0 1000 = boX X := by
  have h := size_96 (ok_tr k (o := 2) (by omega) (by omega))
  have st : ∀ b s : Int32, boF X 2 8 b s = if nI ((trX X (nI 2)).1.length + 2 * namN (trX X (nI 2)).2.1.1 8 16) < s then boF X 3 7 (nI 2) (nI ((trX X (nI 2)).1.length + 2 * namN (trX X (nI 2)).2.1.1 8 16)) else boF X 3 7 b s := fun _ _ => rfl
  unfold boX
  rw [st 0 1000, st 2 97, if_pos (show nI ((trX X (nI 2)).1.length + 2 * namN (trX X (nI 2)).2.1.1 8 16) < 1000 from nI_lt (b := 1000) (by omega) (by omega)), if_pos (show nI ((trX X (nI 2)).1.length + 2 * namN (trX X (nI 2)).2.1.1 8 16) < 97 from nI_lt (b := 97) (by omega) (by omega))]
theorem take6 {α : Type} (X : α) (Hs : List α) : (X :: Hs).take 6 = X :: Hs.take 5 := rfl
end NX
/-! The class's calls that throw nothing. -/
section QQ
variable {h : xH} {x : Nat} {P : pP}
theorem Q_part (q : isP h x P) {p : Int32} (h1 : ¬ p < 0) : xev 75 [.ref x, .int p] h = some (.inl (some (.int (clAt P.1.1.length (gd P.1.1) p))), h) := by
  rw [e_X7_part]
  have p1 := c_at q.2.1 p
  simp only [u_X7_part_0, u_X7_part_1, u_X7_part_4, u_X7_part_14, u_X7_part_15, u_X7_part_18, u_X7_part_21, u_X7_part_22, u_X7_part_25, h1, q.ob, q.2.1.ob, q.2.1.rw, p1, if_false, xgo_some, xgo_none, xgoI_none, xcat_n, xcat_i, xcat_r, xcat_z, List.length_nil, List.length_cons, List.getD_cons_zero, List.getD_cons_succ, List.set_cons_zero, List.set_cons_succ, Nat.zero_le, Nat.reduceAdd, Nat.reduceLeDiff, Nat.reduceEqDiff, reduceIte]
theorem Q_sign (q : isP h x P) {p : Int32} (h1 : ¬ p < 0) : xev 76 [.ref x, .int p] h = some (.inl (some (.int (sgX P.1 p))), h) := by
  rw [e_X7_sign]
  have p1 := c_sign q.2.1 p
  simp only [u_X7_sign_0, u_X7_sign_1, u_X7_sign_4, u_X7_sign_14, u_X7_sign_15, u_X7_sign_18, u_X7_sign_19, u_X7_sign_22, h1, q.ob, q.2.1.ob, p1, if_false, xgo_some, xgo_none, xgoI_none, xcat_n, xcat_i, xcat_r, xcat_z, List.length_nil, List.length_cons, List.getD_cons_zero, List.getD_cons_succ, List.set_cons_zero, List.set_cons_succ, Nat.zero_le, Nat.reduceAdd, Nat.reduceLeDiff, Nat.reduceEqDiff, reduceIte]
  rfl
theorem Q_about (q : isP h x P) {p w : Int32} (e1 : hasP P.1.2.1.1 p = true) (h1 : ¬ w < 0) (h2 : ¬ (7 : Int32) < w) : xev 77 [.ref x, .int p, .int w] h = some (.inl (some (.int (prX P.1 p w))), h) := by
  have p1 := c_has q.2.1 p
  have p2 := c_prop q.2.1 p w
  rw [e1] at p1
  rw [e_X7_about]
  simp only [u_X7_about_0, u_X7_about_1, u_X7_about_4, u_X7_about_7, u_X7_about_8, u_X7_about_11, u_X7_about_14, u_X7_about_24, u_X7_about_25, u_X7_about_28, u_X7_about_29, u_X7_about_31, u_X7_about_34, u_X7_about_44, u_X7_about_45, u_X7_about_48, u_X7_about_49, u_X7_about_50, u_X7_about_53, q.ob, q.2.1.ob, q.2.1.nm, p1, p2, b32_t, i10, h1, h2, if_true, if_false, xgo_some, xgo_none, xgoI_none, xcat_n, xcat_i, xcat_r, xcat_z, List.length_nil, List.length_cons, List.getD_cons_zero, List.getD_cons_succ, List.set_cons_zero, List.set_cons_succ, Nat.zero_le, Nat.reduceAdd, Nat.reduceLeDiff, Nat.reduceEqDiff, reduceIte]
theorem Q_pair (q : isP h x P) {u v : Int32} (e1 : hasP P.1.2.1.1 u = true) (e2 : hasP P.1.2.1.1 v = true) : xev 78 [.ref x, .int u, .int v] h = some (.inl (some (.int (nI (occI u v P.1.1)))), h) := by
  have p1 := c_has q.2.1 u
  have p2 := c_has q.2.1 v
  have p3 := c_occ q.2.1 u v
  rw [e1] at p1
  rw [e2] at p2
  rw [e_X7_pair]
  simp only [u_X7_pair_0, u_X7_pair_1, u_X7_pair_4, u_X7_pair_7, u_X7_pair_8, u_X7_pair_11, u_X7_pair_14, u_X7_pair_15, u_X7_pair_18, u_X7_pair_21, u_X7_pair_22, u_X7_pair_25, u_X7_pair_28, u_X7_pair_38, u_X7_pair_39, u_X7_pair_42, u_X7_pair_45, u_X7_pair_46, u_X7_pair_47, u_X7_pair_50, q.ob, q.2.1.ob, q.2.1.nm, q.2.1.rw, p1, p2, p3, b32_f, b32_t, i10, if_true, if_false, xgo_some, xgo_none, xgoI_none, xcat_n, xcat_i, xcat_r, xcat_z, List.length_nil, List.length_cons, List.getD_cons_zero, List.getD_cons_succ, List.set_cons_zero, List.set_cons_succ, Nat.zero_le, Nat.reduceAdd, Nat.reduceLeDiff, Nat.reduceEqDiff, reduceIte]
theorem Q_count (q : isP h x P) {w : Int32} (h1 : ¬ w < 0) (h2 : ¬ (8 : Int32) < w) (h3 : ¬ w = 8) : xev 80 [.ref x, .int w] h = some (.inl (some (.int (toX P.1 w))), h) := by
  obtain ⟨fr, ho⟩ := q.2.2.1.ob
  have p2 := c_total q.2.1 w
  rw [e_X7_count]
  simp only [u_X7_count_0, u_X7_count_1, u_X7_count_4, u_X7_count_5, u_X7_count_7, u_X7_count_10, u_X7_count_20, u_X7_count_21, u_X7_count_23, u_X7_count_26, u_X7_count_27, u_X7_count_30, u_X7_count_33, u_X7_count_36, u_X7_count_37, u_X7_count_40, u_X7_count_41, u_X7_count_44, h1, h2, h3, if_false, q.ob, q.2.1.ob, p2, xgo_some, xgo_none, xgoI_none, xcat_n, xcat_i, xcat_r, xcat_z, List.length_nil, List.length_cons, List.getD_cons_zero, List.getD_cons_succ, List.set_cons_zero, List.set_cons_succ, Nat.zero_le, Nat.reduceAdd, Nat.reduceLeDiff, Nat.reduceEqDiff, reduceIte]
theorem Q_setting (q : isP h x P) : xev 82 [.ref x, .int 0] h = some (.inl (some (.int P.1.2.2.1)), h) := by
  have p1 := m_isSetting (h := h) 0
  have p2 := c_seAt q.2.1 (s := 0) (by decide) (by decide)
  rw [if_pos (show ¬ (0 : Int32) < 0 ∧ (0 : Int32) < 2 by decide)] at p1
  rw [e_X7_setting]
  simp only [u_X7_setting_0, u_X7_setting_1, u_X7_setting_4, u_X7_setting_7, u_X7_setting_17, u_X7_setting_18, u_X7_setting_21, u_X7_setting_24, u_X7_setting_25, u_X7_setting_28, q.ob, q.2.1.ob, q.2.1.se, p1, p2, i10, if_false, xgo_some, xgo_none, xgoI_none, xcat_n, xcat_i, xcat_r, xcat_z, List.length_nil, List.length_cons, List.getD_cons_zero, List.getD_cons_succ, List.set_cons_zero, List.set_cons_succ, Nat.zero_le, Nat.reduceAdd, Nat.reduceLeDiff, Nat.reduceEqDiff, reduceIte]
  rfl
theorem Q_c0 (q : isP h x P) : xev 80 [.ref x, .int 0] h = some (.inl (some (.int (nI P.1.1.length))), h) := Q_count q (by decide) (by decide) (by decide)
theorem Q_c1 (q : isP h x P) : xev 80 [.ref x, .int 1] h = some (.inl (some (.int (nI (namN P.1.2.1.1 8 16)))), h) := Q_count q (by decide) (by decide) (by decide)
theorem Q_c2 (q : isP h x P) : xev 80 [.ref x, .int 2] h = some (.inl (some (.int (txF P.1.2.1.2.2.2 P.1.1))), h) := Q_count q (by decide) (by decide) (by decide)
theorem Q_c3 (q : isP h x P) : xev 80 [.ref x, .int 3] h = some (.inl (some (.int (nI (unlI P.1.1 0 24)))), h) := Q_count q (by decide) (by decide) (by decide)
theorem Q_c4 (q : isP h x P) : xev 80 [.ref x, .int 4] h = some (.inl (some (.int (gdF P.1.2.1.2.2.1 0 P.1.1))), h) := Q_count q (by decide) (by decide) (by decide)
theorem Q_c5 (q : isP h x P) : xev 80 [.ref x, .int 5] h = some (.inl (some (.int (nI (P.1.1.length + 2 * namN P.1.2.1.1 8 16)))), h) := Q_count q (by decide) (by decide) (by decide)
end QQ
