/-! The class: looks. -/
section PU
variable {h : xH} {x : Nat}
def sp_part (P : pP) (p : Int32) : (Int32 × pP) ⊕ Nat := if p < 0 then .inr 0 else .inl (clAt P.1.1.length (gd P.1.1) p, P)
theorem P_part {P : pP} (q : isP h x P) (p : Int32) : outP x h (xev 75 [.ref x, .int p] h) (sp_part P p) := by
  unfold sp_part
  rw [e_X7_part]
  by_cases h1 : p < 0
  · rw [if_pos h1]
    unfold outP
    simp only [u_X7_part_0, u_X7_part_1, u_X7_part_4, u_X7_part_14, u_X7_part_15, u_X7_part_18, u_X7_part_21, u_X7_part_22, u_X7_part_25, h1, if_true, xgo_some, xgo_none, xgoI_none, xcat_n, xcat_i, xcat_r, xcat_z, List.length_nil, List.length_cons, List.getD_cons_zero, List.getD_cons_succ, List.set_cons_zero, List.set_cons_succ, Nat.zero_le, Nat.reduceAdd, Nat.reduceLeDiff, Nat.reduceEqDiff, reduceIte]
  · rw [if_neg h1]
    have p1 := c_at q.2.1 p
    refine ⟨h, ?_, q, xFr.rf⟩
    simp only [u_X7_part_0, u_X7_part_1, u_X7_part_4, u_X7_part_14, u_X7_part_15, u_X7_part_18, u_X7_part_21, u_X7_part_22, u_X7_part_25, h1, q.ob, q.2.1.ob, q.2.1.rw, p1, if_false, xgo_some, xgo_none, xgoI_none, xcat_n, xcat_i, xcat_r, xcat_z, List.length_nil, List.length_cons, List.getD_cons_zero, List.getD_cons_succ, List.set_cons_zero, List.set_cons_succ, Nat.zero_le, Nat.reduceAdd, Nat.reduceLeDiff, Nat.reduceEqDiff, reduceIte]
def sgX (X : xS) (p : Int32) : Int32 := sgR X.2.1.1 X.2.1.2.1 X.2.1.2.2.2 X.1 p
def sp_sign (P : pP) (p : Int32) : (Int32 × pP) ⊕ Nat := if p < 0 then .inr 0 else .inl (sgX P.1 p, P)
theorem P_sign {P : pP} (q : isP h x P) (p : Int32) : outP x h (xev 76 [.ref x, .int p] h) (sp_sign P p) := by
  unfold sp_sign
  rw [e_X7_sign]
  by_cases h1 : p < 0
  · rw [if_pos h1]
    unfold outP
    simp only [u_X7_sign_0, u_X7_sign_1, u_X7_sign_4, u_X7_sign_14, u_X7_sign_15, u_X7_sign_18, u_X7_sign_19, u_X7_sign_22, h1, if_true, xgo_some, xgo_none, xgoI_none, xcat_n, xcat_i, xcat_r, xcat_z, List.length_nil, List.length_cons, List.getD_cons_zero, List.getD_cons_succ, List.set_cons_zero, List.set_cons_succ, Nat.zero_le, Nat.reduceAdd, Nat.reduceLeDiff, Nat.reduceEqDiff, reduceIte]
  · rw [if_neg h1]
    have p1 := c_sign q.2.1 p
    refine ⟨h, ?_, q, xFr.rf⟩
    simp only [u_X7_sign_0, u_X7_sign_1, u_X7_sign_4, u_X7_sign_14, u_X7_sign_15, u_X7_sign_18, u_X7_sign_19, u_X7_sign_22, h1, q.ob, q.2.1.ob, p1, if_false, xgo_some, xgo_none, xgoI_none, xcat_n, xcat_i, xcat_r, xcat_z, List.length_nil, List.length_cons, List.getD_cons_zero, List.getD_cons_succ, List.set_cons_zero, List.set_cons_succ, Nat.zero_le, Nat.reduceAdd, Nat.reduceLeDiff, Nat.reduceEqDiff, reduceIte]
    rfl
def prX (X : xS) (p w : Int32) : Int32 :=
  if w = 0 then clAt 24 X.2.1.1 p else if w = 1 then clAt 24 X.2.1.2.1 p else if w = 2 then nI (cntI X.1 p + usN X.2.1.1 X.2.1.2.1 p 8 16) else if w = 3 then nI (cntI X.1 p) else if w = 4 then clAt 24 X.2.1.2.2.1 p else if w = 5 then clAt 24 X.2.1.2.2.2 p else if w = 6 then sgN X.2.1.1 X.2.1.2.1 X.2.1.2.2.2 16 p 0 else sgN X.2.1.1 X.2.1.2.1 X.2.1.2.2.2 16 p (clAt 24 X.2.1.2.2.2 p - 1)
theorem c_prop {b : Nat} {X : xS} (q : isS h b X) (p w : Int32) : xev 55 [.ref b, .int p, .int w] h = some (.inl (some (.int (prX X p w))), h) := by
  obtain ⟨_, n, f, se, _, e, _, e3, o⟩ := q
  rw [m_State_property o, prF, prX, e]
def toX (X : xS) (w : Int32) : Int32 :=
  if w = 0 then nI X.1.length else if w = 1 then nI (namN X.2.1.1 8 16) else if w = 2 then txF X.2.1.2.2.2 X.1 else if w = 3 then nI (unlI X.1 0 24) else if w = 4 then gdF X.2.1.2.2.1 0 X.1 else if w = 5 then nI (X.1.length + 2 * namN X.2.1.1 8 16) else if w = 6 then X.2.2.2.2.1 else X.2.2.2.2.2
theorem c_total {b : Nat} {X : xS} (q : isS h b X) (w : Int32) : xev 56 [.ref b, .int w] h = some (.inl (some (.int (toX X w))), h) := by
  obtain ⟨_, n, f, se, _, e, _, e3, o⟩ := q
  rw [m_State_total o, toF, toX, ← e, seg_len]
theorem c_occ {b : Nat} {X : xS} (q : isS h b X) (u v : Int32) : xev 44 [.ref (b + 1), .int u, .int v] h = some (.inl (some (.int (nI (occI u v X.1)))), h) := by
  obtain ⟨_, n, f, se, _, e, _, e3, o⟩ := q
  rw [m_Row_occ o.2.1, e]
def sp_about (P : pP) (p w : Int32) : (Int32 × pP) ⊕ Nat := if hasP P.1.2.1.1 p = true then (if w < 0 ∨ 7 < w then .inr 0 else .inl (prX P.1 p w, P)) else .inr 2
theorem P_about {P : pP} (q : isP h x P) (p w : Int32) : outP x h (xev 77 [.ref x, .int p, .int w] h) (sp_about P p w) := by
  have p1 := c_has q.2.1 p
  unfold sp_about
  rw [e_X7_about]
  cases e1 : hasP P.1.2.1.1 p with
  | false =>
    rw [e1] at p1
    rw [if_neg (by decide)]
    unfold outP
    simp only [u_X7_about_0, u_X7_about_1, u_X7_about_4, u_X7_about_7, u_X7_about_8, u_X7_about_11, u_X7_about_14, u_X7_about_24, u_X7_about_25, u_X7_about_28, u_X7_about_29, u_X7_about_31, u_X7_about_34, u_X7_about_44, u_X7_about_45, u_X7_about_48, u_X7_about_49, u_X7_about_50, u_X7_about_53, q.ob, q.2.1.ob, q.2.1.nm, p1, b32_f, if_true, xgo_some, xgo_none, xgoI_none, xcat_n, xcat_i, xcat_r, xcat_z, List.length_nil, List.length_cons, List.getD_cons_zero, List.getD_cons_succ, List.set_cons_zero, List.set_cons_succ, Nat.zero_le, Nat.reduceAdd, Nat.reduceLeDiff, Nat.reduceEqDiff, reduceIte]
  | true =>
    rw [e1] at p1
    rw [if_pos rfl]
    by_cases h1 : w < 0
    · rw [if_pos (Or.inl h1)]
      unfold outP
      simp only [u_X7_about_0, u_X7_about_1, u_X7_about_4, u_X7_about_7, u_X7_about_8, u_X7_about_11, u_X7_about_14, u_X7_about_24, u_X7_about_25, u_X7_about_28, u_X7_about_29, u_X7_about_31, u_X7_about_34, u_X7_about_44, u_X7_about_45, u_X7_about_48, u_X7_about_49, u_X7_about_50, u_X7_about_53, q.ob, q.2.1.ob, q.2.1.nm, p1, b32_t, i10, h1, if_true, if_false, xgo_some, xgo_none, xgoI_none, xcat_n, xcat_i, xcat_r, xcat_z, List.length_nil, List.length_cons, List.getD_cons_zero, List.getD_cons_succ, List.set_cons_zero, List.set_cons_succ, Nat.zero_le, Nat.reduceAdd, Nat.reduceLeDiff, Nat.reduceEqDiff, reduceIte]
    · by_cases h2 : (7 : Int32) < w
      · rw [if_pos (Or.inr h2)]
        unfold outP
        simp only [u_X7_about_0, u_X7_about_1, u_X7_about_4, u_X7_about_7, u_X7_about_8, u_X7_about_11, u_X7_about_14, u_X7_about_24, u_X7_about_25, u_X7_about_28, u_X7_about_29, u_X7_about_31, u_X7_about_34, u_X7_about_44, u_X7_about_45, u_X7_about_48, u_X7_about_49, u_X7_about_50, u_X7_about_53, q.ob, q.2.1.ob, q.2.1.nm, p1, b32_t, i10, h1, h2, if_true, if_false, xgo_some, xgo_none, xgoI_none, xcat_n, xcat_i, xcat_r, xcat_z, List.length_nil, List.length_cons, List.getD_cons_zero, List.getD_cons_succ, List.set_cons_zero, List.set_cons_succ, Nat.zero_le, Nat.reduceAdd, Nat.reduceLeDiff, Nat.reduceEqDiff, reduceIte]
      · rw [if_neg (fun z => z.elim h1 h2)]
        have p2 := c_prop q.2.1 p w
        refine ⟨h, ?_, q, xFr.rf⟩
        simp only [u_X7_about_0, u_X7_about_1, u_X7_about_4, u_X7_about_7, u_X7_about_8, u_X7_about_11, u_X7_about_14, u_X7_about_24, u_X7_about_25, u_X7_about_28, u_X7_about_29, u_X7_about_31, u_X7_about_34, u_X7_about_44, u_X7_about_45, u_X7_about_48, u_X7_about_49, u_X7_about_50, u_X7_about_53, q.ob, q.2.1.ob, q.2.1.nm, p1, p2, b32_t, i10, h1, h2, if_true, if_false, xgo_some, xgo_none, xgoI_none, xcat_n, xcat_i, xcat_r, xcat_z, List.length_nil, List.length_cons, List.getD_cons_zero, List.getD_cons_succ, List.set_cons_zero, List.set_cons_succ, Nat.zero_le, Nat.reduceAdd, Nat.reduceLeDiff, Nat.reduceEqDiff, reduceIte]
def sp_pair (P : pP) (u v : Int32) : (Int32 × pP) ⊕ Nat := if hasP P.1.2.1.1 u = true ∧ hasP P.1.2.1.1 v = true then .inl (nI (occI u v P.1.1), P) else .inr 2
theorem P_pair {P : pP} (q : isP h x P) (u v : Int32) : outP x h (xev 78 [.ref x, .int u, .int v] h) (sp_pair P u v) := by
  have p1 := c_has q.2.1 u
  have p2 := c_has q.2.1 v
  unfold sp_pair
  rw [e_X7_pair]
  cases e1 : hasP P.1.2.1.1 u with
  | false =>
    rw [e1] at p1
    rw [if_neg (fun z => absurd z.1 (by decide))]
    unfold outP
    simp only [u_X7_pair_0, u_X7_pair_1, u_X7_pair_4, u_X7_pair_7, u_X7_pair_8, u_X7_pair_11, u_X7_pair_14, u_X7_pair_15, u_X7_pair_18, u_X7_pair_21, u_X7_pair_22, u_X7_pair_25, u_X7_pair_28, u_X7_pair_38, u_X7_pair_39, u_X7_pair_42, u_X7_pair_45, u_X7_pair_46, u_X7_pair_47, u_X7_pair_50, q.ob, q.2.1.ob, q.2.1.nm, p1, b32_f, if_true, xgo_some, xgo_none, xgoI_none, xcat_n, xcat_i, xcat_r, xcat_z, List.length_nil, List.length_cons, List.getD_cons_zero, List.getD_cons_succ, List.set_cons_zero, List.set_cons_succ, Nat.zero_le, Nat.reduceAdd, Nat.reduceLeDiff, Nat.reduceEqDiff, reduceIte]
  | true =>
    rw [e1] at p1
    cases e2 : hasP P.1.2.1.1 v with
    | false =>
      rw [e2] at p2
      rw [if_neg (fun z => absurd z.2 (by decide))]
      unfold outP
      simp only [u_X7_pair_0, u_X7_pair_1, u_X7_pair_4, u_X7_pair_7, u_X7_pair_8, u_X7_pair_11, u_X7_pair_14, u_X7_pair_15, u_X7_pair_18, u_X7_pair_21, u_X7_pair_22, u_X7_pair_25, u_X7_pair_28, u_X7_pair_38, u_X7_pair_39, u_X7_pair_42, u_X7_pair_45, u_X7_pair_46, u_X7_pair_47, u_X7_pair_50, q.ob, q.2.1.ob, q.2.1.nm, p1, p2, b32_f, b32_t, i10, if_true, if_false, xgo_some, xgo_none, xgoI_none, xcat_n, xcat_i, xcat_r, xcat_z, List.length_nil, List.length_cons, List.getD_cons_zero, List.getD_cons_succ, List.set_cons_zero, List.set_cons_succ, Nat.zero_le, Nat.reduceAdd, Nat.reduceLeDiff, Nat.reduceEqDiff, reduceIte]
    | true =>
      rw [e2] at p2
      rw [if_pos ⟨rfl, rfl⟩]
      have p3 := c_occ q.2.1 u v
      refine ⟨h, ?_, q, xFr.rf⟩
      simp only [u_X7_pair_0, u_X7_pair_1, u_X7_pair_4, u_X7_pair_7, u_X7_pair_8, u_X7_pair_11, u_X7_pair_14, u_X7_pair_15, u_X7_pair_18, u_X7_pair_21, u_X7_pair_22, u_X7_pair_25, u_X7_pair_28, u_X7_pair_38, u_X7_pair_39, u_X7_pair_42, u_X7_pair_45, u_X7_pair_46, u_X7_pair_47, u_X7_pair_50, q.ob, q.2.1.ob, q.2.1.nm, q.2.1.rw, p1, p2, p3, b32_f, b32_t, i10, if_true, if_false, xgo_some, xgo_none, xgoI_none, xcat_n, xcat_i, xcat_r, xcat_z, List.length_nil, List.length_cons, List.getD_cons_zero, List.getD_cons_succ, List.set_cons_zero, List.set_cons_succ, Nat.zero_le, Nat.reduceAdd, Nat.reduceLeDiff, Nat.reduceEqDiff, reduceIte]
def sp_next (P : pP) (w : Int32) : (Int32 × pP) ⊕ Nat := if w < 0 ∨ 3 < w then .inr 0 else .inl (finG (fdF P.1.1 P.1.2.1 P.1.2.2.1) w, P)
theorem P_next {P : pP} (q : isP h x P) (hR : rOk P.1.1) (ha : 0 < P.1.2.2.1) (w : Int32) : outP x h (xev 79 [.ref x, .int w] h) (sp_next P w) := by
  unfold sp_next
  rw [e_X7_next]
  by_cases h1 : w < 0
  · rw [if_pos (Or.inl h1)]
    unfold outP
    simp only [u_X7_next_0, u_X7_next_1, u_X7_next_4, u_X7_next_5, u_X7_next_6, u_X7_next_9, u_X7_next_19, u_X7_next_20, u_X7_next_23, u_X7_next_24, u_X7_next_27, u_X7_next_30, u_X7_next_31, u_X7_next_34, u_X7_next_35, u_X7_next_38, h1, if_true, xgo_some, xgo_none, xgoI_none, xcat_n, xcat_i, xcat_r, xcat_z, List.length_nil, List.length_cons, List.getD_cons_zero, List.getD_cons_succ, List.set_cons_zero, List.set_cons_succ, Nat.zero_le, Nat.reduceAdd, Nat.reduceLeDiff, Nat.reduceEqDiff, reduceIte]
  · by_cases h2 : (3 : Int32) < w
    · rw [if_pos (Or.inr h2)]
      unfold outP
      simp only [u_X7_next_0, u_X7_next_1, u_X7_next_4, u_X7_next_5, u_X7_next_6, u_X7_next_9, u_X7_next_19, u_X7_next_20, u_X7_next_23, u_X7_next_24, u_X7_next_27, u_X7_next_30, u_X7_next_31, u_X7_next_34, u_X7_next_35, u_X7_next_38, h1, h2, if_true, if_false, xgo_some, xgo_none, xgoI_none, xcat_n, xcat_i, xcat_r, xcat_z, List.length_nil, List.length_cons, List.getD_cons_zero, List.getD_cons_succ, List.set_cons_zero, List.set_cons_succ, Nat.zero_le, Nat.reduceAdd, Nat.reduceLeDiff, Nat.reduceEqDiff, reduceIte]
    · rw [if_neg (fun z => z.elim h1 h2)]
      obtain ⟨X, Hs, C⟩ := P
      obtain ⟨Z, qz⟩ := q.2.2.2.2.1
      obtain ⟨h1', c1, c2, c3⟩ := c_find qz q.2.1 hR ha (by omega)
      have r2 := P_ng q c2 (by exact xFr.wd c3 (by omega) (by omega))
      have p2 := c_finding c2 w
      refine ⟨h1', ?_, r2, xFr.wd c3 (by omega) (by omega)⟩
      simp only [u_X7_next_0, u_X7_next_1, u_X7_next_4, u_X7_next_5, u_X7_next_6, u_X7_next_9, u_X7_next_19, u_X7_next_20, u_X7_next_23, u_X7_next_24, u_X7_next_27, u_X7_next_30, u_X7_next_31, u_X7_next_34, u_X7_next_35, u_X7_next_38, h1, h2, q.ob, qz.ob, c1, r2.ob, c2.ob, p2, if_false, xgo_some, xgo_none, xgoI_none, xcat_n, xcat_i, xcat_r, xcat_z, List.length_nil, List.length_cons, List.getD_cons_zero, List.getD_cons_succ, List.set_cons_zero, List.set_cons_succ, Nat.zero_le, Nat.reduceAdd, Nat.reduceLeDiff, Nat.reduceEqDiff, reduceIte]
def coX (P : pP) (w : Int32) : Int32 := if w = 8 then nI P.2.1.length else toX P.1 w
def sp_count (P : pP) (w : Int32) : (Int32 × pP) ⊕ Nat := if w < 0 ∨ 8 < w then .inr 0 else .inl (coX P w, P)
theorem P_count {P : pP} (q : isP h x P) (w : Int32) : outP x h (xev 80 [.ref x, .int w] h) (sp_count P w) := by
  obtain ⟨fr, ho⟩ := q.2.2.1.ob
  unfold sp_count
  rw [e_X7_count]
  by_cases h1 : w < 0
  · rw [if_pos (Or.inl h1)]
    unfold outP
    simp only [u_X7_count_0, u_X7_count_1, u_X7_count_4, u_X7_count_5, u_X7_count_7, u_X7_count_10, u_X7_count_20, u_X7_count_21, u_X7_count_23, u_X7_count_26, u_X7_count_27, u_X7_count_30, u_X7_count_33, u_X7_count_36, u_X7_count_37, u_X7_count_40, u_X7_count_41, u_X7_count_44, h1, if_true, xgo_some, xgo_none, xgoI_none, xcat_n, xcat_i, xcat_r, xcat_z, List.length_nil, List.length_cons, List.getD_cons_zero, List.getD_cons_succ, List.set_cons_zero, List.set_cons_succ, Nat.zero_le, Nat.reduceAdd, Nat.reduceLeDiff, Nat.reduceEqDiff, reduceIte]
  · by_cases h2 : (8 : Int32) < w
    · rw [if_pos (Or.inr h2)]
      unfold outP
      simp only [u_X7_count_0, u_X7_count_1, u_X7_count_4, u_X7_count_5, u_X7_count_7, u_X7_count_10, u_X7_count_20, u_X7_count_21, u_X7_count_23, u_X7_count_26, u_X7_count_27, u_X7_count_30, u_X7_count_33, u_X7_count_36, u_X7_count_37, u_X7_count_40, u_X7_count_41, u_X7_count_44, h1, h2, if_true, if_false, xgo_some, xgo_none, xgoI_none, xcat_n, xcat_i, xcat_r, xcat_z, List.length_nil, List.length_cons, List.getD_cons_zero, List.getD_cons_succ, List.set_cons_zero, List.set_cons_succ, Nat.zero_le, Nat.reduceAdd, Nat.reduceLeDiff, Nat.reduceEqDiff, reduceIte]
    · rw [if_neg (fun z => z.elim h1 h2)]
      unfold coX
      by_cases h3 : w = 8
      · rw [if_pos h3]
        refine ⟨h, ?_, q, xFr.rf⟩
        simp only [u_X7_count_0, u_X7_count_1, u_X7_count_4, u_X7_count_5, u_X7_count_7, u_X7_count_10, u_X7_count_20, u_X7_count_21, u_X7_count_23, u_X7_count_26, u_X7_count_27, u_X7_count_30, u_X7_count_33, u_X7_count_36, u_X7_count_37, u_X7_count_40, u_X7_count_41, u_X7_count_44, h1, h2, if_false, q.ob, ho, xgo_some, xgo_none, xgoI_none, xcat_n, xcat_i, xcat_r, xcat_z, List.length_nil, List.length_cons, List.getD_cons_zero, List.getD_cons_succ, List.set_cons_zero, List.set_cons_succ, Nat.zero_le, Nat.reduceAdd, Nat.reduceLeDiff, Nat.reduceEqDiff, reduceIte]
        rw [if_pos h3]
      · rw [if_neg h3]
        have p2 := c_total q.2.1 w
        refine ⟨h, ?_, q, xFr.rf⟩
        simp only [u_X7_count_0, u_X7_count_1, u_X7_count_4, u_X7_count_5, u_X7_count_7, u_X7_count_10, u_X7_count_20, u_X7_count_21, u_X7_count_23, u_X7_count_26, u_X7_count_27, u_X7_count_30, u_X7_count_33, u_X7_count_36, u_X7_count_37, u_X7_count_40, u_X7_count_41, u_X7_count_44, h1, h2, h3, if_false, q.ob, q.2.1.ob, p2, xgo_some, xgo_none, xgoI_none, xcat_n, xcat_i, xcat_r, xcat_z, List.length_nil, List.length_cons, List.getD_cons_zero, List.getD_cons_succ, List.set_cons_zero, List.set_cons_succ, Nat.zero_le, Nat.reduceAdd, Nat.reduceLeDiff, Nat.reduceEqDiff, reduceIte]
theorem tiIn_cg (fs sn dp : Nat → Int32) (d : Nat) : ∀ (k m : Nat) (f g : Nat → Int32), m + k ≤ 24 → (∀ i, i < 24 → f i = g i) → ∀ i, i < 24 → tiIn fs sn dp d m k f i = tiIn fs sn dp d m k g i := by
  intro k
  induction k with
  | zero => intro m f g _ e; exact e
  | succ k ih =>
    intro m f g hm e
    rw [tiIn, tiIn]
    refine ih (m + 1) _ _ (by omega) ?_
    intro i hi
    have ec : ∀ p, clAt 24 f p = clAt 24 g p := by
      intro p
      by_cases h1 : p < nI 24
      · exact clAt_cg (Nat.le_refl 24) (by decide) e p h1
      · unfold clAt; rw [if_neg h1, if_neg h1]
    split
    · by_cases h2 : i = m
      · rw [h2, va_up_self, va_up_self, ec, ec]
      · rw [va_up_ne _ _ h2, va_up_ne _ _ h2]; exact e i hi
    · exact e i hi
theorem tiOut_cg (fs sn dp : Nat → Int32) : ∀ (k d : Nat) (f g : Nat → Int32), (∀ i, i < 24 → f i = g i) → ∀ i, i < 24 → tiOut fs sn dp d k f i = tiOut fs sn dp d k g i := by
  intro k
  induction k with
  | zero => intro d f g e; exact e
  | succ k ih => intro d f g e; rw [tiOut, tiOut]; exact ih (d + 1) _ _ (tiIn_cg fs sn dp d 16 8 f g (by omega) e)
theorem tmF_cg {f g : Nat → Int32} (e : ∀ i, i < 24 → f i = g i) : ∀ L, tmF f L = tmF g L := by
  intro L
  induction L with
  | nil => rfl
  | cons u t ih =>
    rw [tmF, tmF, ih]
    congr 1
    by_cases h1 : u < nI 24
    · exact clAt_cg (Nat.le_refl 24) (by decide) e u h1
    · unfold clAt; rw [if_neg h1, if_neg h1]
def ti0 (N : xNs) (s : Nat) : Nat → Int32 := tiOut N.1 N.2.1 N.2.2.1 1 16 (va_up (fun _ => 0) s 1)
theorem c_times {b s : Nat} {X : xS} (q : isS h b X) (hs : s < 24) : ∃ h', xev 54 [.ref b, .int (nI s)] h = some (.inl (some (.int (tmF (ti0 X.2.1 s) X.1))), h') ∧ isS h' b X ∧ xFr b (b + 16) h h' := by
  obtain ⟨z, n, f, se, ti, e, e2, e3, o⟩ := q
  have p1 := m_State_times o hs
  have e5 : tmF (tiAll X.2.1.1 X.2.1.2.1 X.2.1.2.2.1 ti s) X.1 = tmF (ti0 X.2.1 s) X.1 := by
    refine tmF_cg (fun i hi => ?_) X.1
    refine tiOut_cg _ _ _ 16 1 _ _ (fun i hi => ?_) i hi
    by_cases h1 : i = s
    · rw [h1, va_up_self, va_up_self]
    · rw [va_up_ne _ _ h1, va_up_ne _ _ h1, if_pos hi]
  rw [e, e5] at p1
  exact ⟨_, p1, ⟨z, n, f, se, _, e, e2, e3, st_ti o⟩, xFr.wd xFr_cl (by omega) (by omega)⟩
def sp_times (P : pP) (s : Int32) : (Int32 × pP) ⊕ Nat := if s < 0 ∨ ¬ s < 8 then .inr 2 else .inl (tmF (ti0 P.1.2.1 s.toNatClampNeg) P.1.1, P)
theorem P_times {P : pP} (q : isP h x P) (s : Int32) : outP x h (xev 81 [.ref x, .int s] h) (sp_times P s) := by
  unfold sp_times
  rw [e_X7_times]
  by_cases h1 : s < 0
  · rw [if_pos (Or.inl h1)]
    unfold outP
    simp only [u_X7_times_0, u_X7_times_1, u_X7_times_4, u_X7_times_5, u_X7_times_7, u_X7_times_10, u_X7_times_20, u_X7_times_21, u_X7_times_24, u_X7_times_25, u_X7_times_28, h1, if_true, xgo_some, xgo_none, xgoI_none, xcat_n, xcat_i, xcat_r, xcat_z, List.length_nil, List.length_cons, List.getD_cons_zero, List.getD_cons_succ, List.set_cons_zero, List.set_cons_succ, Nat.zero_le, Nat.reduceAdd, Nat.reduceLeDiff, Nat.reduceEqDiff, reduceIte]
  · by_cases h2 : s < 8
    · rw [if_neg (fun z => z.elim h1 (fun w => w h2))]
      obtain ⟨k, k1, k2⟩ := nI_of h1
      have k3 : k < 8 := by rw [k2] at h2; exact (nI_ltI (b := 8) k1 (by omega)).mp h2
      rw [show s.toNatClampNeg = k by rw [k2, nI_clamp k1]]
      obtain ⟨X, Hs, C⟩ := P
      obtain ⟨h1', a1, a2, a3⟩ := c_times (s := k) q.2.1 (by omega)
      rw [← k2] at a1
      refine ⟨h1', ?_, P_st q a2 (by exact xFr.wd a3 (by omega) (by omega)), xFr.wd a3 (by omega) (by omega)⟩
      simp only [u_X7_times_0, u_X7_times_1, u_X7_times_4, u_X7_times_5, u_X7_times_7, u_X7_times_10, u_X7_times_20, u_X7_times_21, u_X7_times_24, u_X7_times_25, u_X7_times_28, h1, h2, q.ob, q.2.1.ob, a1, if_true, if_false, xgo_some, xgo_none, xgoI_none, xcat_n, xcat_i, xcat_r, xcat_z, List.length_nil, List.length_cons, List.getD_cons_zero, List.getD_cons_succ, List.set_cons_zero, List.set_cons_succ, Nat.zero_le, Nat.reduceAdd, Nat.reduceLeDiff, Nat.reduceEqDiff, reduceIte]
    · rw [if_pos (Or.inr h2)]
      unfold outP
      simp only [u_X7_times_0, u_X7_times_1, u_X7_times_4, u_X7_times_5, u_X7_times_7, u_X7_times_10, u_X7_times_20, u_X7_times_21, u_X7_times_24, u_X7_times_25, u_X7_times_28, h1, h2, if_false, xgo_some, xgo_none, xgoI_none, xcat_n, xcat_i, xcat_r, xcat_z, List.length_nil, List.length_cons, List.getD_cons_zero, List.getD_cons_succ, List.set_cons_zero, List.set_cons_succ, Nat.zero_le, Nat.reduceAdd, Nat.reduceLeDiff, Nat.reduceEqDiff, reduceIte]
def trX (X : xS) (o : Int32) : xS := (allF 64 0 (X.1, X.2.1, o, X.2.2.2)).2
theorem P_try {P : pP} (q : isP h x P) (hR : rOk P.1.1) (o : Int32) (ho : 0 < o) : ∃ h', xev 87 [.ref x, .int o] h = some (.inl none, h') ∧ isP h' x P ∧ isS h' (x + 123) (trX P.1 o) ∧ xFr x (x + 139) h h' := by
  obtain ⟨X, Hs, C⟩ := P
  obtain ⟨Y, qy⟩ := q.2.2.2.2.2
  obtain ⟨Z, qz⟩ := q.2.2.2.2.1
  obtain ⟨h1, a1, a2, a3⟩ := c_copy qy q.2.1 (by omega)
  have r1 := P_nt q (isN_fr qz a3 (by omega)) a2 (by exact xFr.wd a3 (by omega) (by omega))
  have z1 := isN_fr qz a3 (by omega)
  obtain ⟨h2, b1, b2, b3⟩ := c_sePut a2 (s := 0) (by decide) (by decide) o
  have z2 := isN_fr z1 b3 (by omega)
  have r2 := P_nt r1 z2 b2 (by exact xFr.wd b3 (by omega) (by omega))
  obtain ⟨h3, Z', c1, c2, c3, c4⟩ := c_all (by omega) z2 b2 (by exact hR) (by exact ho)
  have w : xFr (x + 118) (x + 139) h2 h3 := c4.wd (by omega) (by omega) (by omega) (by omega)
  refine ⟨h3, ?_, P_nt r2 c2 c3 w, c3, ((xFr.wd a3 (by omega) (by omega)).tr (xFr.wd b3 (by omega) (by omega))).tr (xFr.wd w (by omega) (by omega))⟩
  rw [e_X7_tryNaming]
  simp only [u_X7_tryNaming_0, u_X7_tryNaming_1, u_X7_tryNaming_4, u_X7_tryNaming_5, u_X7_tryNaming_8, u_X7_tryNaming_11, u_X7_tryNaming_12, u_X7_tryNaming_15, u_X7_tryNaming_18, u_X7_tryNaming_19, u_X7_tryNaming_20, u_X7_tryNaming_23, u_X7_tryNaming_24, u_X7_tryNaming_27, u_X7_tryNaming_28, u_X7_tryNaming_31, u_X7_tryNaming_34, u_X7_tryNaming_35, q.ob, qy.ob, a1, r1.ob, a2.ob, a2.se, b1, r2.ob, z2.ob, c1, xgo_some, xgo_none, xgoI_none, xcat_n, xcat_i, xcat_r, xcat_z, List.length_nil, List.length_cons, List.getD_cons_zero, List.getD_cons_succ, List.set_cons_zero, List.set_cons_succ, Nat.zero_le, Nat.reduceAdd, Nat.reduceLeDiff, Nat.reduceEqDiff, reduceIte]
def tnX (X T : xS) (w : Int32) : Int32 := if w = 0 then T.2.2.2.2.1 - X.2.2.2.2.1 else if w = 1 then nI T.1.length else if w = 2 then nI (T.1.length + 2 * namN T.2.1.1 8 16) else gdF T.2.1.2.2.1 0 T.1
theorem c_size {b : Nat} {X : xS} (q : isS h b X) : xev 50 [.ref b] h = some (.inl (some (.int (nI (X.1.length + 2 * namN X.2.1.1 8 16)))), h) := by
  obtain ⟨_, n, f, se, _, e, _, e3, o⟩ := q
  rw [m_State_size o, ← e, seg_len]
theorem c_deep {b : Nat} {X : xS} (q : isS h b X) : xev 52 [.ref b] h = some (.inl (some (.int (gdF X.2.1.2.2.1 0 X.1))), h) := by
  obtain ⟨_, n, f, se, _, e, _, e3, o⟩ := q
  rw [m_State_depth o, e]
theorem P_trial {P : pP} {T : xS} (q : isP h x P) (qt : isS h (x + 123) T) (w : Int32) : xev 88 [.ref x, .int w] h = some (.inl (some (.int (tnX P.1 T w))), h) := by
  have p1 := c_size qt
  have p2 := c_deep qt
  rw [e_X7_trialNumber]
  unfold tnX
  by_cases h0 : w = 0
  · simp only [u_X7_trialNumber_0, u_X7_trialNumber_1, u_X7_trialNumber_28, u_X7_trialNumber_29, u_X7_trialNumber_32, u_X7_trialNumber_35, u_X7_trialNumber_36, u_X7_trialNumber_39, u_X7_trialNumber_42, u_X7_trialNumber_43, u_X7_trialNumber_44, u_X7_trialNumber_45, u_X7_trialNumber_48, u_X7_trialNumber_51, u_X7_trialNumber_54, u_X7_trialNumber_55, u_X7_trialNumber_56, u_X7_trialNumber_59, u_X7_trialNumber_62, u_X7_trialNumber_63, u_X7_trialNumber_64, u_X7_trialNumber_67, u_X7_trialNumber_70, h0, q.ob, q.2.1.ob, qt.ob, if_true, xgo_some, xgo_none, xgoI_none, xcat_n, xcat_i, xcat_r, xcat_z, List.length_nil, List.length_cons, List.getD_cons_zero, List.getD_cons_succ, List.set_cons_zero, List.set_cons_succ, Nat.zero_le, Nat.reduceAdd, Nat.reduceLeDiff, Nat.reduceEqDiff, reduceIte]
  · by_cases h1 : w = 1
    · simp only [u_X7_trialNumber_0, u_X7_trialNumber_1, u_X7_trialNumber_28, u_X7_trialNumber_29, u_X7_trialNumber_32, u_X7_trialNumber_35, u_X7_trialNumber_36, u_X7_trialNumber_39, u_X7_trialNumber_42, u_X7_trialNumber_43, u_X7_trialNumber_44, u_X7_trialNumber_45, u_X7_trialNumber_48, u_X7_trialNumber_51, u_X7_trialNumber_54, u_X7_trialNumber_55, u_X7_trialNumber_56, u_X7_trialNumber_59, u_X7_trialNumber_62, u_X7_trialNumber_63, u_X7_trialNumber_64, u_X7_trialNumber_67, u_X7_trialNumber_70, h1, i10, q.ob, qt.ob, qt.rw, if_true, if_false, xgo_some, xgo_none, xgoI_none, xcat_n, xcat_i, xcat_r, xcat_z, List.length_nil, List.length_cons, List.getD_cons_zero, List.getD_cons_succ, List.set_cons_zero, List.set_cons_succ, Nat.zero_le, Nat.reduceAdd, Nat.reduceLeDiff, Nat.reduceEqDiff, reduceIte]
    · by_cases h2 : w = 2
      · simp only [u_X7_trialNumber_0, u_X7_trialNumber_1, u_X7_trialNumber_28, u_X7_trialNumber_29, u_X7_trialNumber_32, u_X7_trialNumber_35, u_X7_trialNumber_36, u_X7_trialNumber_39, u_X7_trialNumber_42, u_X7_trialNumber_43, u_X7_trialNumber_44, u_X7_trialNumber_45, u_X7_trialNumber_48, u_X7_trialNumber_51, u_X7_trialNumber_54, u_X7_trialNumber_55, u_X7_trialNumber_56, u_X7_trialNumber_59, u_X7_trialNumber_62, u_X7_trialNumber_63, u_X7_trialNumber_64, u_X7_trialNumber_67, u_X7_trialNumber_70, h2, show ¬ (2 : Int32) = 0 from by decide, show ¬ (2 : Int32) = 1 from by decide, q.ob, qt.ob, p1, if_true, if_false, xgo_some, xgo_none, xgoI_none, xcat_n, xcat_i, xcat_r, xcat_z, List.length_nil, List.length_cons, List.getD_cons_zero, List.getD_cons_succ, List.set_cons_zero, List.set_cons_succ, Nat.zero_le, Nat.reduceAdd, Nat.reduceLeDiff, Nat.reduceEqDiff, reduceIte]
      · simp only [u_X7_trialNumber_0, u_X7_trialNumber_1, u_X7_trialNumber_28, u_X7_trialNumber_29, u_X7_trialNumber_32, u_X7_trialNumber_35, u_X7_trialNumber_36, u_X7_trialNumber_39, u_X7_trialNumber_42, u_X7_trialNumber_43, u_X7_trialNumber_44, u_X7_trialNumber_45, u_X7_trialNumber_48, u_X7_trialNumber_51, u_X7_trialNumber_54, u_X7_trialNumber_55, u_X7_trialNumber_56, u_X7_trialNumber_59, u_X7_trialNumber_62, u_X7_trialNumber_63, u_X7_trialNumber_64, u_X7_trialNumber_67, u_X7_trialNumber_70, h0, h1, h2, q.ob, qt.ob, p2, if_false, xgo_some, xgo_none, xgoI_none, xcat_n, xcat_i, xcat_r, xcat_z, List.length_nil, List.length_cons, List.getD_cons_zero, List.getD_cons_succ, List.set_cons_zero, List.set_cons_succ, Nat.zero_le, Nat.reduceAdd, Nat.reduceLeDiff, Nat.reduceEqDiff, reduceIte]
def sp_ifNamed (P : pP) (w : Int32) : (Int32 × pP) ⊕ Nat := if w < 0 ∨ 3 < w then .inr 0 else .inl (tnX P.1 (trX P.1 P.1.2.2.1) w, P)
theorem P_ifNamed {P : pP} (q : isP h x P) (hR : rOk P.1.1) (ha : 0 < P.1.2.2.1) (w : Int32) : outP x h (xev 83 [.ref x, .int w] h) (sp_ifNamed P w) := by
  unfold sp_ifNamed
  rw [e_X7_ifNamed]
  by_cases h1 : w < 0
  · rw [if_pos (Or.inl h1)]
    unfold outP
    simp only [u_X7_ifNamed_0, u_X7_ifNamed_1, u_X7_ifNamed_4, u_X7_ifNamed_5, u_X7_ifNamed_6, u_X7_ifNamed_9, u_X7_ifNamed_19, u_X7_ifNamed_20, u_X7_ifNamed_21, u_X7_ifNamed_24, u_X7_ifNamed_27, u_X7_ifNamed_28, u_X7_ifNamed_31, u_X7_ifNamed_34, u_X7_ifNamed_35, u_X7_ifNamed_36, u_X7_ifNamed_39, h1, if_true, xgo_some, xgo_none, xgoI_none, xcat_n, xcat_i, xcat_r, xcat_z, List.length_nil, List.length_cons, List.getD_cons_zero, List.getD_cons_succ, List.set_cons_zero, List.set_cons_succ, Nat.zero_le, Nat.reduceAdd, Nat.reduceLeDiff, Nat.reduceEqDiff, reduceIte]
  · by_cases h2 : (3 : Int32) < w
    · rw [if_pos (Or.inr h2)]
      unfold outP
      simp only [u_X7_ifNamed_0, u_X7_ifNamed_1, u_X7_ifNamed_4, u_X7_ifNamed_5, u_X7_ifNamed_6, u_X7_ifNamed_9, u_X7_ifNamed_19, u_X7_ifNamed_20, u_X7_ifNamed_21, u_X7_ifNamed_24, u_X7_ifNamed_27, u_X7_ifNamed_28, u_X7_ifNamed_31, u_X7_ifNamed_34, u_X7_ifNamed_35, u_X7_ifNamed_36, u_X7_ifNamed_39, h1, h2, if_true, if_false, xgo_some, xgo_none, xgoI_none, xcat_n, xcat_i, xcat_r, xcat_z, List.length_nil, List.length_cons, List.getD_cons_zero, List.getD_cons_succ, List.set_cons_zero, List.set_cons_succ, Nat.zero_le, Nat.reduceAdd, Nat.reduceLeDiff, Nat.reduceEqDiff, reduceIte]
    · rw [if_neg (fun z => z.elim h1 h2)]
      have p1 := c_seAt q.2.1 (s := 0) (by decide) (by decide)
      obtain ⟨h1', a1, a2, a3, a4⟩ := P_try q hR P.1.2.2.1 ha
      have p2 := P_trial a2 a3 w
      refine ⟨h1', ?_, a2, a4⟩
      rw [show seX P.1 0 = P.1.2.2.1 from if_pos rfl] at p1
      simp only [u_X7_ifNamed_0, u_X7_ifNamed_1, u_X7_ifNamed_4, u_X7_ifNamed_5, u_X7_ifNamed_6, u_X7_ifNamed_9, u_X7_ifNamed_19, u_X7_ifNamed_20, u_X7_ifNamed_21, u_X7_ifNamed_24, u_X7_ifNamed_27, u_X7_ifNamed_28, u_X7_ifNamed_31, u_X7_ifNamed_34, u_X7_ifNamed_35, u_X7_ifNamed_36, u_X7_ifNamed_39, h1, h2, q.ob, q.2.1.ob, q.2.1.se, p1, a1, a2.ob, p2, if_false, xgo_some, xgo_none, xgoI_none, xcat_n, xcat_i, xcat_r, xcat_z, List.length_nil, List.length_cons, List.getD_cons_zero, List.getD_cons_succ, List.set_cons_zero, List.set_cons_succ, Nat.zero_le, Nat.reduceAdd, Nat.reduceLeDiff, Nat.reduceEqDiff, reduceIte]
def boF (X : xS) : Nat → Nat → Int32 → Int32 → Int32
  | _, 0, b, _ => b
  | o, k + 1, b, s => if nI ((trX X (nI o)).1.length + 2 * namN (trX X (nI o)).2.1.1 8 16) < s then boF X (o + 1) k (nI o) (nI ((trX X (nI o)).1.length + 2 * namN (trX X (nI o)).2.1.1 8 16)) else boF X (o + 1) k b s
theorem lp_best {P : pP} (hR : rOk P.1.1) : ∀ (k o : Nat) (h : xH) (b s : Int32) (l4 : Option Value), 2 ≤ o → o + k = 10 → isP h x P →
    ∃ h', xf 84 7 [some (.ref x), some (.int b), some (.int s), some (.int (nI o)), l4] [] h = some (.inl (some (.int (boF P.1 o k b s))), h') ∧ isP h' x P ∧ xFr x (x + 139) h h' := by
  intro k
  induction k with
  | zero =>
    intro o h b s l4 h9 hk q
    have h2 : (9 : Int32) < nI o := nI_lt (a := 9) (by omega) (by omega)
    refine ⟨h, ?_, q, xFr.rf⟩
    rw [u_X7_bestOften_7]
    simp only [u_X7_bestOften_0, u_X7_bestOften_1, u_X7_bestOften_2, u_X7_bestOften_4, u_X7_bestOften_5, u_X7_bestOften_6, u_X7_bestOften_8, u_X7_bestOften_10, u_X7_bestOften_13, u_X7_bestOften_14, u_X7_bestOften_15, u_X7_bestOften_18, u_X7_bestOften_19, u_X7_bestOften_22, u_X7_bestOften_25, u_X7_bestOften_27, u_X7_bestOften_29, u_X7_bestOften_30, u_X7_bestOften_33, u_X7_bestOften_35, u_X7_bestOften_36, u_X7_bestOften_37, u_X7_bestOften_38, u_X7_bestOften_41, u_X7_bestOften_44, u_X7_bestOften_45, h2, if_true, boF, xgo_some, xgo_none, xgoI_none, xcat_n, xcat_i, xcat_r, xcat_z, List.length_nil, List.length_cons, List.getD_cons_zero, List.getD_cons_succ, List.set_cons_zero, List.set_cons_succ, Nat.zero_le, Nat.reduceAdd, Nat.reduceLeDiff, Nat.reduceEqDiff, reduceIte]
  | succ k ih =>
    intro o h b s l4 h9 hk q
    have h2 : ¬ (9 : Int32) < nI o := nI_nlt (a := 9) (by omega) (by omega)
    obtain ⟨h1, a1, a2, a3, a4⟩ := P_try q hR (nI o) (by rw [← nI_0]; exact nI_lt (by omega) (by omega))
    have p1 := c_size a3
    rw [boF]
    by_cases h3 : nI ((trX P.1 (nI o)).1.length + 2 * namN (trX P.1 (nI o)).2.1.1 8 16) < s
    · rw [if_pos h3]
      obtain ⟨h', b1, b2, b3⟩ := ih (o + 1) h1 (nI o) (nI ((trX P.1 (nI o)).1.length + 2 * namN (trX P.1 (nI o)).2.1.1 8 16)) (some (.int (nI ((trX P.1 (nI o)).1.length + 2 * namN (trX P.1 (nI o)).2.1.1 8 16)))) (by omega) (by omega) a2
      refine ⟨h', ?_, b2, a4.tr b3⟩
      rw [u_X7_bestOften_7]
      simp only [u_X7_bestOften_0, u_X7_bestOften_1, u_X7_bestOften_2, u_X7_bestOften_4, u_X7_bestOften_5, u_X7_bestOften_6, u_X7_bestOften_8, u_X7_bestOften_10, u_X7_bestOften_13, u_X7_bestOften_14, u_X7_bestOften_15, u_X7_bestOften_18, u_X7_bestOften_19, u_X7_bestOften_22, u_X7_bestOften_25, u_X7_bestOften_27, u_X7_bestOften_29, u_X7_bestOften_30, u_X7_bestOften_33, u_X7_bestOften_35, u_X7_bestOften_36, u_X7_bestOften_37, u_X7_bestOften_38, u_X7_bestOften_41, u_X7_bestOften_44, u_X7_bestOften_45, h2, h3, q.ob, a1, a2.ob, a3.ob, p1, nI_of1, if_true, if_false, xgo_some, xgo_none, xgoI_none, xcat_n, xcat_i, xcat_r, xcat_z, List.length_nil, List.length_cons, List.getD_cons_zero, List.getD_cons_succ, List.set_cons_zero, List.set_cons_succ, Nat.zero_le, Nat.reduceAdd, Nat.reduceLeDiff, Nat.reduceEqDiff, reduceIte]
      exact b1
    · rw [if_neg h3]
      obtain ⟨h', b1, b2, b3⟩ := ih (o + 1) h1 b s (some (.int (nI ((trX P.1 (nI o)).1.length + 2 * namN (trX P.1 (nI o)).2.1.1 8 16)))) (by omega) (by omega) a2
      refine ⟨h', ?_, b2, a4.tr b3⟩
      rw [u_X7_bestOften_7]
      simp only [u_X7_bestOften_0, u_X7_bestOften_1, u_X7_bestOften_2, u_X7_bestOften_4, u_X7_bestOften_5, u_X7_bestOften_6, u_X7_bestOften_8, u_X7_bestOften_10, u_X7_bestOften_13, u_X7_bestOften_14, u_X7_bestOften_15, u_X7_bestOften_18, u_X7_bestOften_19, u_X7_bestOften_22, u_X7_bestOften_25, u_X7_bestOften_27, u_X7_bestOften_29, u_X7_bestOften_30, u_X7_bestOften_33, u_X7_bestOften_35, u_X7_bestOften_36, u_X7_bestOften_37, u_X7_bestOften_38, u_X7_bestOften_41, u_X7_bestOften_44, u_X7_bestOften_45, h2, h3, q.ob, a1, a2.ob, a3.ob, p1, nI_of1, if_false, xgo_some, xgo_none, xgoI_none, xcat_n, xcat_i, xcat_r, xcat_z, List.length_nil, List.length_cons, List.getD_cons_zero, List.getD_cons_succ, List.set_cons_zero, List.set_cons_succ, Nat.zero_le, Nat.reduceAdd, Nat.reduceLeDiff, Nat.reduceEqDiff, reduceIte]
      exact b1
def boX (X : xS) : Int32 := boF X 2 8 2 97
theorem P_best {P : pP} (q : isP h x P) (hR : rOk P.1.1) : outP x h (xev 84 [.ref x] h) (.inl (boX P.1, P)) := by
  obtain ⟨h', a1, a2, a3⟩ := lp_best hR 8 2 h 2 97 none (by omega) (by omega) q
  refine ⟨h', ?_, a2, a3⟩
  rw [e_X7_bestOften]
  simp only [u_X7_bestOften_0, u_X7_bestOften_1, u_X7_bestOften_2, u_X7_bestOften_4, u_X7_bestOften_5, u_X7_bestOften_6, u_X7_bestOften_8, u_X7_bestOften_10, u_X7_bestOften_13, u_X7_bestOften_14, u_X7_bestOften_15, u_X7_bestOften_18, u_X7_bestOften_19, u_X7_bestOften_22, u_X7_bestOften_25, u_X7_bestOften_27, u_X7_bestOften_29, u_X7_bestOften_30, u_X7_bestOften_33, u_X7_bestOften_35, u_X7_bestOften_36, u_X7_bestOften_37, u_X7_bestOften_38, u_X7_bestOften_41, u_X7_bestOften_44, u_X7_bestOften_45, xgo_some, xgo_none, xgoI_none, xcat_n, xcat_i, xcat_r, xcat_z, List.length_nil, List.length_cons, List.getD_cons_zero, List.getD_cons_succ, List.set_cons_zero, List.set_cons_succ, Nat.zero_le, Nat.reduceAdd, Nat.reduceLeDiff, Nat.reduceEqDiff, reduceIte]
  exact a1
end PU
