/-! Naming: steps. -/
section NK
variable {h : xH} {b d : Nat}
def finG (Z : Int32 × Int32 × Int32 × Int32) (w : Int32) : Int32 := if w = 0 then Z.1 else if w = 1 then Z.2.1 else if w = 2 then Z.2.2.1 else Z.2.2.2
theorem c_finding {Z : Int32 × Int32 × Int32 × Int32} (q : isN h b Z) (w : Int32) : xev 32 [.ref b, .int w] h = some (.inl (some (.int (finG Z w))), h) := by
  obtain ⟨T, K, q⟩ := q
  rw [e_X4_finding]
  unfold finG
  by_cases h0 : w = 0
  · simp only [u_X4_finding_0, u_X4_finding_1, u_X4_finding_28, u_X4_finding_29, u_X4_finding_32, u_X4_finding_33, u_X4_finding_34, u_X4_finding_37, u_X4_finding_38, u_X4_finding_39, u_X4_finding_42, u_X4_finding_43, u_X4_finding_44, u_X4_finding_47, q.ob, h0, if_true, xgo_some, xgo_none, xgoI_none, xcat_n, xcat_i, xcat_r, xcat_z, List.length_nil, List.length_cons, List.getD_cons_zero, List.getD_cons_succ, List.set_cons_zero, List.set_cons_succ, Nat.zero_le, Nat.reduceAdd, Nat.reduceLeDiff, Nat.reduceEqDiff, reduceIte]
  · by_cases h1 : w = 1
    · simp only [u_X4_finding_0, u_X4_finding_1, u_X4_finding_28, u_X4_finding_29, u_X4_finding_32, u_X4_finding_33, u_X4_finding_34, u_X4_finding_37, u_X4_finding_38, u_X4_finding_39, u_X4_finding_42, u_X4_finding_43, u_X4_finding_44, u_X4_finding_47, q.ob, h0, h1, if_true, if_false, i10, xgo_some, xgo_none, xgoI_none, xcat_n, xcat_i, xcat_r, xcat_z, List.length_nil, List.length_cons, List.getD_cons_zero, List.getD_cons_succ, List.set_cons_zero, List.set_cons_succ, Nat.zero_le, Nat.reduceAdd, Nat.reduceLeDiff, Nat.reduceEqDiff, reduceIte]
    · by_cases h2 : w = 2
      · have e20 : ¬ (2 : Int32) = 0 := by decide
        have e21 : ¬ (2 : Int32) = 1 := by decide
        simp only [u_X4_finding_0, u_X4_finding_1, u_X4_finding_28, u_X4_finding_29, u_X4_finding_32, u_X4_finding_33, u_X4_finding_34, u_X4_finding_37, u_X4_finding_38, u_X4_finding_39, u_X4_finding_42, u_X4_finding_43, u_X4_finding_44, u_X4_finding_47, q.ob, h2, e20, e21, if_true, if_false, xgo_some, xgo_none, xgoI_none, xcat_n, xcat_i, xcat_r, xcat_z, List.length_nil, List.length_cons, List.getD_cons_zero, List.getD_cons_succ, List.set_cons_zero, List.set_cons_succ, Nat.zero_le, Nat.reduceAdd, Nat.reduceLeDiff, Nat.reduceEqDiff, reduceIte]
      · simp only [u_X4_finding_0, u_X4_finding_1, u_X4_finding_28, u_X4_finding_29, u_X4_finding_32, u_X4_finding_33, u_X4_finding_34, u_X4_finding_37, u_X4_finding_38, u_X4_finding_39, u_X4_finding_42, u_X4_finding_43, u_X4_finding_44, u_X4_finding_47, q.ob, h0, h1, h2, if_false, xgo_some, xgo_none, xgoI_none, xcat_n, xcat_i, xcat_r, xcat_z, List.length_nil, List.length_cons, List.getD_cons_zero, List.getD_cons_succ, List.set_cons_zero, List.set_cons_succ, Nat.zero_le, Nat.reduceAdd, Nat.reduceLeDiff, Nat.reduceEqDiff, reduceIte]
def nsDef (N : xNs) (m : Nat) (x y : Int32) : xNs := (va_up N.1 m x, va_up N.2.1 m y, va_up N.2.2.1 m (1 + xmax (clAt 24 N.2.2.1 x) (clAt 24 N.2.2.1 y)), va_up N.2.2.2 m (clAt 24 N.2.2.2 x + clAt 24 N.2.2.2 y))
theorem zN_def {N : xNs} (z : zN N) {m : Nat} (hm : m < 24) (x y : Int32) : zN (nsDef N m x y) := by
  intro i hi
  obtain ⟨a, b, c, d⟩ := z i hi
  simp only [nsDef, va_up_ne _ _ (show i ≠ m by omega)]
  exact ⟨a, b, c, d⟩
def apF (X : xS) (Z : Int32 × Int32 × Int32 × Int32) : xS := (repI Z.1 Z.2.1 Z.2.2.2 X.1, if hasP X.2.1.1 Z.2.2.2 = true then X.2.1 else nsDef X.2.1 Z.2.2.2.toNatClampNeg Z.1 Z.2.1, X.2.2.1, X.2.2.2.1, X.2.2.2.2.1 + 1, X.2.2.2.2.2)
theorem c_apply {x y o : Int32} {m : Nat} {L : List Int32} {N : xNs} {a r sp go : Int32} (q : isN h b (x, y, o, nI m)) (qs : isS h d (L, N, a, r, sp, go)) (hm : m < 24) (hy : y ≠ -1) (hd : b + 5 ≤ d ∨ d + 16 ≤ b) :
    ∃ h', xev 33 [.ref b, .ref d] h = some (.inl none, h') ∧ isS h' d (apF (L, N, a, r, sp, go) (x, y, o, nI m)) ∧ xFr d (d + 16) h h' := by
  obtain ⟨T, K, q⟩ := q
  obtain ⟨z, n, f, se, ti, g1, g2, g3, g4⟩ := qs
  simp only at g1 g2 g3 g4 z q
  have hn := g4.2.1.2.2
  have hg : ¬ nI m = -1 := nI_nm1 (by omega)
  have em : (nI m).toNatClampNeg = m := nI_clamp (by omega)
  have ph := m_Names_hasPart g4.2.2.1 (nI m)
  have hr := repI_le x y (nI m) _ L (Nat.le_refl _)
  have hl : L.length = n := by rw [← g1, seg_len]
  cases e3 : hasP N.1 (nI m) with
  | true =>
    rw [e3] at ph
    have pr := m_Row_rep g4.2.1 x y (nI m) hy
    rw [g1] at pr
    have s1 : isSt (setRow h (d + 1) (repI x y (nI m) L).length (ovl (repI x y (nI m) L) f)) d (repI x y (nI m) L).length (ovl (repI x y (nI m) L) f) N.1 N.2.1 N.2.2.1 N.2.2.2 se sp go ti := st_row g4 (by omega)
    have s2 := st_sp s1 (sp + 1)
    have S := isS.mk z s2
    rw [seg_ovl, g2, g3] at S
    have ea : apF (L, N, a, r, sp, go) (x, y, o, nI m) = (repI x y (nI m) L, N, a, r, sp + 1, go) := by simp only [apF, e3, if_true]
    rw [ea]
    refine ⟨_, ?_, S, (xFr.wd xFr_row (by omega) (by omega)).tr (xFr.wd (xFr_sp s1 (sp + 1)) (Nat.le_refl d) (by omega))⟩
    rw [e_X4_apply]
    simp only [u_X4_apply_0, u_X4_apply_1, u_X4_apply_4, u_X4_apply_5, u_X4_apply_8, u_X4_apply_9, u_X4_apply_10, u_X4_apply_13, u_X4_apply_14, u_X4_apply_17, u_X4_apply_20, u_X4_apply_23, u_X4_apply_24, u_X4_apply_27, u_X4_apply_28, u_X4_apply_31, u_X4_apply_32, u_X4_apply_35, u_X4_apply_36, u_X4_apply_39, u_X4_apply_42, u_X4_apply_43, u_X4_apply_46, u_X4_apply_47, u_X4_apply_50, u_X4_apply_51, u_X4_apply_54, u_X4_apply_55, u_X4_apply_58, u_X4_apply_61, u_X4_apply_62, u_X4_apply_63, u_X4_apply_66, u_X4_apply_67, u_X4_apply_68, u_X4_apply_71, q.ob, g4.ob, s1.ob, g4.2.2.1.ob, g4.2.1.ob, hg, ph, pr, b32_t, i10, if_false, ne_eq, not_false_eq_true, xgo_some, xgo_none, xgoI_none, xcat_n, xcat_i, xcat_r, xcat_z, List.length_nil, List.length_cons, List.getD_cons_zero, List.getD_cons_succ, List.set_cons_zero, List.set_cons_succ, Nat.zero_le, Nat.reduceAdd, Nat.reduceLeDiff, Nat.reduceEqDiff, reduceIte]
  | false =>
    rw [e3] at ph
    have pd := m_Names_define g4.2.2.1 hm x y
    have s0 : isSt (setNm h (d + 3) (nsDef N m x y).1 (nsDef N m x y).2.1 (nsDef N m x y).2.2.1 (nsDef N m x y).2.2.2) d n f (nsDef N m x y).1 (nsDef N m x y).2.1 (nsDef N m x y).2.2.1 (nsDef N m x y).2.2.2 se sp go ti := st_nm g4
    obtain ⟨h1, e1⟩ : ∃ h1, h1 = setNm h (d + 3) (nsDef N m x y).1 (nsDef N m x y).2.1 (nsDef N m x y).2.2.1 (nsDef N m x y).2.2.2 := ⟨_, rfl⟩
    have w1 : xFr d (d + 16) h h1 := by rw [e1]; exact xFr.wd xFr_nm (by omega) (by omega)
    have pd' : xev 23 [.ref (d + 3), .int (nI m), .int x, .int y] h = some (.inl none, h1) := by rw [e1]; exact pd
    rw [← e1] at s0
    have q1 := isNg_fr q w1 (by omega)
    have pr := m_Row_rep s0.2.1 x y (nI m) hy
    rw [g1] at pr
    have s1 : isSt (setRow h1 (d + 1) (repI x y (nI m) L).length (ovl (repI x y (nI m) L) f)) d (repI x y (nI m) L).length (ovl (repI x y (nI m) L) f) (nsDef N m x y).1 (nsDef N m x y).2.1 (nsDef N m x y).2.2.1 (nsDef N m x y).2.2.2 se sp go ti := st_row s0 (by omega)
    have s2 := st_sp s1 (sp + 1)
    have S := isS.mk (zN_def z hm x y) s2
    rw [seg_ovl, g2, g3] at S
    have ea : apF (L, N, a, r, sp, go) (x, y, o, nI m) = (repI x y (nI m) L, nsDef N m x y, a, r, sp + 1, go) := by simp only [apF, e3, em, Bool.false_eq_true, if_false]
    rw [ea]
    refine ⟨_, ?_, S, (w1.tr (xFr.wd xFr_row (by omega) (by omega))).tr (xFr.wd (xFr_sp s1 (sp + 1)) (Nat.le_refl d) (by omega))⟩
    rw [e_X4_apply]
    simp only [u_X4_apply_0, u_X4_apply_1, u_X4_apply_4, u_X4_apply_5, u_X4_apply_8, u_X4_apply_9, u_X4_apply_10, u_X4_apply_13, u_X4_apply_14, u_X4_apply_17, u_X4_apply_20, u_X4_apply_23, u_X4_apply_24, u_X4_apply_27, u_X4_apply_28, u_X4_apply_31, u_X4_apply_32, u_X4_apply_35, u_X4_apply_36, u_X4_apply_39, u_X4_apply_42, u_X4_apply_43, u_X4_apply_46, u_X4_apply_47, u_X4_apply_50, u_X4_apply_51, u_X4_apply_54, u_X4_apply_55, u_X4_apply_58, u_X4_apply_61, u_X4_apply_62, u_X4_apply_63, u_X4_apply_66, u_X4_apply_67, u_X4_apply_68, u_X4_apply_71, q.ob, q1.ob, g4.ob, s0.ob, s1.ob, g4.2.2.1.ob, s0.2.1.ob, hg, ph, pd', pr, b32_f, if_true, if_false, ne_eq, not_true, xgo_some, xgo_none, xgoI_none, xcat_n, xcat_i, xcat_r, xcat_z, List.length_nil, List.length_cons, List.getD_cons_zero, List.getD_cons_succ, List.set_cons_zero, List.set_cons_succ, Nat.zero_le, Nat.reduceAdd, Nat.reduceLeDiff, Nat.reduceEqDiff, reduceIte]
theorem c_apply0 {x y o : Int32} (q : isN h b (x, y, o, -1)) : xev 33 [.ref b, .ref d] h = some (.inl none, h) := by
  obtain ⟨T, K, q⟩ := q
  rw [e_X4_apply]
  simp only [u_X4_apply_0, u_X4_apply_1, u_X4_apply_4, u_X4_apply_5, u_X4_apply_8, u_X4_apply_9, u_X4_apply_10, u_X4_apply_13, u_X4_apply_14, u_X4_apply_17, u_X4_apply_20, u_X4_apply_23, u_X4_apply_24, u_X4_apply_27, u_X4_apply_28, u_X4_apply_31, u_X4_apply_32, u_X4_apply_35, u_X4_apply_36, u_X4_apply_39, u_X4_apply_42, u_X4_apply_43, u_X4_apply_46, u_X4_apply_47, u_X4_apply_50, u_X4_apply_51, u_X4_apply_54, u_X4_apply_55, u_X4_apply_58, u_X4_apply_61, u_X4_apply_62, u_X4_apply_63, u_X4_apply_66, u_X4_apply_67, u_X4_apply_68, u_X4_apply_71, q.ob, if_true, xgo_some, xgo_none, xgoI_none, xcat_n, xcat_i, xcat_r, xcat_z, List.length_nil, List.length_cons, List.getD_cons_zero, List.getD_cons_succ, List.set_cons_zero, List.set_cons_succ, Nat.zero_le, Nat.reduceAdd, Nat.reduceLeDiff, Nat.reduceEqDiff, reduceIte]
theorem chF_mem (V : Int32 → Int32 → Int32) : ∀ (L : List Int32) (best : Int32) (R : Int32 × Int32 × Int32), chF V L best R = R ∨ ((chF V L best R).1 ∈ L ∧ (chF V L best R).2.1 ∈ L) := by
  intro L
  induction L with
  | nil => intro best R; exact Or.inl rfl
  | cons u t ih =>
    intro best R
    match t, ih with
    | [], _ => exact Or.inl rfl
    | v :: t, ih =>
      rw [chF]
      split
      · rcases ih (u * 24 + v) (u, v, V u v) with e | e
        · rw [e]; exact Or.inr ⟨List.mem_cons_self, List.mem_cons_of_mem _ List.mem_cons_self⟩
        · exact Or.inr ⟨List.mem_cons_of_mem _ e.1, List.mem_cons_of_mem _ e.2⟩
      · rcases ih best R with e | e
        · exact Or.inl e
        · exact Or.inr ⟨List.mem_cons_of_mem _ e.1, List.mem_cons_of_mem _ e.2⟩
theorem nmF_is (fs sn : Nat → Int32) (a c : Int32) : ∀ (k : Nat) (acc : Int32), k ≤ 16 → nmF fs sn a c k acc = acc ∨ ∃ m, 8 ≤ m ∧ m < 24 ∧ nmF fs sn a c k acc = nI m := by
  intro k
  induction k with
  | zero => intro acc _; exact Or.inl rfl
  | succ k ih =>
    intro acc hk
    rw [nmF]
    split
    · rcases ih (nI (8 + k)) (by omega) with e | e
      · exact Or.inr ⟨8 + k, by omega, by omega, e⟩
      · exact Or.inr e
    · split
      · exact Or.inr ⟨8 + k, by omega, by omega, rfl⟩
      · exact ih acc (by omega)
theorem fdF_is {L : List Int32} {N : xNs} {a : Int32} (hL : rOk L) (ha : 0 < a) : fdF L N a = (-1, -1, -1, -1) ∨ ∃ x y o m, fdF L N a = (x, y, o, nI m) ∧ 8 ≤ m ∧ m < 24 ∧ x ∈ L ∧ y ∈ L ∧ y ≠ -1 ∧ ¬ o < a := by
  unfold fdF
  by_cases h5 : fdG L N a = -1
  · rw [if_pos h5]; exact Or.inl rfl
  · rw [if_neg h5]
    unfold fdG at h5 ⊢
    by_cases h6 : (fdR L).2.2 < a
    · rw [if_pos h6] at h5; exact absurd rfl h5
    · rw [if_neg h6] at h5 ⊢
      rcases nmF_is N.1 N.2.1 (fdR L).1 (fdR L).2.1 16 (-1) (Nat.le_refl _) with e | ⟨m, m1, m2, e⟩
      · exact absurd e h5
      · rcases chF_mem (occV L) L 0 (-1, -1, 0) with e2 | e2
        · refine absurd ?_ h6
          unfold fdR
          rw [e2]
          exact ha
        · refine Or.inr ⟨(fdR L).1, (fdR L).2.1, (fdR L).2.2, m, by rw [e], m1, m2, e2.1, e2.2, ?_, h6⟩
          intro e4
          have e5 := hL _ e2.2
          unfold fdR at e4
          rw [e4] at e5
          exact absurd e5.1 (by decide)
theorem repI_mem (a b c : Int32) : ∀ (k : Nat) (L : List Int32), L.length ≤ k → ∀ x ∈ repI a b c L, x = c ∨ x ∈ L := by
  intro k
  induction k with
  | zero =>
    intro L hL x hx
    have : L = [] := List.eq_nil_of_length_eq_zero (by omega)
    rw [this] at hx
    exact absurd hx (by simp [repI])
  | succ k ih =>
    intro L hL x hx
    match L, hL with
    | [], _ => exact absurd hx (by simp [repI])
    | [u], _ => exact Or.inr hx
    | u :: v :: t, hL =>
      simp only [List.length_cons] at hL
      rw [repI] at hx
      split at hx
      · rcases List.mem_cons.mp hx with e | e
        · exact Or.inl e
        · rcases ih t (by omega) x e with e | e
          · exact Or.inl e
          · exact Or.inr (List.mem_cons_of_mem _ (List.mem_cons_of_mem _ e))
      · rcases List.mem_cons.mp hx with e | e
        · exact Or.inr (by rw [e]; exact List.mem_cons_self)
        · rcases ih (v :: t) (by simp only [List.length_cons]; omega) x e with e | e
          · exact Or.inl e
          · exact Or.inr (List.mem_cons_of_mem _ e)
theorem nI_ok {m : Nat} (hm : m < 24) : nI m = nI (nI m).toNatClampNeg ∧ (nI m).toNatClampNeg < 24 := by
  rw [nI_clamp (by omega)]; exact ⟨rfl, hm⟩
theorem rOk_ap {X : xS} {x y o : Int32} {m : Nat} (hX : rOk X.1) (hm : m < 24) : rOk (apF X (x, y, o, nI m)).1 := by
  intro v hv
  rcases repI_mem _ _ _ _ X.1 (Nat.le_refl _) v hv with e | e
  · rw [e]; exact nI_ok hm
  · exact hX v e
def allF : Nat → Nat → xS → Nat × xS
  | 0, m, X => (m, X)
  | k + 1, m, X => if (fdF X.1 X.2.1 X.2.2.1).2.2.2 = -1 then (m, X) else allF k (m + 1) (apF X (fdF X.1 X.2.1 X.2.2.1))
/-- nothing changed but in two places -/
def x2F (b1 e1 b2 e2 : Nat) (h h' : xH) : Prop := h'.2 = h.2 ∧ ∀ a, (a < b1 ∨ e1 ≤ a) → (a < b2 ∨ e2 ≤ a) → h'.1 a = h.1 a
theorem x2F.l {b1 e1 b2 e2 : Nat} {h h' : xH} (w : xFr b1 e1 h h') : x2F b1 e1 b2 e2 h h' := ⟨w.1, fun a h1 _ => w.2 a h1⟩
theorem x2F.r {b1 e1 b2 e2 : Nat} {h h' : xH} (w : xFr b2 e2 h h') : x2F b1 e1 b2 e2 h h' := ⟨w.1, fun a _ h1 => w.2 a h1⟩
theorem x2F.tr {b1 e1 b2 e2 : Nat} {h h1 h' : xH} (w : x2F b1 e1 b2 e2 h h1) (v : x2F b1 e1 b2 e2 h1 h') : x2F b1 e1 b2 e2 h h' := ⟨v.1.trans w.1, fun a h1 h2 => (v.2 a h1 h2).trans (w.2 a h1 h2)⟩
theorem x2F.wd {b1 e1 b2 e2 lo hi : Nat} {h h' : xH} (w : x2F b1 e1 b2 e2 h h') (c1 : lo ≤ b1) (c2 : e1 ≤ hi) (c3 : lo ≤ b2) (c4 : e2 ≤ hi) : xFr lo hi h h' := ⟨w.1, fun a h1 => w.2 a (by omega) (by omega)⟩
theorem lp_all (hd : b + 5 ≤ d ∨ d + 16 ≤ b) : ∀ (k m : Nat) (h : xH) (X : xS) (Z : Int32 × Int32 × Int32 × Int32), m + k = 64 → isN h b Z → isS h d X → rOk X.1 → 0 < X.2.2.1 →
    ∃ h' Z', xf 34 2 [some (.ref b), some (.ref d), some (.int (nI m))] [] h = some (.inl (some (.int (nI (allF k m X).1))), h') ∧ isN h' b Z' ∧ isS h' d (allF k m X).2 ∧ x2F b (b + 5) d (d + 16) h h' := by
  intro k
  induction k with
  | zero =>
    intro m h X Z hk q qs hX ha
    have hm : m = 64 := by omega
    subst hm
    have h2 : ¬ nI 64 < 64 := by decide
    refine ⟨h, Z, ?_, q, qs, x2F.l xFr.rf⟩
    rw [u_X4_applyAll_2]
    simp only [u_X4_applyAll_0, u_X4_applyAll_1, u_X4_applyAll_3, u_X4_applyAll_5, u_X4_applyAll_8, u_X4_applyAll_9, u_X4_applyAll_10, u_X4_applyAll_13, u_X4_applyAll_14, u_X4_applyAll_17, u_X4_applyAll_18, u_X4_applyAll_21, u_X4_applyAll_22, u_X4_applyAll_23, u_X4_applyAll_24, u_X4_applyAll_25, u_X4_applyAll_28, u_X4_applyAll_31, u_X4_applyAll_34, u_X4_applyAll_36, h2, if_false, allF, xgo_some, xgo_none, xgoI_none, xcat_n, xcat_i, xcat_r, xcat_z, List.length_nil, List.length_cons, List.getD_cons_zero, List.getD_cons_succ, List.set_cons_zero, List.set_cons_succ, Nat.zero_le, Nat.reduceAdd, Nat.reduceLeDiff, Nat.reduceEqDiff, reduceIte]
    rfl
  | succ k ih =>
    intro m h X Z hk q qs hX ha
    have h2 : nI m < 64 := nI_lt (b := 64) (by omega) (by omega)
    obtain ⟨h1, a1, a2, a3⟩ := c_find q qs hX ha hd
    have s1 := isS_fr qs a3 (by omega)
    obtain ⟨T, K, qg⟩ := q
    obtain ⟨T1, K1, qg1⟩ := id a2
    rcases fdF_is hX ha with e | ⟨x, y, o, g, e, g1, g2, g3, g4, g5, _⟩
    · refine ⟨h1, _, ?_, a2, ?_, x2F.l a3⟩
      · rw [e] at qg1
        rw [u_X4_applyAll_2, allF, if_pos (by rw [e])]
        simp only [u_X4_applyAll_0, u_X4_applyAll_1, u_X4_applyAll_3, u_X4_applyAll_5, u_X4_applyAll_8, u_X4_applyAll_9, u_X4_applyAll_10, u_X4_applyAll_13, u_X4_applyAll_14, u_X4_applyAll_17, u_X4_applyAll_18, u_X4_applyAll_21, u_X4_applyAll_22, u_X4_applyAll_23, u_X4_applyAll_24, u_X4_applyAll_25, u_X4_applyAll_28, u_X4_applyAll_31, u_X4_applyAll_34, u_X4_applyAll_36, h2, a1, qg.ob, qg1.ob, if_true, xgo_some, xgo_none, xgoI_none, xcat_n, xcat_i, xcat_r, xcat_z, List.length_nil, List.length_cons, List.getD_cons_zero, List.getD_cons_succ, List.set_cons_zero, List.set_cons_succ, Nat.zero_le, Nat.reduceAdd, Nat.reduceLeDiff, Nat.reduceEqDiff, reduceIte]
      · rw [allF, if_pos (by rw [e])]; exact s1
    · rw [e] at a2 qg1
      have hg : ¬ nI g = -1 := nI_nm1 (by omega)
      obtain ⟨h3, b1, b2, b3⟩ := c_apply a2 s1 g2 g5 hd
      have a2' := isN_fr a2 b3 (by omega)
      obtain ⟨h', Z', c1, c2, c3, c4⟩ := ih (m + 1) h3 _ _ (by omega) a2' b2 (rOk_ap hX g2) ha
      have ef : allF (k + 1) m X = allF k (m + 1) (apF X (x, y, o, nI g)) := by
        rw [allF, e, if_neg hg]
      rw [ef]
      refine ⟨h', Z', ?_, c2, c3, ((x2F.l a3).tr (x2F.r b3)).tr c4⟩
      rw [u_X4_applyAll_2]
      simp only [u_X4_applyAll_0, u_X4_applyAll_1, u_X4_applyAll_3, u_X4_applyAll_5, u_X4_applyAll_8, u_X4_applyAll_9, u_X4_applyAll_10, u_X4_applyAll_13, u_X4_applyAll_14, u_X4_applyAll_17, u_X4_applyAll_18, u_X4_applyAll_21, u_X4_applyAll_22, u_X4_applyAll_23, u_X4_applyAll_24, u_X4_applyAll_25, u_X4_applyAll_28, u_X4_applyAll_31, u_X4_applyAll_34, u_X4_applyAll_36, h2, a1, b1, qg.ob, qg1.ob, hg, if_true, if_false, nI_of1, xgo_some, xgo_none, xgoI_none, xcat_n, xcat_i, xcat_r, xcat_z, List.length_nil, List.length_cons, List.getD_cons_zero, List.getD_cons_succ, List.set_cons_zero, List.set_cons_succ, Nat.zero_le, Nat.reduceAdd, Nat.reduceLeDiff, Nat.reduceEqDiff, reduceIte]
      exact c1
theorem c_all (hd : b + 5 ≤ d ∨ d + 16 ≤ b) {X : xS} {Z : Int32 × Int32 × Int32 × Int32} (q : isN h b Z) (qs : isS h d X) (hX : rOk X.1) (ha : 0 < X.2.2.1) :
    ∃ h' Z', xev 34 [.ref b, .ref d] h = some (.inl (some (.int (nI (allF 64 0 X).1))), h') ∧ isN h' b Z' ∧ isS h' d (allF 64 0 X).2 ∧ x2F b (b + 5) d (d + 16) h h' := by
  obtain ⟨h', Z', a1, a2⟩ := lp_all hd 64 0 h X Z (by omega) q qs hX ha
  refine ⟨h', Z', ?_, a2⟩
  rw [e_X4_applyAll]
  simp only [u_X4_applyAll_0, u_X4_applyAll_1, u_X4_applyAll_3, u_X4_applyAll_5, u_X4_applyAll_8, u_X4_applyAll_9, u_X4_applyAll_10, u_X4_applyAll_13, u_X4_applyAll_14, u_X4_applyAll_17, u_X4_applyAll_18, u_X4_applyAll_21, u_X4_applyAll_22, u_X4_applyAll_23, u_X4_applyAll_24, u_X4_applyAll_25, u_X4_applyAll_28, u_X4_applyAll_31, u_X4_applyAll_34, u_X4_applyAll_36, xgo_some, xgo_none, xgoI_none, xcat_n, xcat_i, xcat_r, xcat_z, List.length_nil, List.length_cons, List.getD_cons_zero, List.getD_cons_succ, List.set_cons_zero, List.set_cons_succ, Nat.zero_le, Nat.reduceAdd, Nat.reduceLeDiff, Nat.reduceEqDiff, reduceIte]
  exact a1
end NK
