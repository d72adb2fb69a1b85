/-! The class: opening all, settings, the buffer, undo. -/
section PR
variable {h : xH} {x : Nat}
theorem c_sign {b : Nat} {X : xS} (q : isS h b X) (p : Int32) : xev 53 [.ref b, .int p] h = some (.inl (some (.int (sgR X.2.1.1 X.2.1.2.1 X.2.1.2.2.2 X.1 p))), h) := by
  obtain ⟨_, n, f, se, _, e, _, e3, o⟩ := q
  rw [← e]
  exact m_State_signAt o p
theorem c_txt {b : Nat} {X : xS} (q : isS h b X) : xev 51 [.ref b] h = some (.inl (some (.int (txF X.2.1.2.2.2 X.1))), h) := by
  obtain ⟨_, n, f, se, _, e, _, e3, o⟩ := q
  rw [← e]
  exact m_State_textLength o
def oaF (X : xS) : Nat → Nat → List Int32
  | _, 0 => []
  | i, k + 1 => sgR X.2.1.1 X.2.1.2.1 X.2.1.2.2.2 X.1 (nI i) :: oaF X (i + 1) k
theorem oaF_len (X : xS) : ∀ (k i : Nat), (oaF X i k).length = k := by
  intro k
  induction k with
  | zero => intro i; rfl
  | succ k ih => intro i; rw [oaF, List.length_cons, ih]
theorem lp_openAll (t : Nat) (ht : t ≤ 64) (X0 : xS) : ∀ (k i : Nat) (h : xH) (L : List Int32) (T : xNs × Int32 × Int32 × Int32 × Int32) (Hs : List xS) (C : List Int32), i + k = t → L.length = i → isP h x ((L, T), Hs, C) → isS h (x + 123) X0 →
    ∃ h', xf 70 59 [some (.ref x), some (.int (nI t)), some (.int (nI i))] [] h = xf 70 88 [some (.ref x), some (.int (nI t)), some (.int (nI t))] [] h' ∧ isP h' x ((L ++ oaF X0 i k, T), Hs, C) ∧ xFr x (x + 139) h h' := by
  intro k
  induction k with
  | zero =>
    intro i h L T Hs C hk hL q qt
    have h2 : ¬ nI i < nI t := nI_nlt (by omega) (by omega)
    have hi : i = t := by omega
    subst hi
    refine ⟨h, ?_, by rw [oaF, List.append_nil]; exact q, xFr.rf⟩
    rw [u_X7_openAll_59]
    simp only [u_X7_openAll_60, u_X7_openAll_61, h2, if_false, xgo_some, xgo_none, xgoI_none, xcat_n, xcat_i, xcat_r, xcat_z, List.length_nil, List.length_cons, List.getD_cons_zero, List.getD_cons_succ, List.set_cons_zero, List.set_cons_succ, Nat.zero_le, Nat.reduceAdd, Nat.reduceLeDiff, Nat.reduceEqDiff, reduceIte]
  | succ k ih =>
    intro i h L T Hs C hk hL q qt
    have h2 : nI i < nI t := nI_lt (by omega) (by omega)
    have ps := c_sign qt (nI i)
    obtain ⟨h1, b1, b2, b3⟩ := c_push q.2.1 (sgR X0.2.1.1 X0.2.1.2.1 X0.2.1.2.2.2 X0.1 (nI i)) (by omega)
    have r2 := P_st q b2 (by exact xFr.wd b3 (by omega) (by omega))
    obtain ⟨h', c1, c2, c3⟩ := ih (i + 1) h1 _ T Hs C (by omega) (by rw [List.length_append, hL]; rfl) r2 (isS_fr qt b3 (by omega))
    refine ⟨h', ?_, ?_, (xFr.wd b3 (by omega) (by omega)).tr c3⟩
    · rw [u_X7_openAll_59]
      simp only [u_X7_openAll_0, u_X7_openAll_1, u_X7_openAll_4, u_X7_openAll_7, u_X7_openAll_8, u_X7_openAll_9, u_X7_openAll_11, u_X7_openAll_14, u_X7_openAll_24, u_X7_openAll_25, u_X7_openAll_28, u_X7_openAll_29, u_X7_openAll_32, u_X7_openAll_35, u_X7_openAll_36, u_X7_openAll_39, u_X7_openAll_40, u_X7_openAll_43, u_X7_openAll_46, u_X7_openAll_47, u_X7_openAll_50, u_X7_openAll_53, u_X7_openAll_54, u_X7_openAll_57, u_X7_openAll_58, u_X7_openAll_60, u_X7_openAll_61, u_X7_openAll_64, u_X7_openAll_65, u_X7_openAll_68, u_X7_openAll_71, u_X7_openAll_72, u_X7_openAll_75, u_X7_openAll_76, u_X7_openAll_79, u_X7_openAll_82, u_X7_openAll_85, u_X7_openAll_89, u_X7_openAll_92, u_X7_openAll_95, u_X7_openAll_96, u_X7_openAll_99, u_X7_openAll_102, u_X7_openAll_105, q.ob, q.2.1.ob, q.2.1.rw, qt.ob, h2, ps, b1, nI_of1, if_true, xgo_some, xgo_none, xgoI_none, xcat_n, xcat_i, xcat_r, xcat_z, List.length_nil, List.length_cons, List.getD_cons_zero, List.getD_cons_succ, List.set_cons_zero, List.set_cons_succ, Nat.zero_le, Nat.reduceAdd, Nat.reduceLeDiff, Nat.reduceEqDiff, reduceIte]
      exact c1
    · rw [List.append_assoc] at c2
      exact c2
def sp_openAll (P : pP) : (Int32 × pP) ⊕ Nat := if (64 : Int32) < txF P.1.2.1.2.2.2 P.1.1 then .inr 1 else .inl (txF P.1.2.1.2.2.2 P.1.1, (oaF P.1 0 (txF P.1.2.1.2.2.2 P.1.1).toNatClampNeg, fgOut (oaF P.1 0 (txF P.1.2.1.2.2.2 P.1.1).toNatClampNeg) 16 P.1.2.1, P.1.2.2), (P.1 :: P.2.1).take 6, P.2.2)
theorem P_openAll {P : pP} (q : isP h x P) (h0 : ¬ txF P.1.2.1.2.2.2 P.1.1 < 0) : outP x h (xev 70 [.ref x] h) (sp_openAll P) := by
  obtain ⟨⟨L, N, a, r, sp, go⟩, Hs, C⟩ := P
  obtain ⟨fr, ho⟩ := q.2.2.1.ob
  have pt := c_txt q.2.1
  unfold sp_openAll
  rw [e_X7_openAll]
  simp only at h0 pt ⊢
  by_cases h1 : (64 : Int32) < txF N.2.2.2 L
  · rw [if_pos h1]
    unfold outP
    simp only [u_X7_openAll_0, u_X7_openAll_1, u_X7_openAll_4, u_X7_openAll_7, u_X7_openAll_8, u_X7_openAll_9, u_X7_openAll_11, u_X7_openAll_14, u_X7_openAll_24, u_X7_openAll_25, u_X7_openAll_28, u_X7_openAll_29, u_X7_openAll_32, u_X7_openAll_35, u_X7_openAll_36, u_X7_openAll_39, u_X7_openAll_40, u_X7_openAll_43, u_X7_openAll_46, u_X7_openAll_47, u_X7_openAll_50, u_X7_openAll_53, u_X7_openAll_54, u_X7_openAll_57, u_X7_openAll_58, u_X7_openAll_60, u_X7_openAll_61, u_X7_openAll_64, u_X7_openAll_65, u_X7_openAll_68, u_X7_openAll_71, u_X7_openAll_72, u_X7_openAll_75, u_X7_openAll_76, u_X7_openAll_79, u_X7_openAll_82, u_X7_openAll_85, u_X7_openAll_89, u_X7_openAll_92, u_X7_openAll_95, u_X7_openAll_96, u_X7_openAll_99, u_X7_openAll_102, u_X7_openAll_105, q.ob, q.2.1.ob, pt, h1, if_true, xgo_some, xgo_none, xgoI_none, xcat_n, xcat_i, xcat_r, xcat_z, List.length_nil, List.length_cons, List.getD_cons_zero, List.getD_cons_succ, List.set_cons_zero, List.set_cons_succ, Nat.zero_le, Nat.reduceAdd, Nat.reduceLeDiff, Nat.reduceEqDiff, reduceIte]
  · rw [if_neg h1]
    obtain ⟨t, t1, t2⟩ := nI_of2 (M := 64) (n := 64) (by decide) h0 (le_of_nlt h1)
    rw [t2] at pt h1 ⊢
    rw [nI_clamp (by omega)]
    obtain ⟨h1', b1, b2, b3⟩ := P_save q
    obtain ⟨Y, qy⟩ := b2.2.2.2.2.2
    obtain ⟨h2, c1, c2, c3⟩ := c_copy qy b2.2.1 (by omega)
    obtain ⟨Z, qz⟩ := b2.2.2.2.2.1
    have r2 := P_nt b2 (isN_fr qz c3 (by omega)) c2 (by exact xFr.wd c3 (by omega) (by omega))
    obtain ⟨h3, d1, d2, d3⟩ := c_short (k := 0) r2.2.1 (Nat.zero_le _)
    have r3 := P_st r2 d2 (by exact xFr.wd d3 (by omega) (by omega))
    have c4 := isS_fr c2 d3 (by omega)
    obtain ⟨h4, f1, f2, f3⟩ := lp_openAll t t1 _ t 0 h3 _ _ _ _ (by omega) (by rfl) r3 c4
    obtain ⟨h5, g1, g2, g3⟩ := c_forget f2.2.1
    have r5 := P_st f2 g2 (by exact xFr.wd g3 (by omega) (by omega))
    rw [List.take_zero, List.nil_append] at r5
    refine ⟨h5, ?_, r5, (((b3.tr (xFr.wd c3 (by omega) (by omega))).tr (xFr.wd d3 (by omega) (by omega))).tr f3).tr (xFr.wd g3 (by omega) (by omega))⟩
    have ro := r5.2.1.rw
    simp only [oaF_len] at ro
    simp only [nI_0] at d1
    simp only [u_X7_openAll_0, u_X7_openAll_1, u_X7_openAll_4, u_X7_openAll_7, u_X7_openAll_8, u_X7_openAll_9, u_X7_openAll_11, u_X7_openAll_14, u_X7_openAll_24, u_X7_openAll_25, u_X7_openAll_28, u_X7_openAll_29, u_X7_openAll_32, u_X7_openAll_35, u_X7_openAll_36, u_X7_openAll_39, u_X7_openAll_40, u_X7_openAll_43, u_X7_openAll_46, u_X7_openAll_47, u_X7_openAll_50, u_X7_openAll_53, u_X7_openAll_54, u_X7_openAll_57, u_X7_openAll_58, u_X7_openAll_60, u_X7_openAll_61, u_X7_openAll_64, u_X7_openAll_65, u_X7_openAll_68, u_X7_openAll_71, u_X7_openAll_72, u_X7_openAll_75, u_X7_openAll_76, u_X7_openAll_79, u_X7_openAll_82, u_X7_openAll_85, u_X7_openAll_89, u_X7_openAll_92, u_X7_openAll_95, u_X7_openAll_96, u_X7_openAll_99, u_X7_openAll_102, u_X7_openAll_105, q.ob, q.2.1.ob, pt, h1, ho, b1, b2.ob, b2.2.1.ob, qy.ob, c1, r2.ob, r2.2.1.ob, r2.2.1.rw, d1, if_false, xgo_some, xgo_none, xgoI_none, xcat_n, xcat_i, xcat_r, xcat_z, List.length_nil, List.length_cons, List.getD_cons_zero, List.getD_cons_succ, List.set_cons_zero, List.set_cons_succ, Nat.zero_le, Nat.reduceAdd, Nat.reduceLeDiff, Nat.reduceEqDiff, reduceIte]
    rw [show (0 : Int32) = nI 0 from rfl, f1, u_X7_openAll_88]
    simp only [u_X7_openAll_0, u_X7_openAll_1, u_X7_openAll_4, u_X7_openAll_7, u_X7_openAll_8, u_X7_openAll_9, u_X7_openAll_11, u_X7_openAll_14, u_X7_openAll_24, u_X7_openAll_25, u_X7_openAll_28, u_X7_openAll_29, u_X7_openAll_32, u_X7_openAll_35, u_X7_openAll_36, u_X7_openAll_39, u_X7_openAll_40, u_X7_openAll_43, u_X7_openAll_46, u_X7_openAll_47, u_X7_openAll_50, u_X7_openAll_53, u_X7_openAll_54, u_X7_openAll_57, u_X7_openAll_58, u_X7_openAll_60, u_X7_openAll_61, u_X7_openAll_64, u_X7_openAll_65, u_X7_openAll_68, u_X7_openAll_71, u_X7_openAll_72, u_X7_openAll_75, u_X7_openAll_76, u_X7_openAll_79, u_X7_openAll_82, u_X7_openAll_85, u_X7_openAll_89, u_X7_openAll_92, u_X7_openAll_95, u_X7_openAll_96, u_X7_openAll_99, u_X7_openAll_102, u_X7_openAll_105, f2.ob, f2.2.1.ob, g1, r5.ob, r5.2.1.ob, ro, xgo_some, xgo_none, xgoI_none, xcat_n, xcat_i, xcat_r, xcat_z, List.length_nil, List.length_cons, List.getD_cons_zero, List.getD_cons_succ, List.set_cons_zero, List.set_cons_succ, Nat.zero_le, Nat.reduceAdd, Nat.reduceLeDiff, Nat.reduceEqDiff, reduceIte]
theorem m_isSetting (s : Int32) : xev 85 [.int s] h = some (.inl (some (.int (if ¬ s < 0 ∧ s < 2 then 1 else 0))), h) := by
  rw [e_X7_isSetting]
  by_cases h1 : s < 0
  · rw [if_neg (fun z => z.1 h1)]
    simp only [u_X7_isSetting_0, u_X7_isSetting_1, u_X7_isSetting_4, u_X7_isSetting_5, u_X7_isSetting_6, u_X7_isSetting_9, u_X7_isSetting_10, u_X7_isSetting_13, u_X7_isSetting_14, h1, if_true, true_or, xgo_some, xgo_none, xgoI_none, xcat_n, xcat_i, xcat_r, xcat_z, List.length_nil, List.length_cons, List.getD_cons_zero, List.getD_cons_succ, List.set_cons_zero, List.set_cons_succ, Nat.zero_le, Nat.reduceAdd, Nat.reduceLeDiff, Nat.reduceEqDiff, reduceIte]
  · by_cases h2 : s < 2
    · rw [if_pos ⟨h1, h2⟩]
      simp only [u_X7_isSetting_0, u_X7_isSetting_1, u_X7_isSetting_4, u_X7_isSetting_5, u_X7_isSetting_6, u_X7_isSetting_9, u_X7_isSetting_10, u_X7_isSetting_13, u_X7_isSetting_14, h1, h2, if_true, if_false, or_true, xgo_some, xgo_none, xgoI_none, xcat_n, xcat_i, xcat_r, xcat_z, List.length_nil, List.length_cons, List.getD_cons_zero, List.getD_cons_succ, List.set_cons_zero, List.set_cons_succ, Nat.zero_le, Nat.reduceAdd, Nat.reduceLeDiff, Nat.reduceEqDiff, reduceIte]
    · rw [if_neg (fun z => h2 z.2)]
      simp only [u_X7_isSetting_0, u_X7_isSetting_1, u_X7_isSetting_4, u_X7_isSetting_5, u_X7_isSetting_6, u_X7_isSetting_9, u_X7_isSetting_10, u_X7_isSetting_13, u_X7_isSetting_14, h1, h2, if_false, true_or, xgo_some, xgo_none, xgoI_none, xcat_n, xcat_i, xcat_r, xcat_z, List.length_nil, List.length_cons, List.getD_cons_zero, List.getD_cons_succ, List.set_cons_zero, List.set_cons_succ, Nat.zero_le, Nat.reduceAdd, Nat.reduceLeDiff, Nat.reduceEqDiff, reduceIte]
theorem m_leastValue (s : Int32) : xev 86 [.int s] h = some (.inl (some (.int (if s = 0 then 2 else 1))), h) := by
  rw [e_X7_leastValue]
  by_cases h1 : s = 0
  · simp only [u_X7_leastValue_0, u_X7_leastValue_1, u_X7_leastValue_4, u_X7_leastValue_5, u_X7_leastValue_8, u_X7_leastValue_9, h1, if_true, xgo_some, xgo_none, xgoI_none, xcat_n, xcat_i, xcat_r, xcat_z, List.length_nil, List.length_cons, List.getD_cons_zero, List.getD_cons_succ, List.set_cons_zero, List.set_cons_succ, Nat.zero_le, Nat.reduceAdd, Nat.reduceLeDiff, Nat.reduceEqDiff, reduceIte]
  · simp only [u_X7_leastValue_0, u_X7_leastValue_1, u_X7_leastValue_4, u_X7_leastValue_5, u_X7_leastValue_8, u_X7_leastValue_9, h1, if_false, xgo_some, xgo_none, xgoI_none, xcat_n, xcat_i, xcat_r, xcat_z, List.length_nil, List.length_cons, List.getD_cons_zero, List.getD_cons_succ, List.set_cons_zero, List.set_cons_succ, Nat.zero_le, Nat.reduceAdd, Nat.reduceLeDiff, Nat.reduceEqDiff, reduceIte]
theorem is01 {s : Int32} (h1 : ¬ s < 0) (h2 : s < 2) : s = nI 0 ∨ s = nI 1 := by
  obtain ⟨k, k1, k2⟩ := nI_of h1
  have k3 : k < 2 := by rw [k2] at h2; exact (nI_ltI (b := 2) k1 (by omega)).mp h2
  rcases (show k = 0 ∨ k = 1 by omega) with e | e
  · exact Or.inl (by rw [k2, e])
  · exact Or.inr (by rw [k2, e])
def seX (X : xS) (s : Int32) : Int32 := if s = 0 then X.2.2.1 else X.2.2.2.1
def seU (X : xS) (s v : Int32) : xS := if s = 0 then (X.1, X.2.1, v, X.2.2.2) else (X.1, X.2.1, X.2.2.1, v, X.2.2.2.2)
theorem d2 : 0 < 2 ∧ 2 < 2 ^ 31 := by decide
theorem c_seAt {b : Nat} {X : xS} (q : isS h b X) {s : Int32} (h1 : ¬ s < 0) (h2 : s < 2) : xev 12 [.ref (b + 12), .int s] h = some (.inl (some (.int (seX X s))), h) := by
  obtain ⟨_, n, f, se, _, e, e2, e3, o⟩ := q
  rw [m_Cells_at o.2.2.2.1 d2]
  unfold seX
  rcases is01 h1 h2 with rfl | rfl
  · rw [clAt_nI (by decide) (by decide), e2, if_pos nI_0]
  · rw [clAt_nI (by decide) (by decide), e3, if_neg (by decide)]
theorem c_sePut {b : Nat} {X : xS} (q : isS h b X) {s : Int32} (h1 : ¬ s < 0) (h2 : s < 2) (v : Int32) : ∃ h', xev 13 [.ref (b + 12), .int s, .int v] h = some (.inl none, h') ∧ isS h' b (seU X s v) ∧ xFr b (b + 16) h h' := by
  obtain ⟨z, n, f, se, ti, e, e2, e3, o⟩ := q
  obtain ⟨L, N, a, r, sp, go⟩ := X
  simp only at z e e2 e3 o
  rcases is01 h1 h2 with rfl | rfl
  · refine ⟨_, m_Cells_put_nI o.2.2.2.1 d2.2 (by decide) v, ?_, xFr.wd xFr_cl (by omega) (by omega)⟩
    have S := isS.mk z (st_se o (g := va_up se 0 v))
    rw [e, va_up_self, va_up_ne _ _ (by decide), e3] at S
    exact S
  · refine ⟨_, m_Cells_put_nI o.2.2.2.1 d2.2 (by decide) v, ?_, xFr.wd xFr_cl (by omega) (by omega)⟩
    have S := isS.mk z (st_se o (g := va_up se 1 v))
    rw [e, va_up_self, va_up_ne _ _ (by decide), e2] at S
    exact S
def sp_set (P : pP) (s v : Int32) : (Int32 × pP) ⊕ Nat := if ¬ s < 0 ∧ s < 2 then (if v < (if s = 0 then 2 else 1) ∨ 9 < v then .inr 0 else .inl (seX P.1 s, seU P.1 s v, (P.1 :: P.2.1).take 6, P.2.2)) else .inr 2
theorem P_set {P : pP} (q : isP h x P) (s v : Int32) : outP x h (xev 71 [.ref x, .int s, .int v] h) (sp_set P s v) := by
  obtain ⟨X, Hs, C⟩ := P
  obtain ⟨fr, ho⟩ := q.2.2.1.ob
  have p1 := m_isSetting (h := h) s
  have p2 := m_leastValue (h := h) s
  unfold sp_set
  rw [e_X7_set]
  by_cases h1 : ¬ s < 0 ∧ s < 2
  · rw [if_pos h1] at p1 ⊢
    by_cases h2 : v < (if s = 0 then 2 else 1)
    · rw [if_pos (Or.inl h2)]
      unfold outP
      simp only [u_X7_set_0, u_X7_set_1, u_X7_set_4, u_X7_set_7, u_X7_set_17, u_X7_set_18, u_X7_set_19, u_X7_set_22, u_X7_set_25, u_X7_set_26, u_X7_set_28, u_X7_set_31, u_X7_set_41, u_X7_set_42, u_X7_set_45, u_X7_set_46, u_X7_set_49, u_X7_set_52, u_X7_set_53, u_X7_set_56, u_X7_set_59, u_X7_set_60, u_X7_set_63, u_X7_set_64, u_X7_set_65, u_X7_set_68, u_X7_set_71, u_X7_set_72, u_X7_set_73, u_X7_set_76, u_X7_set_77, p1, p2, h2, i10, if_true, if_false, xgo_some, xgo_none, xgoI_none, xcat_n, xcat_i, xcat_r, xcat_z, List.length_nil, List.length_cons, List.getD_cons_zero, List.getD_cons_succ, List.set_cons_zero, List.set_cons_succ, Nat.zero_le, Nat.reduceAdd, Nat.reduceLeDiff, Nat.reduceEqDiff, reduceIte]
    · by_cases h3 : (9 : Int32) < v
      · rw [if_pos (Or.inr h3)]
        unfold outP
        simp only [u_X7_set_0, u_X7_set_1, u_X7_set_4, u_X7_set_7, u_X7_set_17, u_X7_set_18, u_X7_set_19, u_X7_set_22, u_X7_set_25, u_X7_set_26, u_X7_set_28, u_X7_set_31, u_X7_set_41, u_X7_set_42, u_X7_set_45, u_X7_set_46, u_X7_set_49, u_X7_set_52, u_X7_set_53, u_X7_set_56, u_X7_set_59, u_X7_set_60, u_X7_set_63, u_X7_set_64, u_X7_set_65, u_X7_set_68, u_X7_set_71, u_X7_set_72, u_X7_set_73, u_X7_set_76, u_X7_set_77, p1, p2, h2, h3, i10, if_true, if_false, xgo_some, xgo_none, xgoI_none, xcat_n, xcat_i, xcat_r, xcat_z, List.length_nil, List.length_cons, List.getD_cons_zero, List.getD_cons_succ, List.set_cons_zero, List.set_cons_succ, Nat.zero_le, Nat.reduceAdd, Nat.reduceLeDiff, Nat.reduceEqDiff, reduceIte]
      · rw [if_neg (fun z => z.elim h2 h3)]
        obtain ⟨h1', b1, b2, b3⟩ := P_save q
        have p3 := c_seAt b2.2.1 h1.1 h1.2
        obtain ⟨h2', c1, c2, c3⟩ := c_sePut b2.2.1 h1.1 h1.2 v
        have r2 := P_st b2 c2 (by exact xFr.wd c3 (by omega) (by omega))
        refine ⟨h2', ?_, r2, b3.tr (xFr.wd c3 (by omega) (by omega))⟩
        simp only [u_X7_set_0, u_X7_set_1, u_X7_set_4, u_X7_set_7, u_X7_set_17, u_X7_set_18, u_X7_set_19, u_X7_set_22, u_X7_set_25, u_X7_set_26, u_X7_set_28, u_X7_set_31, u_X7_set_41, u_X7_set_42, u_X7_set_45, u_X7_set_46, u_X7_set_49, u_X7_set_52, u_X7_set_53, u_X7_set_56, u_X7_set_59, u_X7_set_60, u_X7_set_63, u_X7_set_64, u_X7_set_65, u_X7_set_68, u_X7_set_71, u_X7_set_72, u_X7_set_73, u_X7_set_76, u_X7_set_77, p1, p2, h2, h3, i10, q.ob, ho, b1, b2.ob, b2.2.1.ob, b2.2.1.se, p3, c1, if_true, if_false, xgo_some, xgo_none, xgoI_none, xcat_n, xcat_i, xcat_r, xcat_z, List.length_nil, List.length_cons, List.getD_cons_zero, List.getD_cons_succ, List.set_cons_zero, List.set_cons_succ, Nat.zero_le, Nat.reduceAdd, Nat.reduceLeDiff, Nat.reduceEqDiff, reduceIte]
  · rw [if_neg h1] at p1 ⊢
    unfold outP
    simp only [u_X7_set_0, u_X7_set_1, u_X7_set_4, u_X7_set_7, u_X7_set_17, u_X7_set_18, u_X7_set_19, u_X7_set_22, u_X7_set_25, u_X7_set_26, u_X7_set_28, u_X7_set_31, u_X7_set_41, u_X7_set_42, u_X7_set_45, u_X7_set_46, u_X7_set_49, u_X7_set_52, u_X7_set_53, u_X7_set_56, u_X7_set_59, u_X7_set_60, u_X7_set_63, u_X7_set_64, u_X7_set_65, u_X7_set_68, u_X7_set_71, u_X7_set_72, u_X7_set_73, u_X7_set_76, u_X7_set_77, p1, if_true, xgo_some, xgo_none, xgoI_none, xcat_n, xcat_i, xcat_r, xcat_z, List.length_nil, List.length_cons, List.getD_cons_zero, List.getD_cons_succ, List.set_cons_zero, List.set_cons_succ, Nat.zero_le, Nat.reduceAdd, Nat.reduceLeDiff, Nat.reduceEqDiff, reduceIte]
def sp_setting (P : pP) (s : Int32) : (Int32 × pP) ⊕ Nat := if ¬ s < 0 ∧ s < 2 then .inl (seX P.1 s, P) else .inr 2
theorem P_setting {P : pP} (q : isP h x P) (s : Int32) : outP x h (xev 82 [.ref x, .int s] h) (sp_setting P s) := by
  obtain ⟨X, Hs, C⟩ := P
  have p1 := m_isSetting (h := h) s
  unfold sp_setting
  rw [e_X7_setting]
  by_cases h1 : ¬ s < 0 ∧ s < 2
  · rw [if_pos h1] at p1 ⊢
    have p3 := c_seAt q.2.1 h1.1 h1.2
    refine ⟨h, ?_, q, xFr.rf⟩
    simp only [u_X7_setting_0, u_X7_setting_1, u_X7_setting_4, u_X7_setting_7, u_X7_setting_17, u_X7_setting_18, u_X7_setting_21, u_X7_setting_24, u_X7_setting_25, u_X7_setting_28, p1, i10, q.ob, q.2.1.ob, q.2.1.se, p3, if_true, if_false, xgo_some, xgo_none, xgoI_none, xcat_n, xcat_i, xcat_r, xcat_z, List.length_nil, List.length_cons, List.getD_cons_zero, List.getD_cons_succ, List.set_cons_zero, List.set_cons_succ, Nat.zero_le, Nat.reduceAdd, Nat.reduceLeDiff, Nat.reduceEqDiff, reduceIte]
  · rw [if_neg h1] at p1 ⊢
    unfold outP
    simp only [u_X7_setting_0, u_X7_setting_1, u_X7_setting_4, u_X7_setting_7, u_X7_setting_17, u_X7_setting_18, u_X7_setting_21, u_X7_setting_24, u_X7_setting_25, u_X7_setting_28, p1, if_true, xgo_some, xgo_none, xgoI_none, xcat_n, xcat_i, xcat_r, xcat_z, List.length_nil, List.length_cons, List.getD_cons_zero, List.getD_cons_succ, List.set_cons_zero, List.set_cons_succ, Nat.zero_le, Nat.reduceAdd, Nat.reduceLeDiff, Nat.reduceEqDiff, reduceIte]
def sp_undo (P : pP) : (Int32 × pP) ⊕ Nat := match P.2.1 with
  | [] => .inr 1
  | X :: Hs => .inl (nI Hs.length, X, Hs, P.2.2)
theorem P_undo {P : pP} (q : isP h x P) : outP x h (xev 74 [.ref x] h) (sp_undo P) := by
  obtain ⟨X, Hs, C⟩ := P
  obtain ⟨fr, ho⟩ := q.2.2.1.ob
  have hl : Hs.length ≤ 6 := by
    obtain ⟨_, _, _, i1, _⟩ := q.2.2.1
    exact i1.2.2.2.1
  rw [e_X7_undo]
  match Hs, q, ho, hl with
  | [], q, ho, hl =>
    unfold outP sp_undo
    simp only [List.length_nil] at ho
    simp only [u_X7_undo_0, u_X7_undo_1, u_X7_undo_4, u_X7_undo_7, u_X7_undo_10, u_X7_undo_20, u_X7_undo_21, u_X7_undo_24, u_X7_undo_25, u_X7_undo_28, u_X7_undo_31, u_X7_undo_32, u_X7_undo_35, u_X7_undo_38, q.ob, ho, nI_0, if_true, xgo_some, xgo_none, xgoI_none, xcat_n, xcat_i, xcat_r, xcat_z, List.length_nil, List.length_cons, List.getD_cons_zero, List.getD_cons_succ, List.set_cons_zero, List.set_cons_succ, Nat.zero_le, Nat.reduceAdd, Nat.reduceLeDiff, Nat.reduceEqDiff, reduceIte]
  | X' :: Hs, q, ho, hl =>
    unfold sp_undo
    have n1 : ¬ nI (Hs.length + 1) = 0 := nI_ne0 (by omega) (by simp only [List.length_cons] at hl; omega)
    simp only [List.length_cons] at ho
    obtain ⟨h1, a1, a2, a3, a4⟩ := c_restore q.2.2.1 q.2.1 (by omega)
    obtain ⟨q1, q2, q3, q4, ⟨Z, q5⟩, Y, q6⟩ := id q
    obtain ⟨fr2, ho2⟩ := a2.ob
    have w := a4.wd (lo := x + 1) (hi := x + 115) (by omega) (by omega) (by omega) (by omega)
    have r1 : isP h1 x (X', Hs, C) := ⟨by rw [w.2 x (by omega)]; exact q1, a3, a2, isB_fr q4 w (by omega), ⟨Z, isN_fr q5 w (by omega)⟩, Y, isS_fr q6 w (by omega)⟩
    refine ⟨h1, ?_, r1, xFr.wd w (by omega) (by omega)⟩
    simp only [u_X7_undo_0, u_X7_undo_1, u_X7_undo_4, u_X7_undo_7, u_X7_undo_10, u_X7_undo_20, u_X7_undo_21, u_X7_undo_24, u_X7_undo_25, u_X7_undo_28, u_X7_undo_31, u_X7_undo_32, u_X7_undo_35, u_X7_undo_38, q.ob, ho, n1, a1, r1.ob, ho2, if_false, xgo_some, xgo_none, xgoI_none, xcat_n, xcat_i, xcat_r, xcat_z, List.length_nil, List.length_cons, List.getD_cons_zero, List.getD_cons_succ, List.set_cons_zero, List.set_cons_succ, Nat.zero_le, Nat.reduceAdd, Nat.reduceLeDiff, Nat.reduceEqDiff, reduceIte]
def sp_append (P : pP) (c : Int32) : (Int32 × pP) ⊕ Nat := if c < 33 ∨ 126 < c then .inr 0 else if P.2.2.length < 60 then .inl (nI (P.2.2.length + 1), P.1, P.2.1, P.2.2 ++ [c]) else .inr 1
theorem P_append {P : pP} (q : isP h x P) (c : Int32) : outP x h (xev 72 [.ref x, .int c] h) (sp_append P c) := by
  obtain ⟨X, Hs, C⟩ := P
  unfold sp_append
  rw [e_X7_append]
  have hl : C.length ≤ 60 := by
    obtain ⟨_, b, _⟩ := q.2.2.2.1
    exact b.2.2
  by_cases h1 : c < 33
  · rw [if_pos (Or.inl h1)]
    unfold outP
    simp only [u_X7_append_0, u_X7_append_1, u_X7_append_3, u_X7_append_6, u_X7_append_7, u_X7_append_9, u_X7_append_12, u_X7_append_22, u_X7_append_23, u_X7_append_26, u_X7_append_29, u_X7_append_31, u_X7_append_34, u_X7_append_44, u_X7_append_45, u_X7_append_48, u_X7_append_49, u_X7_append_52, u_X7_append_53, u_X7_append_56, u_X7_append_59, h1, if_true, xgo_some, xgo_none, xgoI_none, xcat_n, xcat_i, xcat_r, xcat_z, List.length_nil, List.length_cons, List.getD_cons_zero, List.getD_cons_succ, List.set_cons_zero, List.set_cons_succ, Nat.zero_le, Nat.reduceAdd, Nat.reduceLeDiff, Nat.reduceEqDiff, reduceIte]
  · by_cases h2 : (126 : Int32) < c
    · rw [if_pos (Or.inr h2)]
      unfold outP
      simp only [u_X7_append_0, u_X7_append_1, u_X7_append_3, u_X7_append_6, u_X7_append_7, u_X7_append_9, u_X7_append_12, u_X7_append_22, u_X7_append_23, u_X7_append_26, u_X7_append_29, u_X7_append_31, u_X7_append_34, u_X7_append_44, u_X7_append_45, u_X7_append_48, u_X7_append_49, u_X7_append_52, u_X7_append_53, u_X7_append_56, u_X7_append_59, h1, h2, if_true, if_false, xgo_some, xgo_none, xgoI_none, xcat_n, xcat_i, xcat_r, xcat_z, List.length_nil, List.length_cons, List.getD_cons_zero, List.getD_cons_succ, List.set_cons_zero, List.set_cons_succ, Nat.zero_le, Nat.reduceAdd, Nat.reduceLeDiff, Nat.reduceEqDiff, reduceIte]
    · rw [if_neg (fun z => z.elim h1 h2)]
      have bo := q.2.2.2.1.ob
      simp only at bo
      by_cases h3 : C.length < 60
      · have h4 : nI C.length < 60 := nI_lt (b := 60) h3 (by omega)
        rw [if_pos h3]
        obtain ⟨f, qb, ef⟩ := id q.2.2.2.1
        simp only at qb ef
        obtain ⟨h1', a1, a2, a3⟩ := m_Buf_push qb c h3
        have r1 : isB h1' (x + 115) (C ++ [c]) := ⟨va_up f C.length c, by rw [List.length_append]; exact a2, by rw [List.length_append, List.length_singleton, seg_push, ef]⟩
        have r2 := P_bf q r1 (by exact xFr.wd a3 (by omega) (by omega))
        refine ⟨h1', ?_, r2, xFr.wd a3 (by omega) (by omega)⟩
        have ro := r1.ob
        rw [List.length_append] at ro
        simp only [u_X7_append_0, u_X7_append_1, u_X7_append_3, u_X7_append_6, u_X7_append_7, u_X7_append_9, u_X7_append_12, u_X7_append_22, u_X7_append_23, u_X7_append_26, u_X7_append_29, u_X7_append_31, u_X7_append_34, u_X7_append_44, u_X7_append_45, u_X7_append_48, u_X7_append_49, u_X7_append_52, u_X7_append_53, u_X7_append_56, u_X7_append_59, q.ob, bo, h1, h2, h4, a1, r2.ob, ro, if_true, if_false, xgo_some, xgo_none, xgoI_none, xcat_n, xcat_i, xcat_r, xcat_z, List.length_nil, List.length_cons, List.getD_cons_zero, List.getD_cons_succ, List.set_cons_zero, List.set_cons_succ, Nat.zero_le, Nat.reduceAdd, Nat.reduceLeDiff, Nat.reduceEqDiff, reduceIte]
      · have h4 : ¬ nI C.length < 60 := nI_nlt (a := C.length) (b := 60) (by omega) (by omega)
        rw [if_neg h3]
        unfold outP
        simp only [u_X7_append_0, u_X7_append_1, u_X7_append_3, u_X7_append_6, u_X7_append_7, u_X7_append_9, u_X7_append_12, u_X7_append_22, u_X7_append_23, u_X7_append_26, u_X7_append_29, u_X7_append_31, u_X7_append_34, u_X7_append_44, u_X7_append_45, u_X7_append_48, u_X7_append_49, u_X7_append_52, u_X7_append_53, u_X7_append_56, u_X7_append_59, q.ob, bo, h1, h2, h4, if_false, xgo_some, xgo_none, xgoI_none, xcat_n, xcat_i, xcat_r, xcat_z, List.length_nil, List.length_cons, List.getD_cons_zero, List.getD_cons_succ, List.set_cons_zero, List.set_cons_succ, Nat.zero_le, Nat.reduceAdd, Nat.reduceLeDiff, Nat.reduceEqDiff, reduceIte]
def sp_clear (P : pP) : (Int32 × pP) ⊕ Nat := .inl (nI P.2.2.length, P.1, P.2.1, [])
theorem P_clear {P : pP} (q : isP h x P) : outP x h (xev 73 [.ref x] h) (sp_clear P) := by
  obtain ⟨X, Hs, C⟩ := P
  rw [e_X7_clearBuffer]
  obtain ⟨h1, a1, a2, a3⟩ := c_empty q.2.2.2.1
  refine ⟨h1, ?_, P_bf q a2 (by exact xFr.wd a3 (by omega) (by omega)), xFr.wd a3 (by omega) (by omega)⟩
  simp only [u_X7_clearBuffer_0, u_X7_clearBuffer_1, u_X7_clearBuffer_4, u_X7_clearBuffer_7, u_X7_clearBuffer_8, u_X7_clearBuffer_9, u_X7_clearBuffer_12, u_X7_clearBuffer_15, u_X7_clearBuffer_16, q.ob, q.2.2.2.1.ob, a1, xgo_some, xgo_none, xgoI_none, xcat_n, xcat_i, xcat_r, xcat_z, List.length_nil, List.length_cons, List.getD_cons_zero, List.getD_cons_succ, List.set_cons_zero, List.set_cons_succ, Nat.zero_le, Nat.reduceAdd, Nat.reduceLeDiff, Nat.reduceEqDiff, reduceIte]
def sp_first (P : pP) : (Int32 × pP) ⊕ Nat := .inl (nI (fwC P.2.2), P)
theorem c_fw {b : Nat} {C : List Int32} (q : isB h b C) : xev 6 [.ref b] h = some (.inl (some (.int (nI (fwC C)))), h) := by
  obtain ⟨f, q, e⟩ := q
  have eb := bf_gd q
  rw [e] at eb
  rw [m_Buf_fw q, fw_cg eb]
  rfl
end PR
