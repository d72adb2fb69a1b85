/-! The class: the digest's parts. -/
section PV
variable {h : xH} {x : Nat}
def mxF (a : Int64) : List Int64 → Int64
  | [] => a
  | v :: t => mxF (31 * a + v) t
theorem mxF_app : ∀ (s t : List Int64) (a : Int64), mxF a (s ++ t) = mxF (mxF a s) t := by
  intro s
  induction s with
  | nil => intro t a; rfl
  | cons v s ih => intro t a; rw [List.cons_append, mxF, mxF, ih]
theorem m_mix (a b : Int64) : xev 92 [.long a, .long b] h = some (.inl (some (.long (31 * a + b))), h) := by
  rw [e_X7_mix]
  simp only [u_X7_mix_0, u_X7_mix_3, u_X7_mix_4, u_X7_mix_5, u_X7_mix_6, u_X7_mix_7, xgo_some, xgo_none, xgoI_none, xcat_n, xcat_i, xcat_r, xcat_z, List.length_nil, List.length_cons, List.getD_cons_zero, List.getD_cons_succ, List.set_cons_zero, List.set_cons_succ, Nat.zero_le, Nat.reduceAdd, Nat.reduceLeDiff, Nat.reduceEqDiff, reduceIte]
def tot1 (P : pP) : Nat → Nat → List Int64
  | _, 0 => []
  | w, k + 1 => (coX P (nI w)).toInt64 :: tot1 P (w + 1) k
def tot2 (X : xS) : List Int64 := [(seX X 0).toInt64, (seX X 1).toInt64]
theorem xcat_l (v : Int64) : xcat (some (.long v)) = none := rfl
theorem tot1_9 (P : pP) : tot1 P 0 9 = tot1 P 0 8 ++ [(nI P.2.1.length).toInt64] := by
  have e : coX P (nI 8) = nI P.2.1.length := by
    unfold coX
    rw [if_pos (show nI 8 = 8 from rfl)]
  have e2 : tot1 P 0 9 = tot1 P 0 8 ++ [(coX P (nI 8)).toInt64] := rfl
  rw [e2, e]
theorem lp_tot1 {P : pP} (q : isP h x P) (a : Int64) : ∀ (k w : Nat) (b : Int64), w + k = 8 →
    xf 93 5 [some (.ref x), some (.long a), none, some (.long b), none, some (.int (nI w))] [] h = xf 93 33 [some (.ref x), some (.long a), none, some (.long (mxF b (tot1 P w k))), none, some (.int (nI 8))] [] h := by
  intro k
  induction k with
  | zero =>
    intro w b hk
    have h2 : (7 : Int32) < nI w := nI_lt (a := 7) (by omega) (by omega)
    have hw : w = 8 := by omega
    subst hw
    rw [u_X7_mixTotals_5]
    simp only [u_X7_mixTotals_7, u_X7_mixTotals_9, h2, if_true, tot1, mxF, xgo_some, xgo_none, xgoI_none, xcat_n, xcat_i, xcat_r, xcat_z, List.length_nil, List.length_cons, List.getD_cons_zero, List.getD_cons_succ, List.set_cons_zero, List.set_cons_succ, Nat.zero_le, Nat.reduceAdd, Nat.reduceLeDiff, Nat.reduceEqDiff, reduceIte]
  | succ k ih =>
    intro w b hk
    have h2 : ¬ (7 : Int32) < nI w := nI_nlt (a := 7) (by omega) (by omega)
    have h3 : ¬ nI w = 8 := fun z => by
      have := nI_lt (a := w) (b := 8) (by omega) (by omega)
      rw [z] at this
      exact absurd this (by decide)
    have p2 := c_total q.2.1 (nI w)
    have ec : coX P (nI w) = toX P.1 (nI w) := by
      unfold coX
      rw [if_neg h3]
    rw [u_X7_mixTotals_5]
    simp only [u_X7_mixTotals_0, u_X7_mixTotals_1, u_X7_mixTotals_2, u_X7_mixTotals_3, u_X7_mixTotals_7, u_X7_mixTotals_9, u_X7_mixTotals_12, u_X7_mixTotals_13, u_X7_mixTotals_14, u_X7_mixTotals_17, u_X7_mixTotals_19, u_X7_mixTotals_22, u_X7_mixTotals_23, u_X7_mixTotals_26, u_X7_mixTotals_27, u_X7_mixTotals_30, u_X7_mixTotals_34, u_X7_mixTotals_35, u_X7_mixTotals_38, u_X7_mixTotals_41, u_X7_mixTotals_42, u_X7_mixTotals_45, u_X7_mixTotals_46, u_X7_mixTotals_47, u_X7_mixTotals_51, u_X7_mixTotals_52, u_X7_mixTotals_55, u_X7_mixTotals_56, u_X7_mixTotals_57, u_X7_mixTotals_60, u_X7_mixTotals_63, u_X7_mixTotals_65, u_X7_mixTotals_68, u_X7_mixTotals_69, u_X7_mixTotals_72, u_X7_mixTotals_73, u_X7_mixTotals_76, u_X7_mixTotals_79, u_X7_mixTotals_80, h2, q.ob, q.2.1.ob, p2, m_mix, nI_of1, if_false, xgo_some, xgo_none, xgoI_none, xcat_n, xcat_i, xcat_r, xcat_z, List.length_nil, List.length_cons, List.getD_cons_zero, List.getD_cons_succ, List.set_cons_zero, List.set_cons_succ, Nat.zero_le, Nat.reduceAdd, Nat.reduceLeDiff, Nat.reduceEqDiff, reduceIte]
    rw [ih (w + 1) _ (by omega), tot1, mxF, ec]
theorem lp_tot2 {P : pP} (q : isP h x P) (a b : Int64) : xf 93 33 [some (.ref x), some (.long a), none, some (.long b), none, some (.int (nI 8))] [] h = some (.inl (some (.long (mxF (31 * b + (nI P.2.1.length).toInt64) (tot2 P.1)))), h) := by
  obtain ⟨fr, ho⟩ := q.2.2.1.ob
  have p0 := c_seAt q.2.1 (s := 0) (by decide) (by decide)
  have p1 := c_seAt q.2.1 (s := 1) (by decide) (by decide)
  have k0 : (0 : Int32) < 2 := by decide
  have k1 : (1 : Int32) < 2 := by decide
  have k2 : ¬ (2 : Int32) < 2 := by decide
  have e1 : (0 : Int32) + 1 = 1 := by decide
  have e2 : (1 : Int32) + 1 = 2 := by decide
  simp only [u_X7_mixTotals_0, u_X7_mixTotals_1, u_X7_mixTotals_2, u_X7_mixTotals_3, u_X7_mixTotals_7, u_X7_mixTotals_9, u_X7_mixTotals_12, u_X7_mixTotals_13, u_X7_mixTotals_14, u_X7_mixTotals_17, u_X7_mixTotals_19, u_X7_mixTotals_22, u_X7_mixTotals_23, u_X7_mixTotals_26, u_X7_mixTotals_27, u_X7_mixTotals_30, u_X7_mixTotals_33, u_X7_mixTotals_34, u_X7_mixTotals_35, u_X7_mixTotals_38, u_X7_mixTotals_41, u_X7_mixTotals_42, u_X7_mixTotals_45, u_X7_mixTotals_46, u_X7_mixTotals_47, u_X7_mixTotals_49, u_X7_mixTotals_51, u_X7_mixTotals_52, u_X7_mixTotals_55, u_X7_mixTotals_56, u_X7_mixTotals_57, u_X7_mixTotals_60, u_X7_mixTotals_63, u_X7_mixTotals_65, u_X7_mixTotals_68, u_X7_mixTotals_69, u_X7_mixTotals_72, u_X7_mixTotals_73, u_X7_mixTotals_76, u_X7_mixTotals_79, u_X7_mixTotals_80, q.ob, ho, q.2.1.ob, q.2.1.se, p0, p1, k0, k1, k2, e1, e2, m_mix, if_true, if_false, xgo_some, xgo_none, xgoI_none, xcat_n, xcat_i, xcat_r, xcat_z, List.length_nil, List.length_cons, List.getD_cons_zero, List.getD_cons_succ, List.set_cons_zero, List.set_cons_succ, Nat.zero_le, Nat.reduceAdd, Nat.reduceLeDiff, Nat.reduceEqDiff, reduceIte]
  rfl
theorem P_mixTotals {P : pP} (q : isP h x P) (a : Int64) : ∃ h', xev 93 [.ref x, .long a] h = some (.inl (some (.long (mxF a (tot1 P 0 9 ++ tot2 P.1)))), h') ∧ isP h' x P ∧ xFr x (x + 139) h h' := by
  refine ⟨h, ?_, q, xFr.rf⟩
  rw [e_X7_mixTotals]
  simp only [u_X7_mixTotals_0, u_X7_mixTotals_1, u_X7_mixTotals_2, u_X7_mixTotals_3, xgo_some, xgo_none, xgoI_none, xcat_n, xcat_i, xcat_r, xcat_z, List.length_nil, List.length_cons, List.getD_cons_zero, List.getD_cons_succ, List.set_cons_zero, List.set_cons_succ, Nat.zero_le, Nat.reduceAdd, Nat.reduceLeDiff, Nat.reduceEqDiff, reduceIte]
  rw [show (0 : Int32) = nI 0 from rfl, lp_tot1 q a 8 0 a (by omega), lp_tot2 q, tot1_9, mxF_app, mxF_app]
  rfl
def i64 (L : List Int32) : List Int64 := L.map (·.toInt64)
theorem lp_mp1 {P : pP} (q : isP h x P) (a : Int64) : ∀ (k i : Nat) (b : Int64) (l6 : Option Value), i + k = P.1.1.length → xf 94 5 [some (.ref x), some (.long a), none, some (.long b), none, some (.int (nI i)), l6] [] h = xf 94 44 [some (.ref x), some (.long a), none, some (.long (mxF b (i64 (P.1.1.drop i)))), none, some (.int (nI P.1.1.length)), l6] [] h := by
  have hL := q.2.1.len
  intro k
  induction k with
  | zero =>
    intro i b l6 hk
    have h2 : ¬ nI i < nI P.1.1.length := nI_nlt (by omega) (by omega)
    rw [u_X7_mixParts_5]
    simp only [u_X7_mixParts_7, u_X7_mixParts_8, u_X7_mixParts_11, u_X7_mixParts_14, u_X7_mixParts_17, h2, q.ob, q.2.1.ob, q.2.1.rw, if_false, xgo_some, xgo_none, xgoI_none, xcat_n, xcat_i, xcat_r, xcat_z, List.length_nil, List.length_cons, List.getD_cons_zero, List.getD_cons_succ, List.set_cons_zero, List.set_cons_succ, Nat.zero_le, Nat.reduceAdd, Nat.reduceLeDiff, Nat.reduceEqDiff, reduceIte]
    rw [List.drop_of_length_le (by omega), show i = P.1.1.length by omega]
    rfl
  | succ k ih =>
    intro i b l6 hk
    have h2 : nI i < nI P.1.1.length := nI_lt (by omega) (by omega)
    have pa := c_at q.2.1 (nI i)
    rw [clAt_nI (show i < P.1.1.length by omega) (by omega)] at pa
    rw [u_X7_mixParts_5]
    simp only [u_X7_mixParts_0, u_X7_mixParts_1, u_X7_mixParts_2, u_X7_mixParts_3, u_X7_mixParts_7, u_X7_mixParts_8, u_X7_mixParts_11, u_X7_mixParts_14, u_X7_mixParts_17, u_X7_mixParts_20, u_X7_mixParts_21, u_X7_mixParts_22, u_X7_mixParts_25, u_X7_mixParts_28, u_X7_mixParts_30, u_X7_mixParts_33, u_X7_mixParts_34, u_X7_mixParts_37, u_X7_mixParts_38, u_X7_mixParts_41, u_X7_mixParts_45, u_X7_mixParts_47, u_X7_mixParts_49, u_X7_mixParts_51, u_X7_mixParts_54, u_X7_mixParts_55, u_X7_mixParts_56, u_X7_mixParts_59, u_X7_mixParts_61, u_X7_mixParts_64, u_X7_mixParts_65, u_X7_mixParts_68, u_X7_mixParts_69, u_X7_mixParts_70, u_X7_mixParts_71, u_X7_mixParts_74, u_X7_mixParts_76, u_X7_mixParts_77, u_X7_mixParts_80, u_X7_mixParts_81, u_X7_mixParts_84, u_X7_mixParts_85, u_X7_mixParts_86, u_X7_mixParts_87, u_X7_mixParts_90, u_X7_mixParts_92, u_X7_mixParts_93, u_X7_mixParts_96, u_X7_mixParts_97, u_X7_mixParts_100, u_X7_mixParts_101, u_X7_mixParts_104, u_X7_mixParts_107, u_X7_mixParts_109, u_X7_mixParts_111, u_X7_mixParts_113, u_X7_mixParts_115, u_X7_mixParts_118, u_X7_mixParts_119, u_X7_mixParts_122, u_X7_mixParts_125, u_X7_mixParts_127, u_X7_mixParts_130, u_X7_mixParts_133, u_X7_mixParts_134, u_X7_mixParts_136, u_X7_mixParts_137, u_X7_mixParts_140, u_X7_mixParts_141, u_X7_mixParts_142, u_X7_mixParts_144, u_X7_mixParts_146, u_X7_mixParts_148, u_X7_mixParts_151, u_X7_mixParts_152, u_X7_mixParts_153, u_X7_mixParts_156, u_X7_mixParts_158, u_X7_mixParts_160, u_X7_mixParts_163, u_X7_mixParts_164, u_X7_mixParts_167, u_X7_mixParts_168, u_X7_mixParts_171, u_X7_mixParts_174, u_X7_mixParts_177, u_X7_mixParts_180, u_X7_mixParts_181, h2, q.ob, q.2.1.ob, q.2.1.rw, pa, m_mix, nI_of1, if_true, xgo_some, xgo_none, xgoI_none, xcat_n, xcat_i, xcat_r, xcat_z, List.length_nil, List.length_cons, List.getD_cons_zero, List.getD_cons_succ, List.set_cons_zero, List.set_cons_succ, Nat.zero_le, Nat.reduceAdd, Nat.reduceLeDiff, Nat.reduceEqDiff, reduceIte]
    rw [ih (i + 1) _ _ (by omega), List.drop_eq_getElem_cons (show i < P.1.1.length by omega)]
    have eg : gd P.1.1 i = P.1.1[i]'(by omega) := by
      unfold gd
      rw [List.getD_eq_getElem?_getD, List.getElem?_eq_getElem (by omega)]
      rfl
    rw [eg]
    rfl
def sg3 (X : xS) : Nat → Nat → List Int64
  | _, 0 => []
  | s, k + 1 => (tmF (ti0 X.2.1 s) X.1).toInt64 :: (prX X (nI s) 2).toInt64 :: (prX X (nI s) 3).toInt64 :: sg3 X (s + 1) k
theorem lp_mp2 {P : pP} (a : Int64) : ∀ (k s : Nat) (h : xH) (b : Int64) (l6 : Option Value), s + k = 8 → isP h x P →
    ∃ h', xf 94 47 [some (.ref x), some (.long a), none, some (.long b), none, some (.int (nI s)), l6] [] h = xf 94 107 [some (.ref x), some (.long a), none, some (.long (mxF b (sg3 P.1 s k))), none, some (.int (nI 8)), l6] [] h' ∧ isP h' x P ∧ xFr x (x + 139) h h' := by
  intro k
  induction k with
  | zero =>
    intro s h b l6 hk q
    have h2 : ¬ nI s < 8 := nI_nlt (b := 8) (by omega) (by omega)
    have hw : s = 8 := by omega
    subst hw
    refine ⟨h, ?_, q, xFr.rf⟩
    rw [u_X7_mixParts_47]
    simp only [u_X7_mixParts_49, u_X7_mixParts_51, h2, if_false, sg3, mxF, xgo_some, xgo_none, xgoI_none, xcat_n, xcat_i, xcat_r, xcat_z, List.length_nil, List.length_cons, List.getD_cons_zero, List.getD_cons_succ, List.set_cons_zero, List.set_cons_succ, Nat.zero_le, Nat.reduceAdd, Nat.reduceLeDiff, Nat.reduceEqDiff, reduceIte]
  | succ k ih =>
    intro s h b l6 hk q
    have h2 : nI s < 8 := nI_lt (b := 8) (by omega) (by omega)
    obtain ⟨X, Hs, C⟩ := P
    obtain ⟨h1, a1, a2, a3⟩ := c_times (s := s) q.2.1 (by omega)
    have r1 := P_st q a2 (by exact xFr.wd a3 (by omega) (by omega))
    have p2 := c_prop r1.2.1 (nI s) 2
    have p3 := c_prop r1.2.1 (nI s) 3
    simp only at p2 p3
    obtain ⟨h', b1, b2, b3⟩ := ih (s + 1) h1 (31 * (31 * (31 * b + (tmF (ti0 X.2.1 s) X.1).toInt64) + (prX X (nI s) 2).toInt64) + (prX X (nI s) 3).toInt64) l6 (by omega) r1
    refine ⟨h', ?_, b2, (xFr.wd a3 (by omega) (by omega)).tr b3⟩
    rw [u_X7_mixParts_47]
    simp only [u_X7_mixParts_0, u_X7_mixParts_1, u_X7_mixParts_2, u_X7_mixParts_3, u_X7_mixParts_5, u_X7_mixParts_7, u_X7_mixParts_8, u_X7_mixParts_11, u_X7_mixParts_14, u_X7_mixParts_17, u_X7_mixParts_20, u_X7_mixParts_21, u_X7_mixParts_22, u_X7_mixParts_25, u_X7_mixParts_28, u_X7_mixParts_30, u_X7_mixParts_33, u_X7_mixParts_34, u_X7_mixParts_37, u_X7_mixParts_38, u_X7_mixParts_41, u_X7_mixParts_44, u_X7_mixParts_45, u_X7_mixParts_49, u_X7_mixParts_51, u_X7_mixParts_54, u_X7_mixParts_55, u_X7_mixParts_56, u_X7_mixParts_59, u_X7_mixParts_61, u_X7_mixParts_64, u_X7_mixParts_65, u_X7_mixParts_68, u_X7_mixParts_69, u_X7_mixParts_70, u_X7_mixParts_71, u_X7_mixParts_74, u_X7_mixParts_76, u_X7_mixParts_77, u_X7_mixParts_80, u_X7_mixParts_81, u_X7_mixParts_84, u_X7_mixParts_85, u_X7_mixParts_86, u_X7_mixParts_87, u_X7_mixParts_90, u_X7_mixParts_92, u_X7_mixParts_93, u_X7_mixParts_96, u_X7_mixParts_97, u_X7_mixParts_100, u_X7_mixParts_101, u_X7_mixParts_104, u_X7_mixParts_109, u_X7_mixParts_111, u_X7_mixParts_113, u_X7_mixParts_115, u_X7_mixParts_118, u_X7_mixParts_119, u_X7_mixParts_122, u_X7_mixParts_125, u_X7_mixParts_127, u_X7_mixParts_130, u_X7_mixParts_133, u_X7_mixParts_134, u_X7_mixParts_136, u_X7_mixParts_137, u_X7_mixParts_140, u_X7_mixParts_141, u_X7_mixParts_142, u_X7_mixParts_144, u_X7_mixParts_146, u_X7_mixParts_148, u_X7_mixParts_151, u_X7_mixParts_152, u_X7_mixParts_153, u_X7_mixParts_156, u_X7_mixParts_158, u_X7_mixParts_160, u_X7_mixParts_163, u_X7_mixParts_164, u_X7_mixParts_167, u_X7_mixParts_168, u_X7_mixParts_171, u_X7_mixParts_174, u_X7_mixParts_177, u_X7_mixParts_180, u_X7_mixParts_181, h2, q.ob, q.2.1.ob, a1, r1.ob, r1.2.1.ob, p2, p3, m_mix, nI_of1, if_true, xgo_some, xgo_none, xgoI_none, xcat_n, xcat_i, xcat_r, xcat_z, List.length_nil, List.length_cons, List.getD_cons_zero, List.getD_cons_succ, List.set_cons_zero, List.set_cons_succ, Nat.zero_le, Nat.reduceAdd, Nat.reduceLeDiff, Nat.reduceEqDiff, reduceIte]
    rw [b1, sg3, mxF, mxF, mxF]
def pr8 (X : xS) (p : Int32) : Nat → Nat → List Int64
  | _, 0 => []
  | w, k + 1 => (prX X p (nI w)).toInt64 :: pr8 X p (w + 1) k
theorem lp_mp4 {P : pP} (q : isP h x P) (a : Int64) (m : Nat) : ∀ (k w : Nat) (b : Int64), w + k = 8 → xf 94 144 [some (.ref x), some (.long a), none, some (.long b), none, some (.int (nI m)), some (.int (nI w))] [] h = xf 94 174 [some (.ref x), some (.long a), none, some (.long (mxF b (pr8 P.1 (nI m) w k))), none, some (.int (nI m)), some (.int (nI 8))] [] h := by
  intro k
  induction k with
  | zero =>
    intro w b hk
    have h2 : (7 : Int32) < nI w := nI_lt (a := 7) (by omega) (by omega)
    have hw : w = 8 := by omega
    subst hw
    rw [u_X7_mixParts_144]
    simp only [u_X7_mixParts_146, u_X7_mixParts_148, h2, if_true, pr8, mxF, xgo_some, xgo_none, xgoI_none, xcat_n, xcat_i, xcat_r, xcat_z, List.length_nil, List.length_cons, List.getD_cons_zero, List.getD_cons_succ, List.set_cons_zero, List.set_cons_succ, Nat.zero_le, Nat.reduceAdd, Nat.reduceLeDiff, Nat.reduceEqDiff, reduceIte]
  | succ k ih =>
    intro w b hk
    have h2 : ¬ (7 : Int32) < nI w := nI_nlt (a := 7) (by omega) (by omega)
    have p2 := c_prop q.2.1 (nI m) (nI w)
    rw [u_X7_mixParts_144]
    simp only [u_X7_mixParts_0, u_X7_mixParts_1, u_X7_mixParts_2, u_X7_mixParts_3, u_X7_mixParts_5, u_X7_mixParts_7, u_X7_mixParts_8, u_X7_mixParts_11, u_X7_mixParts_14, u_X7_mixParts_17, u_X7_mixParts_20, u_X7_mixParts_21, u_X7_mixParts_22, u_X7_mixParts_25, u_X7_mixParts_28, u_X7_mixParts_30, u_X7_mixParts_33, u_X7_mixParts_34, u_X7_mixParts_37, u_X7_mixParts_38, u_X7_mixParts_41, u_X7_mixParts_44, u_X7_mixParts_45, u_X7_mixParts_47, u_X7_mixParts_49, u_X7_mixParts_51, u_X7_mixParts_54, u_X7_mixParts_55, u_X7_mixParts_56, u_X7_mixParts_59, u_X7_mixParts_61, u_X7_mixParts_64, u_X7_mixParts_65, u_X7_mixParts_68, u_X7_mixParts_69, u_X7_mixParts_70, u_X7_mixParts_71, u_X7_mixParts_74, u_X7_mixParts_76, u_X7_mixParts_77, u_X7_mixParts_80, u_X7_mixParts_81, u_X7_mixParts_84, u_X7_mixParts_85, u_X7_mixParts_86, u_X7_mixParts_87, u_X7_mixParts_90, u_X7_mixParts_92, u_X7_mixParts_93, u_X7_mixParts_96, u_X7_mixParts_97, u_X7_mixParts_100, u_X7_mixParts_101, u_X7_mixParts_104, u_X7_mixParts_107, u_X7_mixParts_109, u_X7_mixParts_111, u_X7_mixParts_113, u_X7_mixParts_115, u_X7_mixParts_118, u_X7_mixParts_119, u_X7_mixParts_122, u_X7_mixParts_125, u_X7_mixParts_127, u_X7_mixParts_130, u_X7_mixParts_133, u_X7_mixParts_134, u_X7_mixParts_136, u_X7_mixParts_137, u_X7_mixParts_140, u_X7_mixParts_141, u_X7_mixParts_142, u_X7_mixParts_146, u_X7_mixParts_148, u_X7_mixParts_151, u_X7_mixParts_152, u_X7_mixParts_153, u_X7_mixParts_156, u_X7_mixParts_158, u_X7_mixParts_160, u_X7_mixParts_163, u_X7_mixParts_164, u_X7_mixParts_167, u_X7_mixParts_168, u_X7_mixParts_171, u_X7_mixParts_177, u_X7_mixParts_180, u_X7_mixParts_181, h2, q.ob, q.2.1.ob, p2, m_mix, nI_of1, if_false, xgo_some, xgo_none, xgoI_none, xcat_n, xcat_i, xcat_r, xcat_z, List.length_nil, List.length_cons, List.getD_cons_zero, List.getD_cons_succ, List.set_cons_zero, List.set_cons_succ, Nat.zero_le, Nat.reduceAdd, Nat.reduceLeDiff, Nat.reduceEqDiff, reduceIte]
    rw [ih (w + 1) _ (by omega), pr8, mxF]
def nm9 (X : xS) : Nat → Nat → List Int64
  | _, 0 => []
  | m, k + 1 => (if hasP X.2.1.1 (nI m) = true then (nI m).toInt64 :: pr8 X (nI m) 0 8 else []) ++ nm9 X (m + 1) k
theorem lp_mp3 {P : pP} (q : isP h x P) (a : Int64) : ∀ (k m : Nat) (b : Int64) (l6 : Option Value), m + k = 24 → xf 94 111 [some (.ref x), some (.long a), none, some (.long b), none, some (.int (nI m)), l6] [] h = some (.inl (some (.long (mxF b (nm9 P.1 m k)))), h) := by
  intro k
  induction k with
  | zero =>
    intro m b l6 hk
    have h2 : ¬ nI m < 24 := nI_nlt (b := 24) (by omega) (by omega)
    rw [u_X7_mixParts_111]
    simp only [u_X7_mixParts_0, u_X7_mixParts_1, u_X7_mixParts_2, u_X7_mixParts_3, u_X7_mixParts_5, u_X7_mixParts_7, u_X7_mixParts_8, u_X7_mixParts_11, u_X7_mixParts_14, u_X7_mixParts_17, u_X7_mixParts_20, u_X7_mixParts_21, u_X7_mixParts_22, u_X7_mixParts_25, u_X7_mixParts_28, u_X7_mixParts_30, u_X7_mixParts_33, u_X7_mixParts_34, u_X7_mixParts_37, u_X7_mixParts_38, u_X7_mixParts_41, u_X7_mixParts_44, u_X7_mixParts_45, u_X7_mixParts_47, u_X7_mixParts_49, u_X7_mixParts_51, u_X7_mixParts_54, u_X7_mixParts_55, u_X7_mixParts_56, u_X7_mixParts_59, u_X7_mixParts_61, u_X7_mixParts_64, u_X7_mixParts_65, u_X7_mixParts_68, u_X7_mixParts_69, u_X7_mixParts_70, u_X7_mixParts_71, u_X7_mixParts_74, u_X7_mixParts_76, u_X7_mixParts_77, u_X7_mixParts_80, u_X7_mixParts_81, u_X7_mixParts_84, u_X7_mixParts_85, u_X7_mixParts_86, u_X7_mixParts_87, u_X7_mixParts_90, u_X7_mixParts_92, u_X7_mixParts_93, u_X7_mixParts_96, u_X7_mixParts_97, u_X7_mixParts_100, u_X7_mixParts_101, u_X7_mixParts_104, u_X7_mixParts_107, u_X7_mixParts_109, u_X7_mixParts_113, u_X7_mixParts_115, u_X7_mixParts_118, u_X7_mixParts_119, u_X7_mixParts_122, u_X7_mixParts_125, u_X7_mixParts_127, u_X7_mixParts_130, u_X7_mixParts_133, u_X7_mixParts_134, u_X7_mixParts_136, u_X7_mixParts_137, u_X7_mixParts_140, u_X7_mixParts_141, u_X7_mixParts_142, u_X7_mixParts_144, u_X7_mixParts_146, u_X7_mixParts_148, u_X7_mixParts_151, u_X7_mixParts_152, u_X7_mixParts_153, u_X7_mixParts_156, u_X7_mixParts_158, u_X7_mixParts_160, u_X7_mixParts_163, u_X7_mixParts_164, u_X7_mixParts_167, u_X7_mixParts_168, u_X7_mixParts_171, u_X7_mixParts_174, u_X7_mixParts_177, u_X7_mixParts_180, u_X7_mixParts_181, h2, if_false, nm9, mxF, xgo_some, xgo_none, xgoI_none, xcat_n, xcat_i, xcat_r, xcat_z, List.length_nil, List.length_cons, List.getD_cons_zero, List.getD_cons_succ, List.set_cons_zero, List.set_cons_succ, Nat.zero_le, Nat.reduceAdd, Nat.reduceLeDiff, Nat.reduceEqDiff, reduceIte]
  | succ k ih =>
    intro m b l6 hk
    have h2 : nI m < 24 := nI_lt (b := 24) (by omega) (by omega)
    have p1 := c_has q.2.1 (nI m)
    rw [u_X7_mixParts_111, nm9]
    cases e1 : hasP P.1.2.1.1 (nI m) with
    | false =>
      rw [e1] at p1
      simp only [u_X7_mixParts_0, u_X7_mixParts_1, u_X7_mixParts_2, u_X7_mixParts_3, u_X7_mixParts_5, u_X7_mixParts_7, u_X7_mixParts_8, u_X7_mixParts_11, u_X7_mixParts_14, u_X7_mixParts_17, u_X7_mixParts_20, u_X7_mixParts_21, u_X7_mixParts_22, u_X7_mixParts_25, u_X7_mixParts_28, u_X7_mixParts_30, u_X7_mixParts_33, u_X7_mixParts_34, u_X7_mixParts_37, u_X7_mixParts_38, u_X7_mixParts_41, u_X7_mixParts_44, u_X7_mixParts_45, u_X7_mixParts_47, u_X7_mixParts_49, u_X7_mixParts_51, u_X7_mixParts_54, u_X7_mixParts_55, u_X7_mixParts_56, u_X7_mixParts_59, u_X7_mixParts_61, u_X7_mixParts_64, u_X7_mixParts_65, u_X7_mixParts_68, u_X7_mixParts_69, u_X7_mixParts_70, u_X7_mixParts_71, u_X7_mixParts_74, u_X7_mixParts_76, u_X7_mixParts_77, u_X7_mixParts_80, u_X7_mixParts_81, u_X7_mixParts_84, u_X7_mixParts_85, u_X7_mixParts_86, u_X7_mixParts_87, u_X7_mixParts_90, u_X7_mixParts_92, u_X7_mixParts_93, u_X7_mixParts_96, u_X7_mixParts_97, u_X7_mixParts_100, u_X7_mixParts_101, u_X7_mixParts_104, u_X7_mixParts_107, u_X7_mixParts_109, u_X7_mixParts_113, u_X7_mixParts_115, u_X7_mixParts_118, u_X7_mixParts_119, u_X7_mixParts_122, u_X7_mixParts_125, u_X7_mixParts_127, u_X7_mixParts_130, u_X7_mixParts_133, u_X7_mixParts_134, u_X7_mixParts_136, u_X7_mixParts_137, u_X7_mixParts_140, u_X7_mixParts_141, u_X7_mixParts_142, u_X7_mixParts_146, u_X7_mixParts_148, u_X7_mixParts_151, u_X7_mixParts_152, u_X7_mixParts_153, u_X7_mixParts_156, u_X7_mixParts_158, u_X7_mixParts_160, u_X7_mixParts_163, u_X7_mixParts_164, u_X7_mixParts_167, u_X7_mixParts_168, u_X7_mixParts_171, u_X7_mixParts_174, u_X7_mixParts_177, u_X7_mixParts_180, u_X7_mixParts_181, h2, q.ob, q.2.1.ob, q.2.1.nm, p1, b32_f, nI_of1, if_true, xgo_some, xgo_none, xgoI_none, xcat_n, xcat_i, xcat_r, xcat_z, List.length_nil, List.length_cons, List.getD_cons_zero, List.getD_cons_succ, List.set_cons_zero, List.set_cons_succ, Nat.zero_le, Nat.reduceAdd, Nat.reduceLeDiff, Nat.reduceEqDiff, reduceIte]
      rw [ih (m + 1) _ _ (by omega)]
      rfl
    | true =>
      rw [e1] at p1
      simp only [u_X7_mixParts_0, u_X7_mixParts_1, u_X7_mixParts_2, u_X7_mixParts_3, u_X7_mixParts_5, u_X7_mixParts_7, u_X7_mixParts_8, u_X7_mixParts_11, u_X7_mixParts_14, u_X7_mixParts_17, u_X7_mixParts_20, u_X7_mixParts_21, u_X7_mixParts_22, u_X7_mixParts_25, u_X7_mixParts_28, u_X7_mixParts_30, u_X7_mixParts_33, u_X7_mixParts_34, u_X7_mixParts_37, u_X7_mixParts_38, u_X7_mixParts_41, u_X7_mixParts_44, u_X7_mixParts_45, u_X7_mixParts_47, u_X7_mixParts_49, u_X7_mixParts_51, u_X7_mixParts_54, u_X7_mixParts_55, u_X7_mixParts_56, u_X7_mixParts_59, u_X7_mixParts_61, u_X7_mixParts_64, u_X7_mixParts_65, u_X7_mixParts_68, u_X7_mixParts_69, u_X7_mixParts_70, u_X7_mixParts_71, u_X7_mixParts_74, u_X7_mixParts_76, u_X7_mixParts_77, u_X7_mixParts_80, u_X7_mixParts_81, u_X7_mixParts_84, u_X7_mixParts_85, u_X7_mixParts_86, u_X7_mixParts_87, u_X7_mixParts_90, u_X7_mixParts_92, u_X7_mixParts_93, u_X7_mixParts_96, u_X7_mixParts_97, u_X7_mixParts_100, u_X7_mixParts_101, u_X7_mixParts_104, u_X7_mixParts_107, u_X7_mixParts_109, u_X7_mixParts_113, u_X7_mixParts_115, u_X7_mixParts_118, u_X7_mixParts_119, u_X7_mixParts_122, u_X7_mixParts_125, u_X7_mixParts_127, u_X7_mixParts_130, u_X7_mixParts_133, u_X7_mixParts_134, u_X7_mixParts_136, u_X7_mixParts_137, u_X7_mixParts_140, u_X7_mixParts_141, u_X7_mixParts_142, u_X7_mixParts_146, u_X7_mixParts_148, u_X7_mixParts_151, u_X7_mixParts_152, u_X7_mixParts_153, u_X7_mixParts_156, u_X7_mixParts_158, u_X7_mixParts_160, u_X7_mixParts_163, u_X7_mixParts_164, u_X7_mixParts_167, u_X7_mixParts_168, u_X7_mixParts_171, u_X7_mixParts_177, u_X7_mixParts_180, u_X7_mixParts_181, h2, q.ob, q.2.1.ob, q.2.1.nm, p1, b32_t, i10, m_mix, if_true, if_false, xgo_some, xgo_none, xgoI_none, xcat_n, xcat_i, xcat_r, xcat_z, List.length_nil, List.length_cons, List.getD_cons_zero, List.getD_cons_succ, List.set_cons_zero, List.set_cons_succ, Nat.zero_le, Nat.reduceAdd, Nat.reduceLeDiff, Nat.reduceEqDiff, reduceIte]
      rw [show (0 : Int32) = nI 0 from rfl, lp_mp4 q a m 8 0 _ (by omega), u_X7_mixParts_174]
      simp only [u_X7_mixParts_177, nI_of1, xgo_some, xgo_none, xgoI_none, xcat_n, xcat_i, xcat_r, xcat_z, List.length_nil, List.length_cons, List.getD_cons_zero, List.getD_cons_succ, List.set_cons_zero, List.set_cons_succ, Nat.zero_le, Nat.reduceAdd, Nat.reduceLeDiff, Nat.reduceEqDiff, reduceIte]
      rw [ih (m + 1) _ _ (by omega), List.cons_append, mxF, mxF_app]
theorem P_mixParts {P : pP} (q : isP h x P) (a : Int64) : ∃ h', xev 94 [.ref x, .long a] h = some (.inl (some (.long (mxF a (i64 P.1.1 ++ (sg3 P.1 0 8 ++ nm9 P.1 8 16))))), h') ∧ isP h' x P ∧ xFr x (x + 139) h h' := by
  obtain ⟨h', b1, b2, b3⟩ := lp_mp2 a 8 0 h (mxF a (i64 P.1.1)) none (by omega) q
  refine ⟨h', ?_, b2, b3⟩
  rw [e_X7_mixParts]
  simp only [u_X7_mixParts_0, u_X7_mixParts_1, u_X7_mixParts_2, u_X7_mixParts_3, xgo_some, xgo_none, xgoI_none, xcat_n, xcat_i, xcat_r, xcat_z, List.length_nil, List.length_cons, List.getD_cons_zero, List.getD_cons_succ, List.set_cons_zero, List.set_cons_succ, Nat.zero_le, Nat.reduceAdd, Nat.reduceLeDiff, Nat.reduceEqDiff, reduceIte]
  have e1 := lp_mp1 q a P.1.1.length 0 a none (by omega)
  rw [List.drop_zero] at e1
  rw [show (0 : Int32) = nI 0 from rfl, e1, u_X7_mixParts_44]
  simp only [u_X7_mixParts_45, xgo_some, xgo_none, xgoI_none, xcat_n, xcat_i, xcat_r, xcat_z, List.length_nil, List.length_cons, List.getD_cons_zero, List.getD_cons_succ, List.set_cons_zero, List.set_cons_succ, Nat.zero_le, Nat.reduceAdd, Nat.reduceLeDiff, Nat.reduceEqDiff, reduceIte]
  rw [show (0 : Int32) = nI 0 from rfl, b1, u_X7_mixParts_107]
  simp only [u_X7_mixParts_109, xgo_some, xgo_none, xgoI_none, xcat_n, xcat_i, xcat_r, xcat_z, List.length_nil, List.length_cons, List.getD_cons_zero, List.getD_cons_succ, List.set_cons_zero, List.set_cons_succ, Nat.zero_le, Nat.reduceAdd, Nat.reduceLeDiff, Nat.reduceEqDiff, reduceIte]
  rw [show (8 : Int32) = nI 8 from rfl, lp_mp3 b2 a 16 8 _ _ (by omega), mxF_app, mxF_app]
theorem c_bat {b : Nat} {C : List Int32} (q : isB h b C) (i : Int32) : xev 1 [.ref b, .int i] h = some (.inl (some (.int (bfAt C.length (gd C) i))), h) := by
  obtain ⟨f, q, e⟩ := q
  have eb := bf_gd q
  rw [e] at eb
  rw [m_Buf_at q, eb]
theorem lp_mb {P : pP} (q : isP h x P) (a : Int64) : ∀ (k i : Nat) (b : Int64), i + k = P.2.2.length → xf 95 16 [some (.ref x), some (.long a), none, some (.long b), none, some (.int (nI i))] [] h = some (.inl (some (.long (mxF b (i64 (P.2.2.drop i))))), h) := by
  have hL : P.2.2.length ≤ 60 := by
    obtain ⟨f, b, _⟩ := q.2.2.2.1
    exact b.2.2
  intro k
  induction k with
  | zero =>
    intro i b hk
    have h2 : ¬ nI i < nI P.2.2.length := nI_nlt (by omega) (by omega)
    rw [u_X7_mixBuffer_16]
    simp only [u_X7_mixBuffer_0, u_X7_mixBuffer_1, u_X7_mixBuffer_2, u_X7_mixBuffer_5, u_X7_mixBuffer_8, u_X7_mixBuffer_9, u_X7_mixBuffer_12, u_X7_mixBuffer_13, u_X7_mixBuffer_14, u_X7_mixBuffer_18, u_X7_mixBuffer_19, u_X7_mixBuffer_22, u_X7_mixBuffer_25, u_X7_mixBuffer_28, u_X7_mixBuffer_29, u_X7_mixBuffer_30, u_X7_mixBuffer_33, u_X7_mixBuffer_35, u_X7_mixBuffer_38, u_X7_mixBuffer_39, u_X7_mixBuffer_42, u_X7_mixBuffer_43, u_X7_mixBuffer_46, u_X7_mixBuffer_49, u_X7_mixBuffer_50, h2, q.ob, q.2.2.2.1.ob, if_false, xgo_some, xgo_none, xgoI_none, xcat_n, xcat_i, xcat_r, xcat_z, List.length_nil, List.length_cons, List.getD_cons_zero, List.getD_cons_succ, List.set_cons_zero, List.set_cons_succ, Nat.zero_le, Nat.reduceAdd, Nat.reduceLeDiff, Nat.reduceEqDiff, reduceIte]
    rw [List.drop_of_length_le (by omega)]
    rfl
  | succ k ih =>
    intro i b hk
    have h2 : nI i < nI P.2.2.length := nI_lt (by omega) (by omega)
    have pa := c_bat q.2.2.2.1 (nI i)
    rw [bfAt, if_pos h2, clAt_nI (show i < 60 by omega) (by omega)] at pa
    rw [u_X7_mixBuffer_16]
    simp only [u_X7_mixBuffer_0, u_X7_mixBuffer_1, u_X7_mixBuffer_2, u_X7_mixBuffer_5, u_X7_mixBuffer_8, u_X7_mixBuffer_9, u_X7_mixBuffer_12, u_X7_mixBuffer_13, u_X7_mixBuffer_14, u_X7_mixBuffer_18, u_X7_mixBuffer_19, u_X7_mixBuffer_22, u_X7_mixBuffer_25, u_X7_mixBuffer_28, u_X7_mixBuffer_29, u_X7_mixBuffer_30, u_X7_mixBuffer_33, u_X7_mixBuffer_35, u_X7_mixBuffer_38, u_X7_mixBuffer_39, u_X7_mixBuffer_42, u_X7_mixBuffer_43, u_X7_mixBuffer_46, u_X7_mixBuffer_49, u_X7_mixBuffer_50, h2, q.ob, q.2.2.2.1.ob, pa, m_mix, nI_of1, if_true, xgo_some, xgo_none, xgoI_none, xcat_n, xcat_i, xcat_r, xcat_z, List.length_nil, List.length_cons, List.getD_cons_zero, List.getD_cons_succ, List.set_cons_zero, List.set_cons_succ, Nat.zero_le, Nat.reduceAdd, Nat.reduceLeDiff, Nat.reduceEqDiff, reduceIte]
    rw [ih (i + 1) _ (by omega), List.drop_eq_getElem_cons (show i < P.2.2.length by omega)]
    have eg : gd P.2.2 i = P.2.2[i]'(by omega) := by
      unfold gd
      rw [List.getD_eq_getElem?_getD, List.getElem?_eq_getElem (by omega)]
      rfl
    rw [eg]
    rfl
theorem P_mixBuffer {P : pP} (q : isP h x P) (a : Int64) : xev 95 [.ref x, .long a] h = some (.inl (some (.long (mxF a ((nI P.2.2.length).toInt64 :: i64 P.2.2)))), h) := by
  rw [e_X7_mixBuffer]
  simp only [u_X7_mixBuffer_0, u_X7_mixBuffer_1, u_X7_mixBuffer_2, u_X7_mixBuffer_5, u_X7_mixBuffer_8, u_X7_mixBuffer_9, u_X7_mixBuffer_12, u_X7_mixBuffer_13, u_X7_mixBuffer_14, u_X7_mixBuffer_18, u_X7_mixBuffer_19, u_X7_mixBuffer_22, u_X7_mixBuffer_25, u_X7_mixBuffer_28, u_X7_mixBuffer_29, u_X7_mixBuffer_30, u_X7_mixBuffer_33, u_X7_mixBuffer_35, u_X7_mixBuffer_38, u_X7_mixBuffer_39, u_X7_mixBuffer_42, u_X7_mixBuffer_43, u_X7_mixBuffer_46, u_X7_mixBuffer_49, u_X7_mixBuffer_50, q.ob, q.2.2.2.1.ob, m_mix, xgo_some, xgo_none, xgoI_none, xcat_n, xcat_i, xcat_r, xcat_z, List.length_nil, List.length_cons, List.getD_cons_zero, List.getD_cons_succ, List.set_cons_zero, List.set_cons_succ, Nat.zero_le, Nat.reduceAdd, Nat.reduceLeDiff, Nat.reduceEqDiff, reduceIte]
  rw [show (0 : Int32) = nI 0 from rfl, lp_mb q a P.2.2.length 0 _ (by omega), List.drop_zero, mxF]
end PV
