/-! The class: saved, digest. -/
section PW
variable {h : xH} {x : Nat}
def szI (X : xS) : Int32 := nI (X.1.length + 2 * namN X.2.1.1 8 16)
def shD (s t : Int32) : UInt64 := FP.dsub FP.dconst1 (FP.ddiv (FP.i2d s) (FP.i2d t))
def okD (s t : Int32) : Prop := xnn (FP.ddiv (FP.i2d s) (FP.i2d t)) = true ∧ xnn (FP.dsub FP.dconst1 (FP.ddiv (FP.i2d s) (FP.i2d t))) = true
def svX (X : xS) : UInt64 := if 0 < txF X.2.1.2.2.2 X.1 then shD (szI X) (txF X.2.1.2.2.2 X.1) else FP.dconst0
theorem P_saved {P : pP} (q : isP h x P) (hD : 0 < txF P.1.2.1.2.2.2 P.1.1 → okD (szI P.1) (txF P.1.2.1.2.2.2 P.1.1)) : xev 86 [.ref x] h = some (.inl (some (.double (svX P.1))), h) := by
  have p1 := c_txt q.2.1
  have p2 := c_size q.2.1
  rw [e_X7_saved]
  unfold svX
  by_cases h1 : 0 < txF P.1.2.1.2.2.2 P.1.1
  · rw [if_pos h1]
    obtain ⟨d1, d2⟩ := hD h1
    unfold szI at d1 d2
    simp only [u_X7_saved_0, u_X7_saved_1, u_X7_saved_4, u_X7_saved_7, u_X7_saved_8, u_X7_saved_9, u_X7_saved_12, u_X7_saved_13, u_X7_saved_14, u_X7_saved_15, u_X7_saved_16, u_X7_saved_19, u_X7_saved_22, u_X7_saved_23, u_X7_saved_24, u_X7_saved_25, u_X7_saved_26, u_X7_saved_27, q.ob, q.2.1.ob, p1, p2, h1, d1, d2, if_true, xgo_some, xgo_none, xgoI_none, xcat_n, xcat_i, xcat_r, xcat_z, List.length_nil, List.length_cons, List.getD_cons_zero, List.getD_cons_succ, List.set_cons_zero, List.set_cons_succ, Nat.zero_le, Nat.reduceAdd, Nat.reduceLeDiff, Nat.reduceEqDiff, reduceIte]
    rfl
  · rw [if_neg h1]
    simp only [u_X7_saved_0, u_X7_saved_1, u_X7_saved_4, u_X7_saved_7, u_X7_saved_8, u_X7_saved_9, u_X7_saved_12, u_X7_saved_13, u_X7_saved_14, u_X7_saved_15, u_X7_saved_16, u_X7_saved_19, u_X7_saved_22, u_X7_saved_23, u_X7_saved_24, u_X7_saved_25, u_X7_saved_26, u_X7_saved_27, q.ob, q.2.1.ob, p1, h1, if_false, xgo_some, xgo_none, xgoI_none, xcat_n, xcat_i, xcat_r, xcat_z, List.length_nil, List.length_cons, List.getD_cons_zero, List.getD_cons_succ, List.set_cons_zero, List.set_cons_succ, Nat.zero_le, Nat.reduceAdd, Nat.reduceLeDiff, Nat.reduceEqDiff, reduceIte]
def sg64 (X : xS) : Nat → Nat → List Int64
  | _, 0 => []
  | p, k + 1 => (sgX X (nI p)).toInt64 :: sg64 X (p + 1) k
theorem lp_dg1 {P : pP} (q : isP h x P) : ∀ (k p : Nat) (b : Int64), p + k = 64 → xf 87 18 [some (.ref x), some (.long b), none, some (.int (nI p))] [] h = xf 87 44 [some (.ref x), some (.long (mxF b (sg64 P.1 p k))), none, some (.int (nI 64))] [] h := by
  intro k
  induction k with
  | zero =>
    intro p b hk
    have h2 : ¬ nI p < 64 := nI_nlt (b := 64) (by omega) (by omega)
    have hw : p = 64 := by omega
    subst hw
    rw [u_X7_digest_18]
    simp only [u_X7_digest_19, u_X7_digest_21, h2, if_false, sg64, mxF, xgo_some, xgo_none, xgoI_none, xcat_n, xcat_i, xcat_r, xcat_z, List.length_nil, List.length_cons, List.getD_cons_zero, List.getD_cons_succ, List.set_cons_zero, List.set_cons_succ, Nat.zero_le, Nat.reduceAdd, Nat.reduceLeDiff, Nat.reduceEqDiff, reduceIte]
  | succ k ih =>
    intro p b hk
    have h2 : nI p < 64 := nI_lt (b := 64) (by omega) (by omega)
    have p2 := c_sign q.2.1 (nI p)
    rw [u_X7_digest_18]
    simp only [u_X7_digest_0, u_X7_digest_3, u_X7_digest_4, u_X7_digest_5, u_X7_digest_6, u_X7_digest_9, u_X7_digest_10, u_X7_digest_11, u_X7_digest_12, u_X7_digest_15, u_X7_digest_16, u_X7_digest_17, u_X7_digest_19, u_X7_digest_21, u_X7_digest_24, u_X7_digest_25, u_X7_digest_26, u_X7_digest_29, u_X7_digest_30, u_X7_digest_33, u_X7_digest_34, u_X7_digest_37, u_X7_digest_38, u_X7_digest_41, u_X7_digest_45, u_X7_digest_48, u_X7_digest_49, u_X7_digest_52, u_X7_digest_55, u_X7_digest_56, u_X7_digest_57, u_X7_digest_58, u_X7_digest_59, u_X7_digest_62, u_X7_digest_63, u_X7_digest_64, u_X7_digest_67, u_X7_digest_68, u_X7_digest_71, u_X7_digest_72, u_X7_digest_75, u_X7_digest_76, u_X7_digest_79, u_X7_digest_82, u_X7_digest_83, u_X7_digest_84, u_X7_digest_87, u_X7_digest_90, u_X7_digest_91, u_X7_digest_92, u_X7_digest_95, u_X7_digest_96, u_X7_digest_99, u_X7_digest_100, u_X7_digest_101, u_X7_digest_102, u_X7_digest_105, u_X7_digest_108, u_X7_digest_109, u_X7_digest_110, u_X7_digest_113, u_X7_digest_114, u_X7_digest_117, u_X7_digest_118, u_X7_digest_119, u_X7_digest_120, u_X7_digest_123, u_X7_digest_126, u_X7_digest_127, u_X7_digest_130, u_X7_digest_133, u_X7_digest_134, u_X7_digest_135, u_X7_digest_136, u_X7_digest_137, u_X7_digest_140, u_X7_digest_141, u_X7_digest_142, u_X7_digest_143, u_X7_digest_146, u_X7_digest_147, u_X7_digest_150, u_X7_digest_151, u_X7_digest_154, u_X7_digest_157, u_X7_digest_158, u_X7_digest_159, u_X7_digest_162, u_X7_digest_163, u_X7_digest_166, u_X7_digest_167, u_X7_digest_168, u_X7_digest_169, u_X7_digest_172, u_X7_digest_175, u_X7_digest_178, u_X7_digest_179, u_X7_digest_180, u_X7_digest_181, u_X7_digest_184, h2, q.ob, q.2.1.ob, p2, m_mix, nI_of1, if_true, xgo_some, xgo_none, xgoI_none, xcat_n, xcat_i, xcat_r, xcat_z, List.length_nil, List.length_cons, List.getD_cons_zero, List.getD_cons_succ, List.set_cons_zero, List.set_cons_succ, Nat.zero_le, Nat.reduceAdd, Nat.reduceLeDiff, Nat.reduceEqDiff, reduceIte]
    rw [ih (p + 1) _ (by omega), sg64, mxF]
    rfl
def fin4 (Z : Int32 × Int32 × Int32 × Int32) : Nat → Nat → List Int64
  | _, 0 => []
  | w, k + 1 => (finG Z (nI w)).toInt64 :: fin4 Z (w + 1) k
theorem lp_dg2 {P : pP} {Z : Int32 × Int32 × Int32 × Int32} (q : isP h x P) (qz : isN h (x + 118) Z) : ∀ (k w : Nat) (b : Int64), w + k = 4 → xf 87 57 [some (.ref x), some (.long b), none, some (.int (nI w))] [] h = xf 87 82 [some (.ref x), some (.long (mxF b (fin4 Z w k))), none, some (.int (nI 4))] [] h := by
  intro k
  induction k with
  | zero =>
    intro w b hk
    have h2 : (3 : Int32) < nI w := nI_lt (a := 3) (by omega) (by omega)
    have hw : w = 4 := by omega
    subst hw
    rw [u_X7_digest_57]
    simp only [u_X7_digest_58, u_X7_digest_59, h2, if_true, fin4, mxF, xgo_some, xgo_none, xgoI_none, xcat_n, xcat_i, xcat_r, xcat_z, List.length_nil, List.length_cons, List.getD_cons_zero, List.getD_cons_succ, List.set_cons_zero, List.set_cons_succ, Nat.zero_le, Nat.reduceAdd, Nat.reduceLeDiff, Nat.reduceEqDiff, reduceIte]
  | succ k ih =>
    intro w b hk
    have h2 : ¬ (3 : Int32) < nI w := nI_nlt (a := 3) (by omega) (by omega)
    have p2 := c_finding qz (nI w)
    rw [u_X7_digest_57]
    simp only [u_X7_digest_0, u_X7_digest_3, u_X7_digest_4, u_X7_digest_5, u_X7_digest_6, u_X7_digest_9, u_X7_digest_10, u_X7_digest_11, u_X7_digest_12, u_X7_digest_15, u_X7_digest_16, u_X7_digest_17, u_X7_digest_18, u_X7_digest_19, u_X7_digest_21, u_X7_digest_24, u_X7_digest_25, u_X7_digest_26, u_X7_digest_29, u_X7_digest_30, u_X7_digest_33, u_X7_digest_34, u_X7_digest_37, u_X7_digest_38, u_X7_digest_41, u_X7_digest_44, u_X7_digest_45, u_X7_digest_48, u_X7_digest_49, u_X7_digest_52, u_X7_digest_55, u_X7_digest_56, u_X7_digest_58, u_X7_digest_59, u_X7_digest_62, u_X7_digest_63, u_X7_digest_64, u_X7_digest_67, u_X7_digest_68, u_X7_digest_71, u_X7_digest_72, u_X7_digest_75, u_X7_digest_76, u_X7_digest_79, u_X7_digest_83, u_X7_digest_84, u_X7_digest_87, u_X7_digest_90, u_X7_digest_91, u_X7_digest_92, u_X7_digest_95, u_X7_digest_96, u_X7_digest_99, u_X7_digest_100, u_X7_digest_101, u_X7_digest_102, u_X7_digest_105, u_X7_digest_108, u_X7_digest_109, u_X7_digest_110, u_X7_digest_113, u_X7_digest_114, u_X7_digest_117, u_X7_digest_118, u_X7_digest_119, u_X7_digest_120, u_X7_digest_123, u_X7_digest_126, u_X7_digest_127, u_X7_digest_130, u_X7_digest_133, u_X7_digest_134, u_X7_digest_135, u_X7_digest_136, u_X7_digest_137, u_X7_digest_140, u_X7_digest_141, u_X7_digest_142, u_X7_digest_143, u_X7_digest_146, u_X7_digest_147, u_X7_digest_150, u_X7_digest_151, u_X7_digest_154, u_X7_digest_157, u_X7_digest_158, u_X7_digest_159, u_X7_digest_162, u_X7_digest_163, u_X7_digest_166, u_X7_digest_167, u_X7_digest_168, u_X7_digest_169, u_X7_digest_172, u_X7_digest_175, u_X7_digest_178, u_X7_digest_179, u_X7_digest_180, u_X7_digest_181, u_X7_digest_184, h2, q.ob, qz.ob, p2, m_mix, nI_of1, if_false, xgo_some, xgo_none, xgoI_none, xcat_n, xcat_i, xcat_r, xcat_z, List.length_nil, List.length_cons, List.getD_cons_zero, List.getD_cons_succ, List.set_cons_zero, List.set_cons_succ, Nat.zero_le, Nat.reduceAdd, Nat.reduceLeDiff, Nat.reduceEqDiff, reduceIte]
    rw [ih (w + 1) _ (by omega), fin4, mxF]
def tr4 (X T : xS) : Nat → Nat → List Int64
  | _, 0 => []
  | w, k + 1 => (tnX X T (nI w)).toInt64 :: tr4 X T (w + 1) k
theorem lp_dg3 {P : pP} {T : xS} (q : isP h x P) (qt : isS h (x + 123) T) : ∀ (k w : Nat) (b : Int64), w + k = 4 → xf 87 135 [some (.ref x), some (.long b), none, some (.int (nI w))] [] h = xf 87 157 [some (.ref x), some (.long (mxF b (tr4 P.1 T w k))), none, some (.int (nI 4))] [] h := by
  intro k
  induction k with
  | zero =>
    intro w b hk
    have h2 : (3 : Int32) < nI w := nI_lt (a := 3) (by omega) (by omega)
    have hw : w = 4 := by omega
    subst hw
    rw [u_X7_digest_135]
    simp only [u_X7_digest_136, u_X7_digest_137, h2, if_true, tr4, mxF, xgo_some, xgo_none, xgoI_none, xcat_n, xcat_i, xcat_r, xcat_z, List.length_nil, List.length_cons, List.getD_cons_zero, List.getD_cons_succ, List.set_cons_zero, List.set_cons_succ, Nat.zero_le, Nat.reduceAdd, Nat.reduceLeDiff, Nat.reduceEqDiff, reduceIte]
  | succ k ih =>
    intro w b hk
    have h2 : ¬ (3 : Int32) < nI w := nI_nlt (a := 3) (by omega) (by omega)
    have p2 := P_trial q qt (nI w)
    rw [u_X7_digest_135]
    simp only [u_X7_digest_0, u_X7_digest_3, u_X7_digest_4, u_X7_digest_5, u_X7_digest_6, u_X7_digest_9, u_X7_digest_10, u_X7_digest_11, u_X7_digest_12, u_X7_digest_15, u_X7_digest_16, u_X7_digest_17, u_X7_digest_18, u_X7_digest_19, u_X7_digest_21, u_X7_digest_24, u_X7_digest_25, u_X7_digest_26, u_X7_digest_29, u_X7_digest_30, u_X7_digest_33, u_X7_digest_34, u_X7_digest_37, u_X7_digest_38, u_X7_digest_41, u_X7_digest_44, u_X7_digest_45, u_X7_digest_48, u_X7_digest_49, u_X7_digest_52, u_X7_digest_55, u_X7_digest_56, u_X7_digest_57, u_X7_digest_58, u_X7_digest_59, u_X7_digest_62, u_X7_digest_63, u_X7_digest_64, u_X7_digest_67, u_X7_digest_68, u_X7_digest_71, u_X7_digest_72, u_X7_digest_75, u_X7_digest_76, u_X7_digest_79, u_X7_digest_82, u_X7_digest_83, u_X7_digest_84, u_X7_digest_87, u_X7_digest_90, u_X7_digest_91, u_X7_digest_92, u_X7_digest_95, u_X7_digest_96, u_X7_digest_99, u_X7_digest_100, u_X7_digest_101, u_X7_digest_102, u_X7_digest_105, u_X7_digest_108, u_X7_digest_109, u_X7_digest_110, u_X7_digest_113, u_X7_digest_114, u_X7_digest_117, u_X7_digest_118, u_X7_digest_119, u_X7_digest_120, u_X7_digest_123, u_X7_digest_126, u_X7_digest_127, u_X7_digest_130, u_X7_digest_133, u_X7_digest_134, u_X7_digest_136, u_X7_digest_137, u_X7_digest_140, u_X7_digest_141, u_X7_digest_142, u_X7_digest_143, u_X7_digest_146, u_X7_digest_147, u_X7_digest_150, u_X7_digest_151, u_X7_digest_154, u_X7_digest_158, u_X7_digest_159, u_X7_digest_162, u_X7_digest_163, u_X7_digest_166, u_X7_digest_167, u_X7_digest_168, u_X7_digest_169, u_X7_digest_172, u_X7_digest_175, u_X7_digest_178, u_X7_digest_179, u_X7_digest_180, u_X7_digest_181, u_X7_digest_184, h2, q.ob, p2, m_mix, nI_of1, if_false, xgo_some, xgo_none, xgoI_none, xcat_n, xcat_i, xcat_r, xcat_z, List.length_nil, List.length_cons, List.getD_cons_zero, List.getD_cons_succ, List.set_cons_zero, List.set_cons_succ, Nat.zero_le, Nat.reduceAdd, Nat.reduceLeDiff, Nat.reduceEqDiff, reduceIte]
    rw [ih (w + 1) _ (by omega), tr4, mxF]
def occ2 (X : xS) : List Int64 := [(nI (occI 0 1 X.1)).toInt64, (nI (occI 0 0 X.1)).toInt64]
/-- what is mixed, in its order -/
def dgL (P : pP) (B : Int64) : List Int64 := (tot1 P 0 9 ++ tot2 P.1) ++ ((i64 P.1.1 ++ (sg3 P.1 0 8 ++ nm9 P.1 8 16)) ++ (sg64 P.1 0 64 ++ (fin4 (fdF P.1.1 P.1.2.1 P.1.2.2.1) 0 4 ++ (occ2 P.1 ++ (tr4 P.1 (trX P.1 P.1.2.2.1) 0 4 ++ ([(boX P.1).toInt64, B] ++ ((nI P.2.2.length).toInt64 :: i64 P.2.2)))))))
theorem P_digest {P : pP} (q : isP h x P) (hR : rOk P.1.1) (ha : 0 < P.1.2.2.1) (hD : 0 < txF P.1.2.1.2.2.2 P.1.1 → okD (szI P.1) (txF P.1.2.1.2.2.2 P.1.1)) {B : Int64} (hB : ∀ h, xev 96 [.double (svX P.1)] h = some (.inl (some (.long B)), h)) : ∃ h', xev 87 [.ref x] h = some (.inl (some (.long (mxF 2749 (dgL P B)))), h') ∧ isP h' x P ∧ xFr x (x + 139) h h' := by
  obtain ⟨h1, a1, a2, a3⟩ := P_mixTotals q 2749
  obtain ⟨h2, b1, b2, b3⟩ := P_mixParts a2 (mxF 2749 (tot1 P 0 9 ++ tot2 P.1))
  obtain ⟨m2, em2⟩ : ∃ m2, m2 = mxF (mxF 2749 (tot1 P 0 9 ++ tot2 P.1)) (i64 P.1.1 ++ (sg3 P.1 0 8 ++ nm9 P.1 8 16)) := ⟨_, rfl⟩
  rw [← em2] at b1
  have c1 := lp_dg1 b2 64 0 m2 (by omega)
  obtain ⟨m3, em3⟩ : ∃ m3, m3 = mxF m2 (sg64 P.1 0 64) := ⟨_, rfl⟩
  rw [← em3] at c1
  obtain ⟨Z, qz⟩ := b2.2.2.2.2.1
  obtain ⟨h3, d1, d2, d3⟩ := c_find qz b2.2.1 hR ha (by omega)
  have r3 : isP h3 x P := by
    obtain ⟨X, Hs, C⟩ := P
    exact P_ng b2 d2 (by exact xFr.wd d3 (by omega) (by omega))
  have f1 := lp_dg2 r3 d2 4 0 m3 (by omega)
  obtain ⟨m4, em4⟩ : ∃ m4, m4 = mxF m3 (fin4 (fdF P.1.1 P.1.2.1 P.1.2.2.1) 0 4) := ⟨_, rfl⟩
  rw [← em4] at f1
  have o1 := c_occ r3.2.1 0 1
  have o2 := c_occ r3.2.1 0 0
  have s1 := c_seAt r3.2.1 (s := 0) (by decide) (by decide)
  rw [show seX P.1 0 = P.1.2.2.1 from if_pos rfl] at s1
  obtain ⟨h4, g1, g2, g3, g4⟩ := P_try r3 hR P.1.2.2.1 ha
  obtain ⟨m5, em5⟩ : ∃ m5, m5 = mxF m4 (occ2 P.1) := ⟨_, rfl⟩
  have k1 := lp_dg3 g2 g3 4 0 m5 (by omega)
  obtain ⟨m6, em6⟩ : ∃ m6, m6 = mxF m5 (tr4 P.1 (trX P.1 P.1.2.2.1) 0 4) := ⟨_, rfl⟩
  rw [← em6] at k1
  obtain ⟨h5, l1, l2, l3⟩ := P_best g2 hR
  have n1 := P_saved l2 hD
  have t1 := P_mixBuffer l2 (mxF m6 [(boX P.1).toInt64, B])
  refine ⟨h5, ?_, l2, (((a3.tr b3).tr (xFr.wd d3 (by omega) (by omega))).tr g4).tr l3⟩
  rw [e_X7_digest]
  simp only [u_X7_digest_0, u_X7_digest_3, u_X7_digest_4, u_X7_digest_5, u_X7_digest_6, u_X7_digest_9, u_X7_digest_10, u_X7_digest_11, u_X7_digest_12, u_X7_digest_15, u_X7_digest_16, u_X7_digest_17, u_X7_digest_19, u_X7_digest_21, u_X7_digest_24, u_X7_digest_25, u_X7_digest_26, u_X7_digest_29, u_X7_digest_30, u_X7_digest_33, u_X7_digest_34, u_X7_digest_37, u_X7_digest_38, u_X7_digest_41, u_X7_digest_45, u_X7_digest_48, u_X7_digest_49, u_X7_digest_52, u_X7_digest_55, u_X7_digest_56, u_X7_digest_58, u_X7_digest_59, u_X7_digest_62, u_X7_digest_63, u_X7_digest_64, u_X7_digest_67, u_X7_digest_68, u_X7_digest_71, u_X7_digest_72, u_X7_digest_75, u_X7_digest_76, u_X7_digest_79, u_X7_digest_83, u_X7_digest_84, u_X7_digest_87, u_X7_digest_90, u_X7_digest_91, u_X7_digest_92, u_X7_digest_95, u_X7_digest_96, u_X7_digest_99, u_X7_digest_100, u_X7_digest_101, u_X7_digest_102, u_X7_digest_105, u_X7_digest_108, u_X7_digest_109, u_X7_digest_110, u_X7_digest_113, u_X7_digest_114, u_X7_digest_117, u_X7_digest_118, u_X7_digest_119, u_X7_digest_120, u_X7_digest_123, u_X7_digest_126, u_X7_digest_127, u_X7_digest_130, u_X7_digest_133, u_X7_digest_134, u_X7_digest_136, u_X7_digest_137, u_X7_digest_140, u_X7_digest_141, u_X7_digest_142, u_X7_digest_143, u_X7_digest_146, u_X7_digest_147, u_X7_digest_150, u_X7_digest_151, u_X7_digest_154, u_X7_digest_158, u_X7_digest_159, u_X7_digest_162, u_X7_digest_163, u_X7_digest_166, u_X7_digest_167, u_X7_digest_168, u_X7_digest_169, u_X7_digest_172, u_X7_digest_175, u_X7_digest_178, u_X7_digest_179, u_X7_digest_180, u_X7_digest_181, u_X7_digest_184, q.ob, a1, a2.ob, b1, xgo_some, xgo_none, xgoI_none, xcat_n, xcat_i, xcat_r, xcat_z, List.length_nil, List.length_cons, List.getD_cons_zero, List.getD_cons_succ, List.set_cons_zero, List.set_cons_succ, Nat.zero_le, Nat.reduceAdd, Nat.reduceLeDiff, Nat.reduceEqDiff, reduceIte]
  rw [show (0 : Int32) = nI 0 from rfl, c1, u_X7_digest_44]
  simp only [u_X7_digest_0, u_X7_digest_3, u_X7_digest_4, u_X7_digest_5, u_X7_digest_6, u_X7_digest_9, u_X7_digest_10, u_X7_digest_11, u_X7_digest_12, u_X7_digest_15, u_X7_digest_16, u_X7_digest_17, u_X7_digest_19, u_X7_digest_21, u_X7_digest_24, u_X7_digest_25, u_X7_digest_26, u_X7_digest_29, u_X7_digest_30, u_X7_digest_33, u_X7_digest_34, u_X7_digest_37, u_X7_digest_38, u_X7_digest_41, u_X7_digest_45, u_X7_digest_48, u_X7_digest_49, u_X7_digest_52, u_X7_digest_55, u_X7_digest_56, u_X7_digest_58, u_X7_digest_59, u_X7_digest_62, u_X7_digest_63, u_X7_digest_64, u_X7_digest_67, u_X7_digest_68, u_X7_digest_71, u_X7_digest_72, u_X7_digest_75, u_X7_digest_76, u_X7_digest_79, u_X7_digest_83, u_X7_digest_84, u_X7_digest_87, u_X7_digest_90, u_X7_digest_91, u_X7_digest_92, u_X7_digest_95, u_X7_digest_96, u_X7_digest_99, u_X7_digest_100, u_X7_digest_101, u_X7_digest_102, u_X7_digest_105, u_X7_digest_108, u_X7_digest_109, u_X7_digest_110, u_X7_digest_113, u_X7_digest_114, u_X7_digest_117, u_X7_digest_118, u_X7_digest_119, u_X7_digest_120, u_X7_digest_123, u_X7_digest_126, u_X7_digest_127, u_X7_digest_130, u_X7_digest_133, u_X7_digest_134, u_X7_digest_136, u_X7_digest_137, u_X7_digest_140, u_X7_digest_141, u_X7_digest_142, u_X7_digest_143, u_X7_digest_146, u_X7_digest_147, u_X7_digest_150, u_X7_digest_151, u_X7_digest_154, u_X7_digest_158, u_X7_digest_159, u_X7_digest_162, u_X7_digest_163, u_X7_digest_166, u_X7_digest_167, u_X7_digest_168, u_X7_digest_169, u_X7_digest_172, u_X7_digest_175, u_X7_digest_178, u_X7_digest_179, u_X7_digest_180, u_X7_digest_181, u_X7_digest_184, b2.ob, qz.ob, d1, xgo_some, xgo_none, xgoI_none, xcat_n, xcat_i, xcat_r, xcat_z, List.length_nil, List.length_cons, List.getD_cons_zero, List.getD_cons_succ, List.set_cons_zero, List.set_cons_succ, Nat.zero_le, Nat.reduceAdd, Nat.reduceLeDiff, Nat.reduceEqDiff, reduceIte]
  rw [show (0 : Int32) = nI 0 from rfl, f1, u_X7_digest_82]
  simp only [u_X7_digest_0, u_X7_digest_3, u_X7_digest_4, u_X7_digest_5, u_X7_digest_6, u_X7_digest_9, u_X7_digest_10, u_X7_digest_11, u_X7_digest_12, u_X7_digest_15, u_X7_digest_16, u_X7_digest_17, u_X7_digest_19, u_X7_digest_21, u_X7_digest_24, u_X7_digest_25, u_X7_digest_26, u_X7_digest_29, u_X7_digest_30, u_X7_digest_33, u_X7_digest_34, u_X7_digest_37, u_X7_digest_38, u_X7_digest_41, u_X7_digest_45, u_X7_digest_48, u_X7_digest_49, u_X7_digest_52, u_X7_digest_55, u_X7_digest_56, u_X7_digest_58, u_X7_digest_59, u_X7_digest_62, u_X7_digest_63, u_X7_digest_64, u_X7_digest_67, u_X7_digest_68, u_X7_digest_71, u_X7_digest_72, u_X7_digest_75, u_X7_digest_76, u_X7_digest_79, u_X7_digest_83, u_X7_digest_84, u_X7_digest_87, u_X7_digest_90, u_X7_digest_91, u_X7_digest_92, u_X7_digest_95, u_X7_digest_96, u_X7_digest_99, u_X7_digest_100, u_X7_digest_101, u_X7_digest_102, u_X7_digest_105, u_X7_digest_108, u_X7_digest_109, u_X7_digest_110, u_X7_digest_113, u_X7_digest_114, u_X7_digest_117, u_X7_digest_118, u_X7_digest_119, u_X7_digest_120, u_X7_digest_123, u_X7_digest_126, u_X7_digest_127, u_X7_digest_130, u_X7_digest_133, u_X7_digest_134, u_X7_digest_136, u_X7_digest_137, u_X7_digest_140, u_X7_digest_141, u_X7_digest_142, u_X7_digest_143, u_X7_digest_146, u_X7_digest_147, u_X7_digest_150, u_X7_digest_151, u_X7_digest_154, u_X7_digest_158, u_X7_digest_159, u_X7_digest_162, u_X7_digest_163, u_X7_digest_166, u_X7_digest_167, u_X7_digest_168, u_X7_digest_169, u_X7_digest_172, u_X7_digest_175, u_X7_digest_178, u_X7_digest_179, u_X7_digest_180, u_X7_digest_181, u_X7_digest_184, r3.ob, r3.2.1.ob, r3.2.1.rw, r3.2.1.se, o1, o2, s1, g1, m_mix, xgo_some, xgo_none, xgoI_none, xcat_n, xcat_i, xcat_r, xcat_z, List.length_nil, List.length_cons, List.getD_cons_zero, List.getD_cons_succ, List.set_cons_zero, List.set_cons_succ, Nat.zero_le, Nat.reduceAdd, Nat.reduceLeDiff, Nat.reduceEqDiff, reduceIte]
  have e5 : (31 * (31 * m4 + (nI (occI 0 1 P.1.1)).toInt64) + (nI (occI 0 0 P.1.1)).toInt64) = m5 := em5.symm
  rw [show (0 : Int32) = nI 0 from rfl] at e5 ⊢
  rw [e5, k1, u_X7_digest_157]
  have e6 : (31 * (31 * m6 + (boX P.1).toInt64) + B) = mxF m6 [(boX P.1).toInt64, B] := rfl
  simp only [u_X7_digest_0, u_X7_digest_3, u_X7_digest_4, u_X7_digest_5, u_X7_digest_6, u_X7_digest_9, u_X7_digest_10, u_X7_digest_11, u_X7_digest_12, u_X7_digest_15, u_X7_digest_16, u_X7_digest_17, u_X7_digest_19, u_X7_digest_21, u_X7_digest_24, u_X7_digest_25, u_X7_digest_26, u_X7_digest_29, u_X7_digest_30, u_X7_digest_33, u_X7_digest_34, u_X7_digest_37, u_X7_digest_38, u_X7_digest_41, u_X7_digest_45, u_X7_digest_48, u_X7_digest_49, u_X7_digest_52, u_X7_digest_55, u_X7_digest_56, u_X7_digest_58, u_X7_digest_59, u_X7_digest_62, u_X7_digest_63, u_X7_digest_64, u_X7_digest_67, u_X7_digest_68, u_X7_digest_71, u_X7_digest_72, u_X7_digest_75, u_X7_digest_76, u_X7_digest_79, u_X7_digest_83, u_X7_digest_84, u_X7_digest_87, u_X7_digest_90, u_X7_digest_91, u_X7_digest_92, u_X7_digest_95, u_X7_digest_96, u_X7_digest_99, u_X7_digest_100, u_X7_digest_101, u_X7_digest_102, u_X7_digest_105, u_X7_digest_108, u_X7_digest_109, u_X7_digest_110, u_X7_digest_113, u_X7_digest_114, u_X7_digest_117, u_X7_digest_118, u_X7_digest_119, u_X7_digest_120, u_X7_digest_123, u_X7_digest_126, u_X7_digest_127, u_X7_digest_130, u_X7_digest_133, u_X7_digest_134, u_X7_digest_136, u_X7_digest_137, u_X7_digest_140, u_X7_digest_141, u_X7_digest_142, u_X7_digest_143, u_X7_digest_146, u_X7_digest_147, u_X7_digest_150, u_X7_digest_151, u_X7_digest_154, u_X7_digest_158, u_X7_digest_159, u_X7_digest_162, u_X7_digest_163, u_X7_digest_166, u_X7_digest_167, u_X7_digest_168, u_X7_digest_169, u_X7_digest_172, u_X7_digest_175, u_X7_digest_178, u_X7_digest_179, u_X7_digest_180, u_X7_digest_181, u_X7_digest_184, g2.ob, l1, l2.ob, n1, hB, m_mix, e6, t1, xgo_some, xgo_none, xgoI_none, xcat_n, xcat_i, xcat_r, xcat_z, List.length_nil, List.length_cons, List.getD_cons_zero, List.getD_cons_succ, List.set_cons_zero, List.set_cons_succ, Nat.zero_le, Nat.reduceAdd, Nat.reduceLeDiff, Nat.reduceEqDiff, reduceIte]
  rw [dgL, mxF_app, mxF_app, mxF_app, mxF_app, mxF_app, mxF_app, mxF_app, em6, em5, em4, em3, em2]
end PW
