/-! The model: the next step found. -/
section FI
variable {h : xH} {m : Nat} {D : Int64} {A : Nat → Nat → Int32} {X : xS}
def mfS (t o : Int32) (a j : Nat) (S : Int32 × Int32 × Int32) : Int32 × Int32 × Int32 := if ¬ t < o ∧ S.1 < t then (t, nI a, nI j) else S
def mfI (L : List Int32) (o : Int32) (a : Nat) : Nat → Nat → Int32 × Int32 × Int32 → Int32 × Int32 × Int32
  | _, 0, S => S
  | j, k + 1, S => mfI L o a (j + 1) k (mfS (nI (occI (nI a) (nI j) L)) o a j S)
def mfO (L : List Int32) (o : Int32) : Nat → Nat → Int32 × Int32 × Int32 → Int32 × Int32 × Int32
  | _, 0, S => S
  | a, k + 1, S => mfO L o (a + 1) k (mfI L o a 0 24 S)
def zE (Z Z' : Nat → Int32) : Prop := ∀ j, j ≠ 15 → j ≠ 16 → j ≠ 17 → j ≠ 18 → Z' j = Z j
theorem zE.tr {Z Z1 Z2 : Nat → Int32} (a : zE Z Z1) (b : zE Z1 Z2) : zE Z Z2 := fun j h1 h2 h3 h4 => (b j h1 h2 h3 h4).trans (a j h1 h2 h3 h4)
def zS (Z : Nat → Int32) (S : Int32 × Int32 × Int32) : Prop := Z 17 = S.1 ∧ Z 15 = S.2.1 ∧ Z 16 = S.2.2
theorem x113 : xix 113 117 := ⟨by decide, by decide⟩
theorem c113 : (113 : Int32).toNatClampNeg = 113 := by decide
theorem lp_find1 (r : rS (A 1) X) (a : Nat) : ∀ (k j : Nat) (h : xH) (Z : Nat → Int32) (S : Int32 × Int32 × Int32) (l3 : Option Value), j + k = 24 → isMo h m Z D A → zS Z S →
    ∃ h' Z' l3', xf 124 15 [some (.ref m), some (.int (nI a)), some (.int (nI j)), l3] [] h = xf 124 68 [some (.ref m), some (.int (nI a)), some (.int (nI 24)), l3'] [] h' ∧ isMo h' m Z' D A ∧ zE Z Z' ∧ zS Z' (mfI X.1 X.2.2.1 a j k S) ∧ xFr m (m + 10) h h' := by
  intro k
  induction k with
  | zero =>
    intro j h Z S l3 hk q s
    have h2 : ¬ nI j < 24 := nI_nlt (b := 24) (by omega) (by omega)
    have hj : j = 24 := by omega
    subst hj
    refine ⟨h, Z, l3, ?_, q, fun _ _ _ _ _ => rfl, s, xFr.rf⟩
    rw [u_X8_find_15]
    simp only [u_X8_find_16, u_X8_find_18, h2, if_false, xgo_some, xgo_none, xgoI_none, xcat_n, xcat_i, xcat_r, xcat_z, List.length_nil, List.length_cons, List.getD_cons_zero, List.getD_cons_succ, List.set_cons_zero, List.set_cons_succ, Nat.zero_le, Nat.reduceAdd, Nat.reduceLeDiff, Nat.reduceEqDiff, reduceIte]
  | succ k ih =>
    intro j h Z S l3 hk q s
    have h2 : nI j < 24 := nI_lt (b := 24) (by omega) (by omega)
    have po := m_occurs q r (nI a) (nI j)
    have e5 := r.2.2.2.2.1
    obtain ⟨t, et⟩ : ∃ t, t = nI (occI (nI a) (nI j) X.1) := ⟨_, rfl⟩
    rw [← et] at po
    rw [mfI, ← et]
    by_cases h3 : t < X.2.2.1
    · obtain ⟨h', Z', l3', a1, a2, a3, a4, a5⟩ := ih (j + 1) h Z S (some (.int t)) (by omega) q s
      refine ⟨h', Z', l3', ?_, a2, a3, by rw [show mfS t X.2.2.1 a j S = S from if_neg (fun z => z.1 h3)]; exact a4, a5⟩
      rw [u_X8_find_15]
      simp only [u_X8_find_0, u_X8_find_1, u_X8_find_2, u_X8_find_5, u_X8_find_6, u_X8_find_7, u_X8_find_8, u_X8_find_10, u_X8_find_13, u_X8_find_14, u_X8_find_16, u_X8_find_18, u_X8_find_21, u_X8_find_22, u_X8_find_23, u_X8_find_24, u_X8_find_27, u_X8_find_28, u_X8_find_29, u_X8_find_30, u_X8_find_33, u_X8_find_35, u_X8_find_36, u_X8_find_39, u_X8_find_40, u_X8_find_41, u_X8_find_44, u_X8_find_47, u_X8_find_48, u_X8_find_49, u_X8_find_52, u_X8_find_53, u_X8_find_54, u_X8_find_57, u_X8_find_58, u_X8_find_59, u_X8_find_62, u_X8_find_65, u_X8_find_71, u_X8_find_74, u_X8_find_75, u_X8_find_76, u_X8_find_79, u_X8_find_81, u_X8_find_82, u_X8_find_83, u_X8_find_85, u_X8_find_88, u_X8_find_89, u_X8_find_90, u_X8_find_93, u_X8_find_96, u_X8_find_97, u_X8_find_98, u_X8_find_101, u_X8_find_104, u_X8_find_105, u_X8_find_108, u_X8_find_109, u_X8_find_112, u_X8_find_115, u_X8_find_118, u_X8_find_121, u_X8_find_123, u_X8_find_124, u_X8_find_125, u_X8_find_127, u_X8_find_130, u_X8_find_131, u_X8_find_134, u_X8_find_137, u_X8_find_138, u_X8_find_139, u_X8_find_142, u_X8_find_145, u_X8_find_146, u_X8_find_147, u_X8_find_150, u_X8_find_151, u_X8_find_154, u_X8_find_157, u_X8_find_158, u_X8_find_159, u_X8_find_162, u_X8_find_163, u_X8_find_166, u_X8_find_169, u_X8_find_170, u_X8_find_173, u_X8_find_174, u_X8_find_175, u_X8_find_176, u_X8_find_177, u_X8_find_180, u_X8_find_181, u_X8_find_184, u_X8_find_185, u_X8_find_188, u_X8_find_191, u_X8_find_194, u_X8_find_197, h2, q.ob, q.a1, po, x113, c113, e5, h3, nI_of1, if_true, xgo_some, xgo_none, xgoI_none, xcat_n, xcat_i, xcat_r, xcat_z, List.length_nil, List.length_cons, List.getD_cons_zero, List.getD_cons_succ, List.set_cons_zero, List.set_cons_succ, Nat.zero_le, Nat.reduceAdd, Nat.reduceLeDiff, Nat.reduceEqDiff, reduceIte]
      exact a1
    · by_cases h4 : S.1 < t
      · have q1 := mo_z17 q t
        have q2 := mo_z15 q1 (nI a)
        have q3 := mo_z16 q2 (nI j)
        obtain ⟨h', Z', l3', a1, a2, a3, a4, a5⟩ := ih (j + 1) _ _ (t, nI a, nI j) (some (.int t)) (by omega) q3 ⟨by rw [va_up_ne _ _ (by omega), va_up_ne _ _ (by omega), va_up_self], by rw [va_up_ne _ _ (by omega), va_up_self], by rw [va_up_self]⟩
        refine ⟨h', Z', l3', ?_, a2, zE.tr (fun j j1 j2 j3 j4 => by rw [va_up_ne _ _ j2, va_up_ne _ _ j1, va_up_ne _ _ j3]) a3, by rw [show mfS t X.2.2.1 a j S = (t, nI a, nI j) from if_pos ⟨h3, h4⟩]; exact a4, (((xFr_mo _ _ _ _).tr (xFr_mo _ _ _ _)).tr (xFr_mo _ _ _ _)).tr a5⟩
        rw [u_X8_find_15]
        simp only [u_X8_find_0, u_X8_find_1, u_X8_find_2, u_X8_find_5, u_X8_find_6, u_X8_find_7, u_X8_find_8, u_X8_find_10, u_X8_find_13, u_X8_find_14, u_X8_find_16, u_X8_find_18, u_X8_find_21, u_X8_find_22, u_X8_find_23, u_X8_find_24, u_X8_find_27, u_X8_find_28, u_X8_find_29, u_X8_find_30, u_X8_find_33, u_X8_find_35, u_X8_find_36, u_X8_find_39, u_X8_find_40, u_X8_find_41, u_X8_find_44, u_X8_find_47, u_X8_find_48, u_X8_find_49, u_X8_find_52, u_X8_find_53, u_X8_find_54, u_X8_find_57, u_X8_find_58, u_X8_find_59, u_X8_find_62, u_X8_find_65, u_X8_find_71, u_X8_find_74, u_X8_find_75, u_X8_find_76, u_X8_find_79, u_X8_find_81, u_X8_find_82, u_X8_find_83, u_X8_find_85, u_X8_find_88, u_X8_find_89, u_X8_find_90, u_X8_find_93, u_X8_find_96, u_X8_find_97, u_X8_find_98, u_X8_find_101, u_X8_find_104, u_X8_find_105, u_X8_find_108, u_X8_find_109, u_X8_find_112, u_X8_find_115, u_X8_find_118, u_X8_find_121, u_X8_find_123, u_X8_find_124, u_X8_find_125, u_X8_find_127, u_X8_find_130, u_X8_find_131, u_X8_find_134, u_X8_find_137, u_X8_find_138, u_X8_find_139, u_X8_find_142, u_X8_find_145, u_X8_find_146, u_X8_find_147, u_X8_find_150, u_X8_find_151, u_X8_find_154, u_X8_find_157, u_X8_find_158, u_X8_find_159, u_X8_find_162, u_X8_find_163, u_X8_find_166, u_X8_find_169, u_X8_find_170, u_X8_find_173, u_X8_find_174, u_X8_find_175, u_X8_find_176, u_X8_find_177, u_X8_find_180, u_X8_find_181, u_X8_find_184, u_X8_find_185, u_X8_find_188, u_X8_find_191, u_X8_find_194, u_X8_find_197, h2, q.ob, q.a1, po, x113, c113, e5, h3, s.1, h4, q1.ob, q2.ob, q3.ob, nI_of1, if_true, if_false, xgo_some, xgo_none, xgoI_none, xcat_n, xcat_i, xcat_r, xcat_z, List.length_nil, List.length_cons, List.getD_cons_zero, List.getD_cons_succ, List.set_cons_zero, List.set_cons_succ, Nat.zero_le, Nat.reduceAdd, Nat.reduceLeDiff, Nat.reduceEqDiff, reduceIte]
        exact a1
      · obtain ⟨h', Z', l3', a1, a2, a3, a4, a5⟩ := ih (j + 1) h Z S (some (.int t)) (by omega) q s
        refine ⟨h', Z', l3', ?_, a2, a3, by rw [show mfS t X.2.2.1 a j S = S from if_neg (fun z => h4 z.2)]; exact a4, a5⟩
        rw [u_X8_find_15]
        simp only [u_X8_find_0, u_X8_find_1, u_X8_find_2, u_X8_find_5, u_X8_find_6, u_X8_find_7, u_X8_find_8, u_X8_find_10, u_X8_find_13, u_X8_find_14, u_X8_find_16, u_X8_find_18, u_X8_find_21, u_X8_find_22, u_X8_find_23, u_X8_find_24, u_X8_find_27, u_X8_find_28, u_X8_find_29, u_X8_find_30, u_X8_find_33, u_X8_find_35, u_X8_find_36, u_X8_find_39, u_X8_find_40, u_X8_find_41, u_X8_find_44, u_X8_find_47, u_X8_find_48, u_X8_find_49, u_X8_find_52, u_X8_find_53, u_X8_find_54, u_X8_find_57, u_X8_find_58, u_X8_find_59, u_X8_find_62, u_X8_find_65, u_X8_find_71, u_X8_find_74, u_X8_find_75, u_X8_find_76, u_X8_find_79, u_X8_find_81, u_X8_find_82, u_X8_find_83, u_X8_find_85, u_X8_find_88, u_X8_find_89, u_X8_find_90, u_X8_find_93, u_X8_find_96, u_X8_find_97, u_X8_find_98, u_X8_find_101, u_X8_find_104, u_X8_find_105, u_X8_find_108, u_X8_find_109, u_X8_find_112, u_X8_find_115, u_X8_find_118, u_X8_find_121, u_X8_find_123, u_X8_find_124, u_X8_find_125, u_X8_find_127, u_X8_find_130, u_X8_find_131, u_X8_find_134, u_X8_find_137, u_X8_find_138, u_X8_find_139, u_X8_find_142, u_X8_find_145, u_X8_find_146, u_X8_find_147, u_X8_find_150, u_X8_find_151, u_X8_find_154, u_X8_find_157, u_X8_find_158, u_X8_find_159, u_X8_find_162, u_X8_find_163, u_X8_find_166, u_X8_find_169, u_X8_find_170, u_X8_find_173, u_X8_find_174, u_X8_find_175, u_X8_find_176, u_X8_find_177, u_X8_find_180, u_X8_find_181, u_X8_find_184, u_X8_find_185, u_X8_find_188, u_X8_find_191, u_X8_find_194, u_X8_find_197, h2, q.ob, q.a1, po, x113, c113, e5, h3, s.1, h4, nI_of1, if_true, if_false, xgo_some, xgo_none, xgoI_none, xcat_n, xcat_i, xcat_r, xcat_z, List.length_nil, List.length_cons, List.getD_cons_zero, List.getD_cons_succ, List.set_cons_zero, List.set_cons_succ, Nat.zero_le, Nat.reduceAdd, Nat.reduceLeDiff, Nat.reduceEqDiff, reduceIte]
        exact a1
theorem lp_find2 (r : rS (A 1) X) : ∀ (k a : Nat) (h : xH) (Z : Nat → Int32) (S : Int32 × Int32 × Int32) (l2 l3 : Option Value), a + k = 24 → isMo h m Z D A → zS Z S →
    ∃ h' Z' l2' l3', xf 124 7 [some (.ref m), some (.int (nI a)), l2, l3] [] h = xf 124 74 [some (.ref m), some (.int (nI 24)), l2', l3'] [] h' ∧ isMo h' m Z' D A ∧ zE Z Z' ∧ zS Z' (mfO X.1 X.2.2.1 a k S) ∧ xFr m (m + 10) h h' := by
  intro k
  induction k with
  | zero =>
    intro a h Z S l2 l3 hk q s
    have h2 : ¬ nI a < 24 := nI_nlt (b := 24) (by omega) (by omega)
    have hj : a = 24 := by omega
    subst hj
    refine ⟨h, Z, l2, l3, ?_, q, fun _ _ _ _ _ => rfl, s, xFr.rf⟩
    rw [u_X8_find_7]
    simp only [u_X8_find_8, u_X8_find_10, h2, if_false, xgo_some, xgo_none, xgoI_none, xcat_n, xcat_i, xcat_r, xcat_z, List.length_nil, List.length_cons, List.getD_cons_zero, List.getD_cons_succ, List.set_cons_zero, List.set_cons_succ, Nat.zero_le, Nat.reduceAdd, Nat.reduceLeDiff, Nat.reduceEqDiff, reduceIte]
  | succ k ih =>
    intro a h Z S l2 l3 hk q s
    have h2 : nI a < 24 := nI_lt (b := 24) (by omega) (by omega)
    obtain ⟨h1, Z1, l31, b1, b2, b3, b4, b5⟩ := lp_find1 r a 24 0 h Z S l3 (by omega) q s
    obtain ⟨h', Z', l2', l3', a1, a2, a3, a4, a5⟩ := ih (a + 1) h1 Z1 _ (some (.int (nI 24))) l31 (by omega) b2 b4
    refine ⟨h', Z', l2', l3', ?_, a2, b3.tr a3, a4, b5.tr a5⟩
    rw [u_X8_find_7]
    simp only [u_X8_find_8, u_X8_find_10, u_X8_find_13, u_X8_find_14, h2, if_true, xgo_some, xgo_none, xgoI_none, xcat_n, xcat_i, xcat_r, xcat_z, List.length_nil, List.length_cons, List.getD_cons_zero, List.getD_cons_succ, List.set_cons_zero, List.set_cons_succ, Nat.zero_le, Nat.reduceAdd, Nat.reduceLeDiff, Nat.reduceEqDiff, reduceIte]
    rw [show (0 : Int32) = nI 0 from rfl, b1, u_X8_find_68]
    simp only [u_X8_find_71, nI_of1, xgo_some, xgo_none, xgoI_none, xcat_n, xcat_i, xcat_r, xcat_z, List.length_nil, List.length_cons, List.getD_cons_zero, List.getD_cons_succ, List.set_cons_zero, List.set_cons_succ, Nat.zero_le, Nat.reduceAdd, Nat.reduceLeDiff, Nat.reduceEqDiff, reduceIte]
    exact a1
end FI
