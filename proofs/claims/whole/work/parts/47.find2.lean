/-! The model: the next step's name. -/
section FJ
variable {h : xH} {m : Nat} {D : Int64} {A : Nat → Nat → Int32} {X : xS}
def mnA (w : Bool) (N : xNs) : Nat → Int32 → Int32
  | 0, acc => acc
  | k + 1, acc => mnA w N k (if w = true ∧ N.1 (8 + k) = -1 then nI (8 + k) else acc)
def mnB (w : Bool) (N : xNs) (x y : Int32) : Nat → Nat → Int32 → Int32
  | _, 0, acc => acc
  | i, k + 1, acc => mnB w N x y (i + 1) k (if w = true ∧ N.1 i ≠ -1 ∧ N.1 i = x ∧ N.2.1 i = y then nI i else acc)
def zT (Z Z' : Nat → Int32) : Prop := ∀ j, j ≠ 18 → Z' j = Z j
theorem zT.tr {Z Z1 Z2 : Nat → Int32} (a : zT Z Z1) (b : zT Z1 Z2) : zT Z Z2 := fun j h1 => (b j h1).trans (a j h1)
theorem zT_up (Z : Nat → Int32) (v : Int32) : zT Z (va_up Z 18 v) := fun _ h1 => va_up_ne _ _ h1
theorem lp_find3 (r : rS (A 1) X) : ∀ (k : Nat) (h : xH) (Z : Nat → Int32) (l2 l3 : Option Value), k ≤ 16 → isMo h m Z D A →
    ∃ h' Z' l1', xf 124 82 [some (.ref m), some (.int (nI (8 + k) - 1)), l2, l3] [] h = xf 124 121 [some (.ref m), some (.int l1'), l2, l3] [] h' ∧ isMo h' m Z' D A ∧ zT Z Z' ∧ Z' 18 = mnA (decide (0 < Z 17)) X.2.1 k (Z 18) ∧ xFr m (m + 10) h h' := by
  intro k
  induction k with
  | zero =>
    intro h Z l2 l3 hk q
    have h2 : nI (8 + 0) - 1 < 8 := by decide
    refine ⟨h, Z, nI (8 + 0) - 1, ?_, q, fun _ _ => rfl, rfl, xFr.rf⟩
    rw [u_X8_find_82]
    simp only [u_X8_find_83, u_X8_find_85, h2, if_true]
  | succ k ih =>
    intro h Z l2 l3 hk q
    have el : nI (8 + (k + 1)) - 1 = nI (8 + k) := nI_pred (8 + k)
    have h2 : ¬ nI (8 + k) < 8 := nI_nlt (b := 8) (by omega) (by omega)
    have ed : nI (8 + k) + -1 = nI (8 + k) - 1 := (Int32.sub_eq_add_neg _ _).symm
    have pp := m_isPart q r (nI (8 + k))
    rw [hasP_nI (by omega) (by omega)] at pp
    rw [el, mnA]
    by_cases h3 : 0 < Z 17
    · by_cases h4 : X.2.1.1 (8 + k) = -1
      · rw [decide_eq_false (fun z => z h4)] at pp
        have q1 := mo_z18 q (nI (8 + k))
        obtain ⟨h', Z', l1', a1, a2, a3, a4, a5⟩ := ih _ _ l2 l3 (by omega) q1
        rw [va_up_self, va_up_ne _ _ (show 17 ≠ 18 by decide)] at a4
        refine ⟨h', Z', l1', ?_, a2, (zT_up Z _).tr a3, by rw [if_pos ⟨decide_eq_true h3, h4⟩]; exact a4, (xFr_mo _ _ _ _).tr a5⟩
        rw [u_X8_find_82]
        simp only [u_X8_find_0, u_X8_find_1, u_X8_find_2, u_X8_find_5, u_X8_find_6, u_X8_find_7, u_X8_find_8, u_X8_find_10, u_X8_find_13, u_X8_find_14, u_X8_find_15, u_X8_find_16, u_X8_find_18, u_X8_find_21, u_X8_find_22, u_X8_find_23, u_X8_find_24, u_X8_find_27, u_X8_find_28, u_X8_find_29, u_X8_find_30, u_X8_find_33, u_X8_find_35, u_X8_find_36, u_X8_find_39, u_X8_find_40, u_X8_find_41, u_X8_find_44, u_X8_find_47, u_X8_find_48, u_X8_find_49, u_X8_find_52, u_X8_find_53, u_X8_find_54, u_X8_find_57, u_X8_find_58, u_X8_find_59, u_X8_find_62, u_X8_find_65, u_X8_find_68, u_X8_find_71, u_X8_find_74, u_X8_find_75, u_X8_find_76, u_X8_find_79, u_X8_find_81, u_X8_find_83, u_X8_find_85, u_X8_find_88, u_X8_find_89, u_X8_find_90, u_X8_find_93, u_X8_find_96, u_X8_find_97, u_X8_find_98, u_X8_find_101, u_X8_find_104, u_X8_find_105, u_X8_find_108, u_X8_find_109, u_X8_find_112, u_X8_find_115, u_X8_find_118, u_X8_find_123, u_X8_find_124, u_X8_find_125, u_X8_find_127, u_X8_find_130, u_X8_find_131, u_X8_find_134, u_X8_find_137, u_X8_find_138, u_X8_find_139, u_X8_find_142, u_X8_find_145, u_X8_find_146, u_X8_find_147, u_X8_find_150, u_X8_find_151, u_X8_find_154, u_X8_find_157, u_X8_find_158, u_X8_find_159, u_X8_find_162, u_X8_find_163, u_X8_find_166, u_X8_find_169, u_X8_find_170, u_X8_find_173, u_X8_find_174, u_X8_find_175, u_X8_find_176, u_X8_find_177, u_X8_find_180, u_X8_find_181, u_X8_find_184, u_X8_find_185, u_X8_find_188, u_X8_find_191, u_X8_find_194, u_X8_find_197, h2, h3, q.ob, pp, b32_f, ed, if_true, if_false, xgo_some, xgo_none, xgoI_none, xcat_n, xcat_i, xcat_r, xcat_z, List.length_nil, List.length_cons, List.getD_cons_zero, List.getD_cons_succ, List.set_cons_zero, List.set_cons_succ, Nat.zero_le, Nat.reduceAdd, Nat.reduceLeDiff, Nat.reduceEqDiff, reduceIte]
        exact a1
      · rw [decide_eq_true h4] at pp
        have q1 := mo_z18 q (Z 18)
        obtain ⟨h', Z', l1', a1, a2, a3, a4, a5⟩ := ih _ _ l2 l3 (by omega) q1
        rw [va_up_self, va_up_ne _ _ (show 17 ≠ 18 by decide)] at a4
        refine ⟨h', Z', l1', ?_, a2, (zT_up Z _).tr a3, by rw [if_neg (fun z => h4 z.2)]; exact a4, (xFr_mo _ _ _ _).tr a5⟩
        rw [u_X8_find_82]
        simp only [u_X8_find_0, u_X8_find_1, u_X8_find_2, u_X8_find_5, u_X8_find_6, u_X8_find_7, u_X8_find_8, u_X8_find_10, u_X8_find_13, u_X8_find_14, u_X8_find_15, u_X8_find_16, u_X8_find_18, u_X8_find_21, u_X8_find_22, u_X8_find_23, u_X8_find_24, u_X8_find_27, u_X8_find_28, u_X8_find_29, u_X8_find_30, u_X8_find_33, u_X8_find_35, u_X8_find_36, u_X8_find_39, u_X8_find_40, u_X8_find_41, u_X8_find_44, u_X8_find_47, u_X8_find_48, u_X8_find_49, u_X8_find_52, u_X8_find_53, u_X8_find_54, u_X8_find_57, u_X8_find_58, u_X8_find_59, u_X8_find_62, u_X8_find_65, u_X8_find_68, u_X8_find_71, u_X8_find_74, u_X8_find_75, u_X8_find_76, u_X8_find_79, u_X8_find_81, u_X8_find_83, u_X8_find_85, u_X8_find_88, u_X8_find_89, u_X8_find_90, u_X8_find_93, u_X8_find_96, u_X8_find_97, u_X8_find_98, u_X8_find_101, u_X8_find_104, u_X8_find_105, u_X8_find_108, u_X8_find_109, u_X8_find_112, u_X8_find_115, u_X8_find_118, u_X8_find_123, u_X8_find_124, u_X8_find_125, u_X8_find_127, u_X8_find_130, u_X8_find_131, u_X8_find_134, u_X8_find_137, u_X8_find_138, u_X8_find_139, u_X8_find_142, u_X8_find_145, u_X8_find_146, u_X8_find_147, u_X8_find_150, u_X8_find_151, u_X8_find_154, u_X8_find_157, u_X8_find_158, u_X8_find_159, u_X8_find_162, u_X8_find_163, u_X8_find_166, u_X8_find_169, u_X8_find_170, u_X8_find_173, u_X8_find_174, u_X8_find_175, u_X8_find_176, u_X8_find_177, u_X8_find_180, u_X8_find_181, u_X8_find_184, u_X8_find_185, u_X8_find_188, u_X8_find_191, u_X8_find_194, u_X8_find_197, h2, h3, q.ob, pp, b32_t, i10, ed, if_true, if_false, xgo_some, xgo_none, xgoI_none, xcat_n, xcat_i, xcat_r, xcat_z, List.length_nil, List.length_cons, List.getD_cons_zero, List.getD_cons_succ, List.set_cons_zero, List.set_cons_succ, Nat.zero_le, Nat.reduceAdd, Nat.reduceLeDiff, Nat.reduceEqDiff, reduceIte]
        exact a1
    · have q1 := mo_z18 q (Z 18)
      obtain ⟨h', Z', l1', a1, a2, a3, a4, a5⟩ := ih _ _ l2 l3 (by omega) q1
      rw [va_up_self, va_up_ne _ _ (show 17 ≠ 18 by decide)] at a4
      refine ⟨h', Z', l1', ?_, a2, (zT_up Z _).tr a3, by rw [if_neg (fun z => h3 (of_decide_eq_true z.1))]; exact a4, (xFr_mo _ _ _ _).tr a5⟩
      rw [u_X8_find_82]
      simp only [u_X8_find_0, u_X8_find_1, u_X8_find_2, u_X8_find_5, u_X8_find_6, u_X8_find_7, u_X8_find_8, u_X8_find_10, u_X8_find_13, u_X8_find_14, u_X8_find_15, u_X8_find_16, u_X8_find_18, u_X8_find_21, u_X8_find_22, u_X8_find_23, u_X8_find_24, u_X8_find_27, u_X8_find_28, u_X8_find_29, u_X8_find_30, u_X8_find_33, u_X8_find_35, u_X8_find_36, u_X8_find_39, u_X8_find_40, u_X8_find_41, u_X8_find_44, u_X8_find_47, u_X8_find_48, u_X8_find_49, u_X8_find_52, u_X8_find_53, u_X8_find_54, u_X8_find_57, u_X8_find_58, u_X8_find_59, u_X8_find_62, u_X8_find_65, u_X8_find_68, u_X8_find_71, u_X8_find_74, u_X8_find_75, u_X8_find_76, u_X8_find_79, u_X8_find_81, u_X8_find_83, u_X8_find_85, u_X8_find_88, u_X8_find_89, u_X8_find_90, u_X8_find_93, u_X8_find_96, u_X8_find_97, u_X8_find_98, u_X8_find_101, u_X8_find_104, u_X8_find_105, u_X8_find_108, u_X8_find_109, u_X8_find_112, u_X8_find_115, u_X8_find_118, u_X8_find_123, u_X8_find_124, u_X8_find_125, u_X8_find_127, u_X8_find_130, u_X8_find_131, u_X8_find_134, u_X8_find_137, u_X8_find_138, u_X8_find_139, u_X8_find_142, u_X8_find_145, u_X8_find_146, u_X8_find_147, u_X8_find_150, u_X8_find_151, u_X8_find_154, u_X8_find_157, u_X8_find_158, u_X8_find_159, u_X8_find_162, u_X8_find_163, u_X8_find_166, u_X8_find_169, u_X8_find_170, u_X8_find_173, u_X8_find_174, u_X8_find_175, u_X8_find_176, u_X8_find_177, u_X8_find_180, u_X8_find_181, u_X8_find_184, u_X8_find_185, u_X8_find_188, u_X8_find_191, u_X8_find_194, u_X8_find_197, h2, h3, q.ob, ed, if_false, xgo_some, xgo_none, xgoI_none, xcat_n, xcat_i, xcat_r, xcat_z, List.length_nil, List.length_cons, List.getD_cons_zero, List.getD_cons_succ, List.set_cons_zero, List.set_cons_succ, Nat.zero_le, Nat.reduceAdd, Nat.reduceLeDiff, Nat.reduceEqDiff, reduceIte]
      exact a1
theorem lp_find4 (r : rS (A 1) X) : ∀ (k i : Nat) (h : xH) (Z : Nat → Int32) (l2 l3 : Option Value), 8 ≤ i → i + k = 24 → isMo h m Z D A →
    ∃ h' Z', xf 124 124 [some (.ref m), some (.int (nI i)), l2, l3] [] h = some (.inl none, h') ∧ isMo h' m Z' D A ∧ zT Z Z' ∧ Z' 18 = mnB (decide (0 < Z 17)) X.2.1 (Z 15) (Z 16) i k (Z 18) ∧ xFr m (m + 10) h h' := by
  intro k
  induction k with
  | zero =>
    intro i h Z l2 l3 h8 hk q
    have h2 : ¬ nI i < 24 := nI_nlt (b := 24) (by omega) (by omega)
    refine ⟨h, Z, ?_, q, fun _ _ => rfl, rfl, xFr.rf⟩
    rw [u_X8_find_124]
    simp only [u_X8_find_125, u_X8_find_127, u_X8_find_197, h2, if_false, xgo_some, xgo_none, xgoI_none, xcat_n, xcat_i, xcat_r, xcat_z, List.length_nil, List.length_cons, List.getD_cons_zero, List.getD_cons_succ, List.set_cons_zero, List.set_cons_succ, Nat.zero_le, Nat.reduceAdd, Nat.reduceLeDiff, Nat.reduceEqDiff, reduceIte]
  | succ k ih =>
    intro i h Z l2 l3 h8 hk q
    have h2 : nI i < 24 := nI_lt (b := 24) (by omega) (by omega)
    have pp := m_isPart q r (nI i)
    rw [hasP_nI (by omega) (by omega)] at pp
    have q0 := mo_z18 q (Z 18)
    obtain ⟨g', Y', c1, c2, c3, c4, c5⟩ := ih (i + 1) _ _ (some (.int 0)) l3 (by omega) (by omega) q0
    rw [va_up_self, va_up_ne _ _ (show 17 ≠ 18 by decide), va_up_ne _ _ (show 15 ≠ 18 by decide), va_up_ne _ _ (show 16 ≠ 18 by decide)] at c4
    rw [mnB]
    by_cases h3 : 0 < Z 17
    · by_cases h4 : X.2.1.1 i = -1
      · rw [decide_eq_false (fun z => z h4)] at pp
        refine ⟨g', Y', ?_, c2, (zT_up Z _).tr c3, by rw [if_neg (fun z => z.2.1 h4)]; exact c4, (xFr_mo _ _ _ _).tr c5⟩
        rw [u_X8_find_124]
        simp only [u_X8_find_0, u_X8_find_1, u_X8_find_2, u_X8_find_5, u_X8_find_6, u_X8_find_7, u_X8_find_8, u_X8_find_10, u_X8_find_13, u_X8_find_14, u_X8_find_15, u_X8_find_16, u_X8_find_18, u_X8_find_21, u_X8_find_22, u_X8_find_23, u_X8_find_24, u_X8_find_27, u_X8_find_28, u_X8_find_29, u_X8_find_30, u_X8_find_33, u_X8_find_35, u_X8_find_36, u_X8_find_39, u_X8_find_40, u_X8_find_41, u_X8_find_44, u_X8_find_47, u_X8_find_48, u_X8_find_49, u_X8_find_52, u_X8_find_53, u_X8_find_54, u_X8_find_57, u_X8_find_58, u_X8_find_59, u_X8_find_62, u_X8_find_65, u_X8_find_68, u_X8_find_71, u_X8_find_74, u_X8_find_75, u_X8_find_76, u_X8_find_79, u_X8_find_81, u_X8_find_83, u_X8_find_85, u_X8_find_88, u_X8_find_89, u_X8_find_90, u_X8_find_93, u_X8_find_96, u_X8_find_97, u_X8_find_98, u_X8_find_101, u_X8_find_104, u_X8_find_105, u_X8_find_108, u_X8_find_109, u_X8_find_112, u_X8_find_115, u_X8_find_118, u_X8_find_123, u_X8_find_125, u_X8_find_127, u_X8_find_130, u_X8_find_131, u_X8_find_134, u_X8_find_137, u_X8_find_138, u_X8_find_139, u_X8_find_142, u_X8_find_145, u_X8_find_146, u_X8_find_147, u_X8_find_150, u_X8_find_151, u_X8_find_154, u_X8_find_157, u_X8_find_158, u_X8_find_159, u_X8_find_162, u_X8_find_163, u_X8_find_166, u_X8_find_169, u_X8_find_170, u_X8_find_173, u_X8_find_174, u_X8_find_175, u_X8_find_176, u_X8_find_177, u_X8_find_180, u_X8_find_181, u_X8_find_184, u_X8_find_185, u_X8_find_188, u_X8_find_191, u_X8_find_194, u_X8_find_197, h2, h3, q.ob, pp, b32_f, nI_of1, if_true, true_or, xgo_some, xgo_none, xgoI_none, xcat_n, xcat_i, xcat_r, xcat_z, List.length_nil, List.length_cons, List.getD_cons_zero, List.getD_cons_succ, List.set_cons_zero, List.set_cons_succ, Nat.zero_le, Nat.reduceAdd, Nat.reduceLeDiff, Nat.reduceEqDiff, reduceIte]
        exact c1
      · rw [decide_eq_true h4] at pp
        have p1 := m_first q r h8 (by omega) h4
        have p2 := m_second q r h8 (by omega) h4
        by_cases h5 : X.2.1.1 i = Z 15
        · by_cases h6 : X.2.1.2.1 i = Z 16
          · have q1 := mo_z18 q (nI i)
            obtain ⟨h', Z', a1, a2, a3, a4, a5⟩ := ih (i + 1) _ _ (some (.int 1)) l3 (by omega) (by omega) q1
            rw [va_up_self, va_up_ne _ _ (show 17 ≠ 18 by decide), va_up_ne _ _ (show 15 ≠ 18 by decide), va_up_ne _ _ (show 16 ≠ 18 by decide)] at a4
            refine ⟨h', Z', ?_, a2, (zT_up Z _).tr a3, by rw [if_pos ⟨decide_eq_true h3, h4, h5, h6⟩]; exact a4, (xFr_mo _ _ _ _).tr a5⟩
            rw [u_X8_find_124]
            simp only [u_X8_find_0, u_X8_find_1, u_X8_find_2, u_X8_find_5, u_X8_find_6, u_X8_find_7, u_X8_find_8, u_X8_find_10, u_X8_find_13, u_X8_find_14, u_X8_find_15, u_X8_find_16, u_X8_find_18, u_X8_find_21, u_X8_find_22, u_X8_find_23, u_X8_find_24, u_X8_find_27, u_X8_find_28, u_X8_find_29, u_X8_find_30, u_X8_find_33, u_X8_find_35, u_X8_find_36, u_X8_find_39, u_X8_find_40, u_X8_find_41, u_X8_find_44, u_X8_find_47, u_X8_find_48, u_X8_find_49, u_X8_find_52, u_X8_find_53, u_X8_find_54, u_X8_find_57, u_X8_find_58, u_X8_find_59, u_X8_find_62, u_X8_find_65, u_X8_find_68, u_X8_find_71, u_X8_find_74, u_X8_find_75, u_X8_find_76, u_X8_find_79, u_X8_find_81, u_X8_find_83, u_X8_find_85, u_X8_find_88, u_X8_find_89, u_X8_find_90, u_X8_find_93, u_X8_find_96, u_X8_find_97, u_X8_find_98, u_X8_find_101, u_X8_find_104, u_X8_find_105, u_X8_find_108, u_X8_find_109, u_X8_find_112, u_X8_find_115, u_X8_find_118, u_X8_find_123, u_X8_find_125, u_X8_find_127, u_X8_find_130, u_X8_find_131, u_X8_find_134, u_X8_find_137, u_X8_find_138, u_X8_find_139, u_X8_find_142, u_X8_find_145, u_X8_find_146, u_X8_find_147, u_X8_find_150, u_X8_find_151, u_X8_find_154, u_X8_find_157, u_X8_find_158, u_X8_find_159, u_X8_find_162, u_X8_find_163, u_X8_find_166, u_X8_find_169, u_X8_find_170, u_X8_find_173, u_X8_find_174, u_X8_find_175, u_X8_find_176, u_X8_find_177, u_X8_find_180, u_X8_find_181, u_X8_find_184, u_X8_find_185, u_X8_find_188, u_X8_find_191, u_X8_find_194, u_X8_find_197, h2, h3, q.ob, pp, p1, p2, h5, h6, b32_t, i10, nI_of1, if_true, if_false, or_true, xgo_some, xgo_none, xgoI_none, xcat_n, xcat_i, xcat_r, xcat_z, List.length_nil, List.length_cons, List.getD_cons_zero, List.getD_cons_succ, List.set_cons_zero, List.set_cons_succ, Nat.zero_le, Nat.reduceAdd, Nat.reduceLeDiff, Nat.reduceEqDiff, reduceIte]
            exact a1
          · refine ⟨g', Y', ?_, c2, (zT_up Z _).tr c3, by rw [if_neg (fun z => h6 z.2.2.2)]; exact c4, (xFr_mo _ _ _ _).tr c5⟩
            rw [u_X8_find_124]
            simp only [u_X8_find_0, u_X8_find_1, u_X8_find_2, u_X8_find_5, u_X8_find_6, u_X8_find_7, u_X8_find_8, u_X8_find_10, u_X8_find_13, u_X8_find_14, u_X8_find_15, u_X8_find_16, u_X8_find_18, u_X8_find_21, u_X8_find_22, u_X8_find_23, u_X8_find_24, u_X8_find_27, u_X8_find_28, u_X8_find_29, u_X8_find_30, u_X8_find_33, u_X8_find_35, u_X8_find_36, u_X8_find_39, u_X8_find_40, u_X8_find_41, u_X8_find_44, u_X8_find_47, u_X8_find_48, u_X8_find_49, u_X8_find_52, u_X8_find_53, u_X8_find_54, u_X8_find_57, u_X8_find_58, u_X8_find_59, u_X8_find_62, u_X8_find_65, u_X8_find_68, u_X8_find_71, u_X8_find_74, u_X8_find_75, u_X8_find_76, u_X8_find_79, u_X8_find_81, u_X8_find_83, u_X8_find_85, u_X8_find_88, u_X8_find_89, u_X8_find_90, u_X8_find_93, u_X8_find_96, u_X8_find_97, u_X8_find_98, u_X8_find_101, u_X8_find_104, u_X8_find_105, u_X8_find_108, u_X8_find_109, u_X8_find_112, u_X8_find_115, u_X8_find_118, u_X8_find_123, u_X8_find_125, u_X8_find_127, u_X8_find_130, u_X8_find_131, u_X8_find_134, u_X8_find_137, u_X8_find_138, u_X8_find_139, u_X8_find_142, u_X8_find_145, u_X8_find_146, u_X8_find_147, u_X8_find_150, u_X8_find_151, u_X8_find_154, u_X8_find_157, u_X8_find_158, u_X8_find_159, u_X8_find_162, u_X8_find_163, u_X8_find_166, u_X8_find_169, u_X8_find_170, u_X8_find_173, u_X8_find_174, u_X8_find_175, u_X8_find_176, u_X8_find_177, u_X8_find_180, u_X8_find_181, u_X8_find_184, u_X8_find_185, u_X8_find_188, u_X8_find_191, u_X8_find_194, u_X8_find_197, h2, h3, q.ob, pp, p1, p2, h5, h6, b32_t, i10, nI_of1, if_true, if_false, true_or, xgo_some, xgo_none, xgoI_none, xcat_n, xcat_i, xcat_r, xcat_z, List.length_nil, List.length_cons, List.getD_cons_zero, List.getD_cons_succ, List.set_cons_zero, List.set_cons_succ, Nat.zero_le, Nat.reduceAdd, Nat.reduceLeDiff, Nat.reduceEqDiff, reduceIte]
            exact c1
        · refine ⟨g', Y', ?_, c2, (zT_up Z _).tr c3, by rw [if_neg (fun z => h5 z.2.2.1)]; exact c4, (xFr_mo _ _ _ _).tr c5⟩
          rw [u_X8_find_124]
          simp only [u_X8_find_0, u_X8_find_1, u_X8_find_2, u_X8_find_5, u_X8_find_6, u_X8_find_7, u_X8_find_8, u_X8_find_10, u_X8_find_13, u_X8_find_14, u_X8_find_15, u_X8_find_16, u_X8_find_18, u_X8_find_21, u_X8_find_22, u_X8_find_23, u_X8_find_24, u_X8_find_27, u_X8_find_28, u_X8_find_29, u_X8_find_30, u_X8_find_33, u_X8_find_35, u_X8_find_36, u_X8_find_39, u_X8_find_40, u_X8_find_41, u_X8_find_44, u_X8_find_47, u_X8_find_48, u_X8_find_49, u_X8_find_52, u_X8_find_53, u_X8_find_54, u_X8_find_57, u_X8_find_58, u_X8_find_59, u_X8_find_62, u_X8_find_65, u_X8_find_68, u_X8_find_71, u_X8_find_74, u_X8_find_75, u_X8_find_76, u_X8_find_79, u_X8_find_81, u_X8_find_83, u_X8_find_85, u_X8_find_88, u_X8_find_89, u_X8_find_90, u_X8_find_93, u_X8_find_96, u_X8_find_97, u_X8_find_98, u_X8_find_101, u_X8_find_104, u_X8_find_105, u_X8_find_108, u_X8_find_109, u_X8_find_112, u_X8_find_115, u_X8_find_118, u_X8_find_123, u_X8_find_125, u_X8_find_127, u_X8_find_130, u_X8_find_131, u_X8_find_134, u_X8_find_137, u_X8_find_138, u_X8_find_139, u_X8_find_142, u_X8_find_145, u_X8_find_146, u_X8_find_147, u_X8_find_150, u_X8_find_151, u_X8_find_154, u_X8_find_157, u_X8_find_158, u_X8_find_159, u_X8_find_162, u_X8_find_163, u_X8_find_166, u_X8_find_169, u_X8_find_170, u_X8_find_173, u_X8_find_174, u_X8_find_175, u_X8_find_176, u_X8_find_177, u_X8_find_180, u_X8_find_181, u_X8_find_184, u_X8_find_185, u_X8_find_188, u_X8_find_191, u_X8_find_194, u_X8_find_197, h2, h3, q.ob, pp, p1, h5, b32_t, i10, nI_of1, if_true, if_false, true_or, xgo_some, xgo_none, xgoI_none, xcat_n, xcat_i, xcat_r, xcat_z, List.length_nil, List.length_cons, List.getD_cons_zero, List.getD_cons_succ, List.set_cons_zero, List.set_cons_succ, Nat.zero_le, Nat.reduceAdd, Nat.reduceLeDiff, Nat.reduceEqDiff, reduceIte]
          exact c1
    · refine ⟨g', Y', ?_, c2, (zT_up Z _).tr c3, by rw [if_neg (fun z => h3 (of_decide_eq_true z.1))]; exact c4, (xFr_mo _ _ _ _).tr c5⟩
      rw [u_X8_find_124]
      simp only [u_X8_find_0, u_X8_find_1, u_X8_find_2, u_X8_find_5, u_X8_find_6, u_X8_find_7, u_X8_find_8, u_X8_find_10, u_X8_find_13, u_X8_find_14, u_X8_find_15, u_X8_find_16, u_X8_find_18, u_X8_find_21, u_X8_find_22, u_X8_find_23, u_X8_find_24, u_X8_find_27, u_X8_find_28, u_X8_find_29, u_X8_find_30, u_X8_find_33, u_X8_find_35, u_X8_find_36, u_X8_find_39, u_X8_find_40, u_X8_find_41, u_X8_find_44, u_X8_find_47, u_X8_find_48, u_X8_find_49, u_X8_find_52, u_X8_find_53, u_X8_find_54, u_X8_find_57, u_X8_find_58, u_X8_find_59, u_X8_find_62, u_X8_find_65, u_X8_find_68, u_X8_find_71, u_X8_find_74, u_X8_find_75, u_X8_find_76, u_X8_find_79, u_X8_find_81, u_X8_find_83, u_X8_find_85, u_X8_find_88, u_X8_find_89, u_X8_find_90, u_X8_find_93, u_X8_find_96, u_X8_find_97, u_X8_find_98, u_X8_find_101, u_X8_find_104, u_X8_find_105, u_X8_find_108, u_X8_find_109, u_X8_find_112, u_X8_find_115, u_X8_find_118, u_X8_find_123, u_X8_find_125, u_X8_find_127, u_X8_find_130, u_X8_find_131, u_X8_find_134, u_X8_find_137, u_X8_find_138, u_X8_find_139, u_X8_find_142, u_X8_find_145, u_X8_find_146, u_X8_find_147, u_X8_find_150, u_X8_find_151, u_X8_find_154, u_X8_find_157, u_X8_find_158, u_X8_find_159, u_X8_find_162, u_X8_find_163, u_X8_find_166, u_X8_find_169, u_X8_find_170, u_X8_find_173, u_X8_find_174, u_X8_find_175, u_X8_find_176, u_X8_find_177, u_X8_find_180, u_X8_find_181, u_X8_find_184, u_X8_find_185, u_X8_find_188, u_X8_find_191, u_X8_find_194, u_X8_find_197, h2, h3, q.ob, nI_of1, if_true, if_false, true_or, xgo_some, xgo_none, xgoI_none, xcat_n, xcat_i, xcat_r, xcat_z, List.length_nil, List.length_cons, List.getD_cons_zero, List.getD_cons_succ, List.set_cons_zero, List.set_cons_succ, Nat.zero_le, Nat.reduceAdd, Nat.reduceLeDiff, Nat.reduceEqDiff, reduceIte]
      exact c1
/-- what the model finds: times, first, second, and the name -/
def mfR (L : List Int32) (o x0 y0 : Int32) : Int32 × Int32 × Int32 := mfO L o 0 24 (0, x0, y0)
def mfN (N : xNs) (S : Int32 × Int32 × Int32) : Int32 := mnB (decide (0 < S.1)) N S.2.1 S.2.2 8 16 (mnA (decide (0 < S.1)) N 16 (-1))
theorem m_find {Z : Nat → Int32} (q : isMo h m Z D A) (r : rS (A 1) X) : ∃ h' Z', xev 124 [.ref m] h = some (.inl none, h') ∧ isMo h' m Z' D A ∧ zE Z Z' ∧ zS Z' (mfR X.1 X.2.2.1 (Z 15) (Z 16)) ∧ Z' 18 = mfN X.2.1 (mfR X.1 X.2.2.1 (Z 15) (Z 16)) ∧ xFr m (m + 10) h h' := by
  have q0 := mo_z17 q 0
  obtain ⟨h1, Z1, l2, l3, a1, a2, a3, a4, a5⟩ := lp_find2 r 24 0 _ _ (0, Z 15, Z 16) none none (by omega) q0 ⟨va_up_self _ _ _, va_up_ne _ _ (by decide), va_up_ne _ _ (by decide)⟩
  have q1 := mo_z18 a2 (-1)
  obtain ⟨h2, Z2, l1', b1, b2, b3, b4, b5⟩ := lp_find3 r 16 _ _ l2 l3 (Nat.le_refl _) q1
  rw [va_up_self, va_up_ne _ _ (show 17 ≠ 18 by decide)] at b4
  obtain ⟨h3, Z3, c1, c2, c3, c4, c5⟩ := lp_find4 r 16 8 _ _ l2 l3 (by omega) (by omega) b2
  have e17 : Z2 17 = Z1 17 := (b3 17 (by decide)).trans (va_up_ne _ _ (by decide))
  have e15 : Z2 15 = Z1 15 := (b3 15 (by decide)).trans (va_up_ne _ _ (by decide))
  have e16 : Z2 16 = Z1 16 := (b3 16 (by decide)).trans (va_up_ne _ _ (by decide))
  refine ⟨h3, Z3, ?_, c2, ?_, ?_, ?_, ((((xFr_mo _ _ _ _).tr a5).tr (xFr_mo _ _ _ _)).tr b5).tr c5⟩
  · rw [e_X8_find]
    simp only [u_X8_find_0, u_X8_find_1, u_X8_find_2, u_X8_find_5, u_X8_find_6, q.ob, xgo_some, xgo_none, xgoI_none, xcat_n, xcat_i, xcat_r, xcat_z, List.length_nil, List.length_cons, List.getD_cons_zero, List.getD_cons_succ, List.set_cons_zero, List.set_cons_succ, Nat.zero_le, Nat.reduceAdd, Nat.reduceLeDiff, Nat.reduceEqDiff, reduceIte]
    rw [show (0 : Int32) = nI 0 from rfl]
    rw [show (nI 0 : Int32) = 0 from rfl] at a1 ⊢
    rw [a1, u_X8_find_74]
    cases l2 <;> simp only [u_X8_find_75, u_X8_find_76, u_X8_find_79, u_X8_find_81, a2.ob, xgo_some, xgo_none, xgoI_none, xcat_n, xcat_i, xcat_r, xcat_z, List.length_nil, List.length_cons, List.getD_cons_zero, List.getD_cons_succ, List.set_cons_zero, List.set_cons_succ, Nat.zero_le, Nat.reduceAdd, Nat.reduceLeDiff, Nat.reduceEqDiff, reduceIte]
    all_goals
      rw [show (23 : Int32) = nI (8 + 16) - 1 by decide, b1, u_X8_find_121]
      simp only [u_X8_find_123, xgo_some, xgo_none, xgoI_none, xcat_n, xcat_i, xcat_r, xcat_z, List.length_nil, List.length_cons, List.getD_cons_zero, List.getD_cons_succ, List.set_cons_zero, List.set_cons_succ, Nat.zero_le, Nat.reduceAdd, Nat.reduceLeDiff, Nat.reduceEqDiff, reduceIte]
      exact c1
  · intro j j1 j2 j3 j4
    rw [c3 j j4, b3 j j4, va_up_ne _ _ j4, a3 j j1 j2 j3 j4, va_up_ne _ _ j3]
  · exact ⟨by rw [c3 17 (by decide), e17]; exact a4.1, by rw [c3 15 (by decide), e15]; exact a4.2.1, by rw [c3 16 (by decide), e16]; exact a4.2.2⟩
  · rw [c4, b4, e17, e15, e16, a4.1, a4.2.1, a4.2.2]
    rfl
end FJ
