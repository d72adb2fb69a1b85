/-! The model: a step of naming. -/
section SP
variable {m : Nat} {Z : Nat → Int32} {D : Int64}
theorem gd_sn1 {O : List Int32} {v : Int32} {j : Nat} (hj : j < O.length) : gd (O ++ [v]) j = gd O j := by
  unfold gd
  rw [List.getD_eq_getElem?_getD, List.getElem?_append_left hj, List.getD_eq_getElem?_getD]
theorem gd_sn2 (O : List Int32) (v : Int32) : gd (O ++ [v]) O.length = v := by
  unfold gd
  rw [List.getD_eq_getElem?_getD, List.getElem?_append_right (Nat.le_refl _), Nat.sub_self]
  rfl
theorem lp_step {L : List Int32} (hL : L.length ≤ 64) : ∀ (j k i : Nat) (O : List Int32) (h : xH) (A : Nat → Nat → Int32) (l3 : Option Value), k ≤ j → i + k = L.length → O.length ≤ i → isMo h m Z D A → A 1 0 = nI L.length → (∀ y, y < O.length → A 1 (1 + y) = gd O y) → (∀ y, i ≤ y → y < L.length → A 1 (1 + y) = gd L y) → (l3 = none ∨ ∃ w, l3 = some (.int w)) →
    ∃ h' f l1 l2, xf 125 72 [some (.ref m), some (.int (nI O.length)), some (.int (nI i)), l3] [] h = xf 125 177 [some (.ref m), some (.int (nI (O ++ repI (Z 15) (Z 16) (Z 18) (L.drop i)).length)), l1, l2] [] h' ∧ isMo h' m Z D (va_up A 1 f) ∧ (∀ y, y < (O ++ repI (Z 15) (Z 16) (Z 18) (L.drop i)).length → f (1 + y) = gd (O ++ repI (Z 15) (Z 16) (Z 18) (L.drop i)) y) ∧ f 0 = A 1 0 ∧ (∀ y, 65 ≤ y → f y = A 1 y) ∧ xFr m (m + 10) h h' := by
  intro j
  induction j with
  | zero =>
    intro k i O h A l3 hj hk hO q h0 h1 h2 _
    have n2 : ¬ nI i < nI L.length := nI_nlt (by omega) (by omega)
    rw [List.drop_of_length_le (show L.length ≤ i by omega), show repI (Z 15) (Z 16) (Z 18) [] = [] from rfl, List.append_nil]
    refine ⟨h, A 1, some (.int (nI i)), l3, ?_, by rw [va_up_eta]; exact q, h1, rfl, fun _ _ => rfl, xFr.rf⟩
    rw [u_X8_step_72]
    simp only [u_X8_step_0, u_X8_step_1, u_X8_step_4, u_X8_step_5, u_X8_step_8, u_X8_step_9, u_X8_step_12, u_X8_step_13, u_X8_step_14, u_X8_step_15, u_X8_step_18, u_X8_step_20, u_X8_step_21, u_X8_step_24, u_X8_step_25, u_X8_step_27, u_X8_step_28, u_X8_step_29, u_X8_step_30, u_X8_step_31, u_X8_step_34, u_X8_step_36, u_X8_step_37, u_X8_step_40, u_X8_step_41, u_X8_step_43, u_X8_step_44, u_X8_step_45, u_X8_step_48, u_X8_step_49, u_X8_step_50, u_X8_step_53, u_X8_step_55, u_X8_step_56, u_X8_step_59, u_X8_step_60, u_X8_step_62, u_X8_step_63, u_X8_step_64, u_X8_step_67, u_X8_step_68, u_X8_step_69, u_X8_step_70, u_X8_step_71, u_X8_step_73, u_X8_step_74, u_X8_step_77, u_X8_step_78, u_X8_step_79, u_X8_step_82, u_X8_step_83, u_X8_step_84, u_X8_step_85, u_X8_step_86, u_X8_step_89, u_X8_step_90, u_X8_step_91, u_X8_step_94, u_X8_step_95, u_X8_step_98, u_X8_step_99, u_X8_step_100, u_X8_step_101, u_X8_step_102, u_X8_step_103, u_X8_step_106, u_X8_step_109, u_X8_step_110, u_X8_step_113, u_X8_step_114, u_X8_step_115, u_X8_step_116, u_X8_step_117, u_X8_step_118, u_X8_step_119, u_X8_step_120, u_X8_step_123, u_X8_step_126, u_X8_step_127, u_X8_step_130, u_X8_step_131, u_X8_step_132, u_X8_step_133, u_X8_step_136, u_X8_step_137, u_X8_step_138, u_X8_step_139, u_X8_step_140, u_X8_step_143, u_X8_step_144, u_X8_step_147, u_X8_step_150, u_X8_step_151, u_X8_step_154, u_X8_step_155, u_X8_step_156, u_X8_step_157, u_X8_step_158, u_X8_step_159, u_X8_step_162, u_X8_step_163, u_X8_step_164, u_X8_step_167, u_X8_step_168, u_X8_step_171, u_X8_step_172, u_X8_step_173, u_X8_step_174, u_X8_step_178, u_X8_step_181, u_X8_step_182, u_X8_step_183, u_X8_step_184, u_X8_step_185, u_X8_step_188, u_X8_step_190, u_X8_step_191, u_X8_step_192, u_X8_step_193, u_X8_step_194, u_X8_step_195, u_X8_step_196, u_X8_step_199, q.ob, q.a1, x0117, c00, h0, n2, if_false, xgo_some, xgo_none, xgoI_none, xcat_n, xcat_i, xcat_r, xcat_z, List.length_nil, List.length_cons, List.getD_cons_zero, List.getD_cons_succ, List.set_cons_zero, List.set_cons_succ, Nat.zero_le, Nat.reduceAdd, Nat.reduceLeDiff, Nat.reduceEqDiff, reduceIte]
  | succ j ih =>
    intro k i O h A l3 hj hk hO q h0 h1 h2 hl3
    by_cases hi : i < L.length
    · have n2 : nI i < nI L.length := nI_lt (by omega) (by omega)
      have hx : xix (nI (1 + i)) 117 := xix_nI (by omega) (by decide)
      have hxo : xix (nI (1 + O.length)) 117 := xix_nI (by omega) (by decide)
      have es := h2 i (Nat.le_refl _) hi
      have e2 : nI i + 2 = nI (i + 2) := nI_add i 2
      have wr : ∀ (v : Int32), isMo (xsi h (m + 1) (1 + O.length) v) m Z D (va_up A 1 (va_up (A 1) (1 + O.length) v)) := fun v => mo_w q (k := 1) (by decide) (by decide) _ v
      have w0 : ∀ (v : Int32), (va_up A 1 (va_up (A 1) (1 + O.length) v)) 1 0 = nI L.length := fun v => by rw [va_up_self, va_up_ne _ _ (by omega)]; exact h0
      have w1 : ∀ (v : Int32) y, y < (O ++ [v]).length → (va_up A 1 (va_up (A 1) (1 + O.length) v)) 1 (1 + y) = gd (O ++ [v]) y := by
        intro v y hy
        rw [List.length_append, List.length_singleton] at hy
        rw [va_up_self]
        by_cases e : y = O.length
        · rw [e, va_up_self, gd_sn2]
        · rw [va_up_ne _ _ (by omega), gd_sn1 (by omega)]; exact h1 y (by omega)
      have w2 : ∀ (v : Int32) i', i + 1 ≤ i' → ∀ y, i' ≤ y → y < L.length → (va_up A 1 (va_up (A 1) (1 + O.length) v)) 1 (1 + y) = gd L y := by
        intro v i' hi' y y1 y2
        rw [va_up_self, va_up_ne _ _ (by omega)]
        exact h2 y (by omega) y2
      have fin : ∀ (v : Int32) (i' : Nat) (l3' : Option Value), i + 1 ≤ i' → i' ≤ L.length → L.length - i' ≤ j → (l3' = none ∨ ∃ w, l3' = some (.int w)) → ∃ h' f l1 l2, xf 125 72 [some (.ref m), some (.int (nI (O.length + 1))), some (.int (nI i')), l3'] [] (xsi h (m + 1) (1 + O.length) v) = xf 125 177 [some (.ref m), some (.int (nI (O ++ v :: repI (Z 15) (Z 16) (Z 18) (L.drop i')).length)), l1, l2] [] h' ∧ isMo h' m Z D (va_up A 1 f) ∧ (∀ y, y < (O ++ v :: repI (Z 15) (Z 16) (Z 18) (L.drop i')).length → f (1 + y) = gd (O ++ v :: repI (Z 15) (Z 16) (Z 18) (L.drop i')) y) ∧ f 0 = A 1 0 ∧ (∀ y, 65 ≤ y → f y = A 1 y) ∧ xFr m (m + 10) h h' := by
        intro v i' l3' g1 g2 g3 g4
        obtain ⟨h', f, l1, l2, a1, a2, a3, a4, a5, a6⟩ := ih (L.length - i') i' (O ++ [v]) _ _ l3' g3 (by omega) (by rw [List.length_append, List.length_singleton]; omega) (wr v) (w0 v) (w1 v) (w2 v i' g1) g4
        rw [List.length_append, List.length_singleton] at a1
        have ea : O ++ [v] ++ repI (Z 15) (Z 16) (Z 18) (L.drop i') = O ++ v :: repI (Z 15) (Z 16) (Z 18) (L.drop i') := by rw [List.append_assoc]; rfl
        rw [ea] at a1 a3
        rw [va_up_up] at a2
        rw [va_up_self] at a4
        refine ⟨h', f, l1, l2, a1, a2, a3, ?_, ?_, (xFr_si _ _ _ _ _ (by decide)).tr a6⟩
        · rw [a4, va_up_ne _ _ (by omega)]
        · intro y hy
          rw [a5 y hy, va_up_self, va_up_ne _ _ (by omega)]
      by_cases c1 : i + 1 < L.length
      · have n3 : nI (i + 1) < nI L.length := nI_lt (by omega) (by omega)
        have hx2 : xix (nI (1 + i + 1)) 117 := xix_nI (by omega) (by decide)
        have es2 := h2 (i + 1) (by omega) c1
        rw [← Nat.add_assoc] at es2
        have er : repI (Z 15) (Z 16) (Z 18) (L.drop i) = if gd L i = Z 15 ∧ gd L (i + 1) = Z 16 then Z 18 :: repI (Z 15) (Z 16) (Z 18) (L.drop (i + 2)) else gd L i :: repI (Z 15) (Z 16) (Z 18) (L.drop (i + 1)) := by
          rw [gd_drop hi, gd_drop c1, repI]
        by_cases c2 : gd L i = Z 15 ∧ gd L (i + 1) = Z 16
        · rw [er, if_pos c2]
          obtain ⟨d1, d2⟩ := c2
          obtain ⟨h', f, l1, l2, a1, a2⟩ := fin (Z 18) (i + 2) (some (.int 1)) (by omega) (by omega) (by omega) (Or.inr ⟨_, rfl⟩)
          refine ⟨h', f, l1, l2, ?_, a2⟩
          rw [u_X8_step_72]
          rcases hl3 with rfl | ⟨w, rfl⟩
          all_goals
            simp only [u_X8_step_0, u_X8_step_1, u_X8_step_4, u_X8_step_5, u_X8_step_8, u_X8_step_9, u_X8_step_12, u_X8_step_13, u_X8_step_14, u_X8_step_15, u_X8_step_18, u_X8_step_20, u_X8_step_21, u_X8_step_24, u_X8_step_25, u_X8_step_27, u_X8_step_28, u_X8_step_29, u_X8_step_30, u_X8_step_31, u_X8_step_34, u_X8_step_36, u_X8_step_37, u_X8_step_40, u_X8_step_41, u_X8_step_43, u_X8_step_44, u_X8_step_45, u_X8_step_48, u_X8_step_49, u_X8_step_50, u_X8_step_53, u_X8_step_55, u_X8_step_56, u_X8_step_59, u_X8_step_60, u_X8_step_62, u_X8_step_63, u_X8_step_64, u_X8_step_67, u_X8_step_68, u_X8_step_69, u_X8_step_70, u_X8_step_71, u_X8_step_73, u_X8_step_74, u_X8_step_77, u_X8_step_78, u_X8_step_79, u_X8_step_82, u_X8_step_83, u_X8_step_84, u_X8_step_85, u_X8_step_86, u_X8_step_89, u_X8_step_90, u_X8_step_91, u_X8_step_94, u_X8_step_95, u_X8_step_98, u_X8_step_99, u_X8_step_100, u_X8_step_101, u_X8_step_102, u_X8_step_103, u_X8_step_106, u_X8_step_109, u_X8_step_110, u_X8_step_113, u_X8_step_114, u_X8_step_115, u_X8_step_116, u_X8_step_117, u_X8_step_118, u_X8_step_119, u_X8_step_120, u_X8_step_123, u_X8_step_126, u_X8_step_127, u_X8_step_130, u_X8_step_131, u_X8_step_132, u_X8_step_133, u_X8_step_136, u_X8_step_137, u_X8_step_138, u_X8_step_139, u_X8_step_140, u_X8_step_143, u_X8_step_144, u_X8_step_147, u_X8_step_150, u_X8_step_151, u_X8_step_154, u_X8_step_155, u_X8_step_156, u_X8_step_157, u_X8_step_158, u_X8_step_159, u_X8_step_162, u_X8_step_163, u_X8_step_164, u_X8_step_167, u_X8_step_168, u_X8_step_171, u_X8_step_172, u_X8_step_173, u_X8_step_174, u_X8_step_178, u_X8_step_181, u_X8_step_182, u_X8_step_183, u_X8_step_184, u_X8_step_185, u_X8_step_188, u_X8_step_190, u_X8_step_191, u_X8_step_192, u_X8_step_193, u_X8_step_194, u_X8_step_195, u_X8_step_196, u_X8_step_199, q.ob, q.a1, x0117, c00, h0, n2, n3, nI_s1, nI_of1, hx, hx2, hxo, es, es2, d1, d2, i10, e2, nI_clamp (show 1 + i < 2 ^ 31 by omega), nI_clamp (show 1 + i + 1 < 2 ^ 31 by omega), nI_clamp (show 1 + O.length < 2 ^ 31 by omega), if_true, if_false, or_true, xgo_some, xgo_none, xgoI_none, xcat_n, xcat_i, xcat_r, xcat_z, List.length_nil, List.length_cons, List.getD_cons_zero, List.getD_cons_succ, List.set_cons_zero, List.set_cons_succ, Nat.zero_le, Nat.reduceAdd, Nat.reduceLeDiff, Nat.reduceEqDiff, reduceIte]
            exact a1
        · rw [er, if_neg c2]
          obtain ⟨h', f, l1, l2, a1, a2⟩ := fin (gd L i) (i + 1) (some (.int 0)) (by omega) (by omega) (by omega) (Or.inr ⟨_, rfl⟩)
          refine ⟨h', f, l1, l2, ?_, a2⟩
          rw [u_X8_step_72]
          by_cases d1 : gd L i = Z 15
          · have d2 : ¬ gd L (i + 1) = Z 16 := fun z => c2 ⟨d1, z⟩
            rw [d1] at es a1
            rcases hl3 with rfl | ⟨w, rfl⟩
            all_goals
              simp only [u_X8_step_0, u_X8_step_1, u_X8_step_4, u_X8_step_5, u_X8_step_8, u_X8_step_9, u_X8_step_12, u_X8_step_13, u_X8_step_14, u_X8_step_15, u_X8_step_18, u_X8_step_20, u_X8_step_21, u_X8_step_24, u_X8_step_25, u_X8_step_27, u_X8_step_28, u_X8_step_29, u_X8_step_30, u_X8_step_31, u_X8_step_34, u_X8_step_36, u_X8_step_37, u_X8_step_40, u_X8_step_41, u_X8_step_43, u_X8_step_44, u_X8_step_45, u_X8_step_48, u_X8_step_49, u_X8_step_50, u_X8_step_53, u_X8_step_55, u_X8_step_56, u_X8_step_59, u_X8_step_60, u_X8_step_62, u_X8_step_63, u_X8_step_64, u_X8_step_67, u_X8_step_68, u_X8_step_69, u_X8_step_70, u_X8_step_71, u_X8_step_73, u_X8_step_74, u_X8_step_77, u_X8_step_78, u_X8_step_79, u_X8_step_82, u_X8_step_83, u_X8_step_84, u_X8_step_85, u_X8_step_86, u_X8_step_89, u_X8_step_90, u_X8_step_91, u_X8_step_94, u_X8_step_95, u_X8_step_98, u_X8_step_99, u_X8_step_100, u_X8_step_101, u_X8_step_102, u_X8_step_103, u_X8_step_106, u_X8_step_109, u_X8_step_110, u_X8_step_113, u_X8_step_114, u_X8_step_115, u_X8_step_116, u_X8_step_117, u_X8_step_118, u_X8_step_119, u_X8_step_120, u_X8_step_123, u_X8_step_126, u_X8_step_127, u_X8_step_130, u_X8_step_131, u_X8_step_132, u_X8_step_133, u_X8_step_136, u_X8_step_137, u_X8_step_138, u_X8_step_139, u_X8_step_140, u_X8_step_143, u_X8_step_144, u_X8_step_147, u_X8_step_150, u_X8_step_151, u_X8_step_154, u_X8_step_155, u_X8_step_156, u_X8_step_157, u_X8_step_158, u_X8_step_159, u_X8_step_162, u_X8_step_163, u_X8_step_164, u_X8_step_167, u_X8_step_168, u_X8_step_171, u_X8_step_172, u_X8_step_173, u_X8_step_174, u_X8_step_178, u_X8_step_181, u_X8_step_182, u_X8_step_183, u_X8_step_184, u_X8_step_185, u_X8_step_188, u_X8_step_190, u_X8_step_191, u_X8_step_192, u_X8_step_193, u_X8_step_194, u_X8_step_195, u_X8_step_196, u_X8_step_199, q.ob, q.a1, x0117, c00, h0, n2, n3, nI_s1, nI_of1, hx, hx2, hxo, es, es2, d1, d2, i10, nI_clamp (show 1 + i < 2 ^ 31 by omega), nI_clamp (show 1 + i + 1 < 2 ^ 31 by omega), nI_clamp (show 1 + O.length < 2 ^ 31 by omega), if_true, if_false, true_or, xgo_some, xgo_none, xgoI_none, xcat_n, xcat_i, xcat_r, xcat_z, List.length_nil, List.length_cons, List.getD_cons_zero, List.getD_cons_succ, List.set_cons_zero, List.set_cons_succ, Nat.zero_le, Nat.reduceAdd, Nat.reduceLeDiff, Nat.reduceEqDiff, reduceIte]
              exact a1
          · rcases hl3 with rfl | ⟨w, rfl⟩
            all_goals
              simp only [u_X8_step_0, u_X8_step_1, u_X8_step_4, u_X8_step_5, u_X8_step_8, u_X8_step_9, u_X8_step_12, u_X8_step_13, u_X8_step_14, u_X8_step_15, u_X8_step_18, u_X8_step_20, u_X8_step_21, u_X8_step_24, u_X8_step_25, u_X8_step_27, u_X8_step_28, u_X8_step_29, u_X8_step_30, u_X8_step_31, u_X8_step_34, u_X8_step_36, u_X8_step_37, u_X8_step_40, u_X8_step_41, u_X8_step_43, u_X8_step_44, u_X8_step_45, u_X8_step_48, u_X8_step_49, u_X8_step_50, u_X8_step_53, u_X8_step_55, u_X8_step_56, u_X8_step_59, u_X8_step_60, u_X8_step_62, u_X8_step_63, u_X8_step_64, u_X8_step_67, u_X8_step_68, u_X8_step_69, u_X8_step_70, u_X8_step_71, u_X8_step_73, u_X8_step_74, u_X8_step_77, u_X8_step_78, u_X8_step_79, u_X8_step_82, u_X8_step_83, u_X8_step_84, u_X8_step_85, u_X8_step_86, u_X8_step_89, u_X8_step_90, u_X8_step_91, u_X8_step_94, u_X8_step_95, u_X8_step_98, u_X8_step_99, u_X8_step_100, u_X8_step_101, u_X8_step_102, u_X8_step_103, u_X8_step_106, u_X8_step_109, u_X8_step_110, u_X8_step_113, u_X8_step_114, u_X8_step_115, u_X8_step_116, u_X8_step_117, u_X8_step_118, u_X8_step_119, u_X8_step_120, u_X8_step_123, u_X8_step_126, u_X8_step_127, u_X8_step_130, u_X8_step_131, u_X8_step_132, u_X8_step_133, u_X8_step_136, u_X8_step_137, u_X8_step_138, u_X8_step_139, u_X8_step_140, u_X8_step_143, u_X8_step_144, u_X8_step_147, u_X8_step_150, u_X8_step_151, u_X8_step_154, u_X8_step_155, u_X8_step_156, u_X8_step_157, u_X8_step_158, u_X8_step_159, u_X8_step_162, u_X8_step_163, u_X8_step_164, u_X8_step_167, u_X8_step_168, u_X8_step_171, u_X8_step_172, u_X8_step_173, u_X8_step_174, u_X8_step_178, u_X8_step_181, u_X8_step_182, u_X8_step_183, u_X8_step_184, u_X8_step_185, u_X8_step_188, u_X8_step_190, u_X8_step_191, u_X8_step_192, u_X8_step_193, u_X8_step_194, u_X8_step_195, u_X8_step_196, u_X8_step_199, q.ob, q.a1, x0117, c00, h0, n2, n3, nI_s1, nI_of1, hx, hxo, es, d1, i10, nI_clamp (show 1 + i < 2 ^ 31 by omega), nI_clamp (show 1 + O.length < 2 ^ 31 by omega), if_true, if_false, true_or, xgo_some, xgo_none, xgoI_none, xcat_n, xcat_i, xcat_r, xcat_z, List.length_nil, List.length_cons, List.getD_cons_zero, List.getD_cons_succ, List.set_cons_zero, List.set_cons_succ, Nat.zero_le, Nat.reduceAdd, Nat.reduceLeDiff, Nat.reduceEqDiff, reduceIte]
              exact a1
      · have n3 : ¬ nI (i + 1) < nI L.length := nI_nlt (by omega) (by omega)
        have er : repI (Z 15) (Z 16) (Z 18) (L.drop i) = gd L i :: repI (Z 15) (Z 16) (Z 18) (L.drop (i + 1)) := by
          rw [gd_drop hi, List.drop_of_length_le (show L.length ≤ i + 1 by omega)]
          rfl
        rw [er]
        obtain ⟨h', f, l1, l2, a1, a2⟩ := fin (gd L i) (i + 1) (some (.int 0)) (by omega) (by omega) (by omega) (Or.inr ⟨_, rfl⟩)
        refine ⟨h', f, l1, l2, ?_, a2⟩
        rw [u_X8_step_72]
        rcases hl3 with rfl | ⟨w, rfl⟩
        all_goals
          simp only [u_X8_step_0, u_X8_step_1, u_X8_step_4, u_X8_step_5, u_X8_step_8, u_X8_step_9, u_X8_step_12, u_X8_step_13, u_X8_step_14, u_X8_step_15, u_X8_step_18, u_X8_step_20, u_X8_step_21, u_X8_step_24, u_X8_step_25, u_X8_step_27, u_X8_step_28, u_X8_step_29, u_X8_step_30, u_X8_step_31, u_X8_step_34, u_X8_step_36, u_X8_step_37, u_X8_step_40, u_X8_step_41, u_X8_step_43, u_X8_step_44, u_X8_step_45, u_X8_step_48, u_X8_step_49, u_X8_step_50, u_X8_step_53, u_X8_step_55, u_X8_step_56, u_X8_step_59, u_X8_step_60, u_X8_step_62, u_X8_step_63, u_X8_step_64, u_X8_step_67, u_X8_step_68, u_X8_step_69, u_X8_step_70, u_X8_step_71, u_X8_step_73, u_X8_step_74, u_X8_step_77, u_X8_step_78, u_X8_step_79, u_X8_step_82, u_X8_step_83, u_X8_step_84, u_X8_step_85, u_X8_step_86, u_X8_step_89, u_X8_step_90, u_X8_step_91, u_X8_step_94, u_X8_step_95, u_X8_step_98, u_X8_step_99, u_X8_step_100, u_X8_step_101, u_X8_step_102, u_X8_step_103, u_X8_step_106, u_X8_step_109, u_X8_step_110, u_X8_step_113, u_X8_step_114, u_X8_step_115, u_X8_step_116, u_X8_step_117, u_X8_step_118, u_X8_step_119, u_X8_step_120, u_X8_step_123, u_X8_step_126, u_X8_step_127, u_X8_step_130, u_X8_step_131, u_X8_step_132, u_X8_step_133, u_X8_step_136, u_X8_step_137, u_X8_step_138, u_X8_step_139, u_X8_step_140, u_X8_step_143, u_X8_step_144, u_X8_step_147, u_X8_step_150, u_X8_step_151, u_X8_step_154, u_X8_step_155, u_X8_step_156, u_X8_step_157, u_X8_step_158, u_X8_step_159, u_X8_step_162, u_X8_step_163, u_X8_step_164, u_X8_step_167, u_X8_step_168, u_X8_step_171, u_X8_step_172, u_X8_step_173, u_X8_step_174, u_X8_step_178, u_X8_step_181, u_X8_step_182, u_X8_step_183, u_X8_step_184, u_X8_step_185, u_X8_step_188, u_X8_step_190, u_X8_step_191, u_X8_step_192, u_X8_step_193, u_X8_step_194, u_X8_step_195, u_X8_step_196, u_X8_step_199, q.ob, q.a1, x0117, c00, h0, n2, n3, nI_s1, nI_of1, hx, hxo, es, i10, nI_clamp (show 1 + i < 2 ^ 31 by omega), nI_clamp (show 1 + O.length < 2 ^ 31 by omega), if_true, if_false, true_or, xgo_some, xgo_none, xgoI_none, xcat_n, xcat_i, xcat_r, xcat_z, List.length_nil, List.length_cons, List.getD_cons_zero, List.getD_cons_succ, List.set_cons_zero, List.set_cons_succ, Nat.zero_le, Nat.reduceAdd, Nat.reduceLeDiff, Nat.reduceEqDiff, reduceIte]
          exact a1
    · have n2 : ¬ nI i < nI L.length := nI_nlt (by omega) (by omega)
      rw [List.drop_of_length_le (show L.length ≤ i by omega), show repI (Z 15) (Z 16) (Z 18) [] = [] from rfl, List.append_nil]
      refine ⟨h, A 1, some (.int (nI i)), l3, ?_, by rw [va_up_eta]; exact q, h1, rfl, fun _ _ => rfl, xFr.rf⟩
      rw [u_X8_step_72]
      simp only [u_X8_step_0, u_X8_step_1, u_X8_step_4, u_X8_step_5, u_X8_step_8, u_X8_step_9, u_X8_step_12, u_X8_step_13, u_X8_step_14, u_X8_step_15, u_X8_step_18, u_X8_step_20, u_X8_step_21, u_X8_step_24, u_X8_step_25, u_X8_step_27, u_X8_step_28, u_X8_step_29, u_X8_step_30, u_X8_step_31, u_X8_step_34, u_X8_step_36, u_X8_step_37, u_X8_step_40, u_X8_step_41, u_X8_step_43, u_X8_step_44, u_X8_step_45, u_X8_step_48, u_X8_step_49, u_X8_step_50, u_X8_step_53, u_X8_step_55, u_X8_step_56, u_X8_step_59, u_X8_step_60, u_X8_step_62, u_X8_step_63, u_X8_step_64, u_X8_step_67, u_X8_step_68, u_X8_step_69, u_X8_step_70, u_X8_step_71, u_X8_step_73, u_X8_step_74, u_X8_step_77, u_X8_step_78, u_X8_step_79, u_X8_step_82, u_X8_step_83, u_X8_step_84, u_X8_step_85, u_X8_step_86, u_X8_step_89, u_X8_step_90, u_X8_step_91, u_X8_step_94, u_X8_step_95, u_X8_step_98, u_X8_step_99, u_X8_step_100, u_X8_step_101, u_X8_step_102, u_X8_step_103, u_X8_step_106, u_X8_step_109, u_X8_step_110, u_X8_step_113, u_X8_step_114, u_X8_step_115, u_X8_step_116, u_X8_step_117, u_X8_step_118, u_X8_step_119, u_X8_step_120, u_X8_step_123, u_X8_step_126, u_X8_step_127, u_X8_step_130, u_X8_step_131, u_X8_step_132, u_X8_step_133, u_X8_step_136, u_X8_step_137, u_X8_step_138, u_X8_step_139, u_X8_step_140, u_X8_step_143, u_X8_step_144, u_X8_step_147, u_X8_step_150, u_X8_step_151, u_X8_step_154, u_X8_step_155, u_X8_step_156, u_X8_step_157, u_X8_step_158, u_X8_step_159, u_X8_step_162, u_X8_step_163, u_X8_step_164, u_X8_step_167, u_X8_step_168, u_X8_step_171, u_X8_step_172, u_X8_step_173, u_X8_step_174, u_X8_step_178, u_X8_step_181, u_X8_step_182, u_X8_step_183, u_X8_step_184, u_X8_step_185, u_X8_step_188, u_X8_step_190, u_X8_step_191, u_X8_step_192, u_X8_step_193, u_X8_step_194, u_X8_step_195, u_X8_step_196, u_X8_step_199, q.ob, q.a1, x0117, c00, h0, n2, if_false, xgo_some, xgo_none, xgoI_none, xcat_n, xcat_i, xcat_r, xcat_z, List.length_nil, List.length_cons, List.getD_cons_zero, List.getD_cons_succ, List.set_cons_zero, List.set_cons_succ, Nat.zero_le, Nat.reduceAdd, Nat.reduceLeDiff, Nat.reduceEqDiff, reduceIte]
end SP
