/-! The model: the step walked. -/
section SR
variable {h : xH} {m : Nat} {Z : Nat → Int32} {D : Int64} {A : Nat → Nat → Int32}
def stX (X : xS) : xS := if (fdF X.1 X.2.1 X.2.2.1).2.2.2 = -1 then X else apF X (fdF X.1 X.2.1 X.2.2.1)
theorem m_step {X : xS} {o : Nat} (q : isMo h m Z D A) (r : rS (A 1) X) (hR : rOk X.1) (eo : X.2.2.1 = nI o) (ho : 1 ≤ o) (ho2 : o < 2 ^ 31) : ∃ h' Z' f, xev 125 [.ref m] h = some (.inl (some (.int (fdF X.1 X.2.1 X.2.2.1).2.2.2)), h') ∧ isMo h' m Z' D (va_up A 1 f) ∧ rS f (stX X) ∧ zE Z Z' ∧ xFr m (m + 10) h h' := by
  obtain ⟨h1, Z1, a1, a2, a3, a4, a5, a6⟩ := m_find q r
  have hl := r.2.1
  rw [eo] at a4 a5
  obtain ⟨f1, f2⟩ := mf_all hl hR X.2.1 ho ho2 (Z 15) (Z 16)
  rw [f1] at a5
  have ha : 0 < X.2.2.1 := by rw [eo, ← nI_0]; exact nI_lt ho ho2
  by_cases hg : fdG X.1 X.2.1 (nI o) = -1
  · have eF : fdF X.1 X.2.1 X.2.2.1 = (-1, -1, -1, -1) := by rw [eo]; exact if_pos hg
    have eS : stX X = X := by unfold stX; rw [eF]; exact if_pos rfl
    rw [eS, eF]
    rw [hg] at a5
    refine ⟨h1, Z1, A 1, ?_, by rw [va_up_eta]; exact a2, r, a3, a6⟩
    rw [e_X8_step]
    simp only [u_X8_step_0, u_X8_step_1, u_X8_step_4, u_X8_step_5, u_X8_step_8, u_X8_step_9, u_X8_step_12, u_X8_step_13, u_X8_step_14, u_X8_step_15, u_X8_step_18, u_X8_step_20, u_X8_step_21, u_X8_step_24, u_X8_step_25, u_X8_step_27, u_X8_step_28, u_X8_step_29, u_X8_step_30, u_X8_step_31, u_X8_step_34, u_X8_step_36, u_X8_step_37, u_X8_step_40, u_X8_step_41, u_X8_step_43, u_X8_step_44, u_X8_step_45, u_X8_step_48, u_X8_step_49, u_X8_step_50, u_X8_step_53, u_X8_step_55, u_X8_step_56, u_X8_step_59, u_X8_step_60, u_X8_step_62, u_X8_step_63, u_X8_step_64, u_X8_step_67, u_X8_step_68, u_X8_step_69, u_X8_step_70, u_X8_step_71, u_X8_step_73, u_X8_step_74, u_X8_step_77, u_X8_step_78, u_X8_step_79, u_X8_step_82, u_X8_step_83, u_X8_step_84, u_X8_step_85, u_X8_step_86, u_X8_step_89, u_X8_step_90, u_X8_step_91, u_X8_step_94, u_X8_step_95, u_X8_step_98, u_X8_step_99, u_X8_step_100, u_X8_step_101, u_X8_step_102, u_X8_step_103, u_X8_step_106, u_X8_step_109, u_X8_step_110, u_X8_step_113, u_X8_step_114, u_X8_step_115, u_X8_step_116, u_X8_step_117, u_X8_step_118, u_X8_step_119, u_X8_step_120, u_X8_step_123, u_X8_step_126, u_X8_step_127, u_X8_step_130, u_X8_step_131, u_X8_step_132, u_X8_step_133, u_X8_step_136, u_X8_step_137, u_X8_step_138, u_X8_step_139, u_X8_step_140, u_X8_step_143, u_X8_step_144, u_X8_step_147, u_X8_step_150, u_X8_step_151, u_X8_step_154, u_X8_step_155, u_X8_step_156, u_X8_step_157, u_X8_step_158, u_X8_step_159, u_X8_step_162, u_X8_step_163, u_X8_step_164, u_X8_step_167, u_X8_step_168, u_X8_step_171, u_X8_step_172, u_X8_step_173, u_X8_step_174, u_X8_step_178, u_X8_step_181, u_X8_step_182, u_X8_step_183, u_X8_step_184, u_X8_step_185, u_X8_step_188, u_X8_step_190, u_X8_step_191, u_X8_step_192, u_X8_step_193, u_X8_step_194, u_X8_step_195, u_X8_step_196, u_X8_step_199, a1, a2.ob, q.ob, a5, if_true, xgo_some, xgo_none, xgoI_none, xcat_n, xcat_i, xcat_r, xcat_z, List.length_nil, List.length_cons, List.getD_cons_zero, List.getD_cons_succ, List.set_cons_zero, List.set_cons_succ, Nat.zero_le, Nat.reduceAdd, Nat.reduceLeDiff, Nat.reduceEqDiff, reduceIte]
  · have eF0 : fdF X.1 X.2.1 X.2.2.1 = ((fdR X.1).1, (fdR X.1).2.1, (fdR X.1).2.2, fdG X.1 X.2.1 (nI o)) := by rw [eo]; exact if_neg hg
    rw [f2 hg] at a4
    rcases fdF_is (N := X.2.1) hR ha with e | ⟨x, y, t, b, e, b8, b24, hx, hy, hy1, _⟩
    · rw [eF0] at e
      exact absurd (congrArg (fun z => z.2.2.2) e) hg
    · have e' := eF0.symm.trans e
      have ex : (fdR X.1).1 = x := congrArg (fun z => z.1) e'
      have ey : (fdR X.1).2.1 = y := congrArg (fun z => z.2.1) e'
      have eb : fdG X.1 X.2.1 (nI o) = nI b := congrArg (fun z => z.2.2.2) e'
      have z15 : Z1 15 = x := a4.2.1.trans ex
      have z16 : Z1 16 = y := a4.2.2.trans ey
      have z18 : Z1 18 = nI b := a5.trans eb
      have hb1 : ¬ nI b = -1 := nI_nm1 (by omega)
      have hx1 : x ≠ -1 := by
        have := hR x hx
        rw [this.1]
        exact nI_nm1 (by omega)
      have hpr : X.2.1.1 b = -1 ∨ (X.2.1.1 b = x ∧ X.2.1.2.1 b = y) := by
        have e1 : fdG X.1 X.2.1 (nI o) = nmF X.2.1.1 X.2.1.2.1 (fdR X.1).1 (fdR X.1).2.1 16 (-1) := by
          unfold fdG
          by_cases h6 : (fdR X.1).2.2 < nI o
          · exact absurd (if_pos h6) hg
          · exact if_neg h6
        rw [ex, ey] at e1
        rcases nmF_pr X.2.1.1 X.2.1.2.1 x y 16 (-1) (Nat.le_refl _) with w | ⟨b', _, w2, w3, w4⟩
        · exact absurd (e1.trans w) hg
        · have : b' = b := (nI_eq (by omega) (by omega)).mp (w3.symm.trans (e1.symm.trans eb))
          rw [this] at w4
          exact w4
      have eS : stX X = apF X (x, y, t, nI b) := by unfold stX; rw [e]; exact if_neg hb1
      rw [eS, e]
      have q1 := mo_w a2 (k := 1) (by decide) (by decide) (57 + b) 1
      have q2 := mo_w q1 (k := 1) (by decide) (by decide) (73 + b) x
      rw [va_up_self, va_up_up] at q2
      have q3 := mo_w q2 (k := 1) (by decide) (by decide) (89 + b) y
      rw [va_up_self, va_up_up] at q3
      obtain ⟨F, eFF⟩ : ∃ F, F = va_up (va_up (va_up (A 1) (57 + b) 1) (73 + b) x) (89 + b) y := ⟨_, rfl⟩
      rw [← eFF] at q3
      have low : ∀ j, j < 65 → F j = A 1 j := by
        intro j hj
        rw [eFF, va_up_ne _ _ (by omega), va_up_ne _ _ (by omega), va_up_ne _ _ (by omega)]
      obtain ⟨h4, f, l1, l2, c1, c2, c3, c4, c5, c6⟩ := lp_step hl X.1.length X.1.length 0 [] _ _ none (Nat.le_refl _) (by omega) (Nat.zero_le _) q3 (by rw [va_up_self, low 0 (by omega)]; exact r.1) (fun y hy => absurd hy (Nat.not_lt_zero _)) (fun y _ hy => by rw [va_up_self, low (1 + y) (by omega)]; exact r.2.2.1 y hy) (Or.inl rfl)
      rw [List.drop_zero, List.nil_append, z15, z16, z18] at c1 c3
      rw [va_up_self] at c4 c5
      rw [va_up_up] at c2
      have hrl := repI_le x y (nI b) _ X.1 (Nat.le_refl _)
      have q5 := mo_w c2 (k := 1) (by decide) (by decide) 0 (nI (repI x y (nI b) X.1).length)
      rw [va_up_self, va_up_up] at q5
      have q6 := mo_w q5 (k := 1) (by decide) (by decide) 115 (f 115 + 1)
      rw [va_up_self, va_up_up] at q6
      have hx57 : xix (nI (57 + b)) 117 := xix_nI (by omega) (by decide)
      have hx73 : xix (nI (73 + b)) 117 := xix_nI (by omega) (by decide)
      have hx89 : xix (nI (89 + b)) 117 := xix_nI (by omega) (by decide)
      have e57 : (65 : Int32) + nI b - 8 = nI (57 + b) := nI_ix 65 b b8 (by omega)
      have e73 : (81 : Int32) + nI b - 8 = nI (73 + b) := nI_ix 81 b b8 (by omega)
      have e89 : (97 : Int32) + nI b - 8 = nI (89 + b) := nI_ix 97 b b8 (by omega)
      refine ⟨_, Z1, _, ?_, q6, ?_, a3, (((((a6.tr (xFr_si _ _ _ _ _ (by decide))).tr (xFr_si _ _ _ _ _ (by decide))).tr (xFr_si _ _ _ _ _ (by decide))).tr c6).tr (xFr_si _ _ _ _ _ (by decide))).tr (xFr_si _ _ _ _ _ (by decide))⟩
      · rw [e_X8_step]
        simp only [u_X8_step_0, u_X8_step_1, u_X8_step_4, u_X8_step_5, u_X8_step_8, u_X8_step_9, u_X8_step_12, u_X8_step_13, u_X8_step_14, u_X8_step_15, u_X8_step_18, u_X8_step_20, u_X8_step_21, u_X8_step_24, u_X8_step_25, u_X8_step_27, u_X8_step_28, u_X8_step_29, u_X8_step_30, u_X8_step_31, u_X8_step_34, u_X8_step_36, u_X8_step_37, u_X8_step_40, u_X8_step_41, u_X8_step_43, u_X8_step_44, u_X8_step_45, u_X8_step_48, u_X8_step_49, u_X8_step_50, u_X8_step_53, u_X8_step_55, u_X8_step_56, u_X8_step_59, u_X8_step_60, u_X8_step_62, u_X8_step_63, u_X8_step_64, u_X8_step_67, u_X8_step_68, u_X8_step_69, u_X8_step_70, u_X8_step_71, u_X8_step_73, u_X8_step_74, u_X8_step_77, u_X8_step_78, u_X8_step_79, u_X8_step_82, u_X8_step_83, u_X8_step_84, u_X8_step_85, u_X8_step_86, u_X8_step_89, u_X8_step_90, u_X8_step_91, u_X8_step_94, u_X8_step_95, u_X8_step_98, u_X8_step_99, u_X8_step_100, u_X8_step_101, u_X8_step_102, u_X8_step_103, u_X8_step_106, u_X8_step_109, u_X8_step_110, u_X8_step_113, u_X8_step_114, u_X8_step_115, u_X8_step_116, u_X8_step_117, u_X8_step_118, u_X8_step_119, u_X8_step_120, u_X8_step_123, u_X8_step_126, u_X8_step_127, u_X8_step_130, u_X8_step_131, u_X8_step_132, u_X8_step_133, u_X8_step_136, u_X8_step_137, u_X8_step_138, u_X8_step_139, u_X8_step_140, u_X8_step_143, u_X8_step_144, u_X8_step_147, u_X8_step_150, u_X8_step_151, u_X8_step_154, u_X8_step_155, u_X8_step_156, u_X8_step_157, u_X8_step_158, u_X8_step_159, u_X8_step_162, u_X8_step_163, u_X8_step_164, u_X8_step_167, u_X8_step_168, u_X8_step_171, u_X8_step_172, u_X8_step_173, u_X8_step_174, u_X8_step_178, u_X8_step_181, u_X8_step_182, u_X8_step_183, u_X8_step_184, u_X8_step_185, u_X8_step_188, u_X8_step_190, u_X8_step_191, u_X8_step_192, u_X8_step_193, u_X8_step_194, u_X8_step_195, u_X8_step_196, u_X8_step_199, a1, a2.ob, a2.a1, q.ob, q1.ob, q1.a1, q2.ob, q2.a1, q3.ob, z15, z16, z18, hb1, e57, e73, e89, hx57, hx73, hx89, nI_clamp (show 57 + b < 2 ^ 31 by omega), nI_clamp (show 73 + b < 2 ^ 31 by omega), nI_clamp (show 89 + b < 2 ^ 31 by omega), if_false, xgo_some, xgo_none, xgoI_none, xcat_n, xcat_i, xcat_r, xcat_z, List.length_nil, List.length_cons, List.getD_cons_zero, List.getD_cons_succ, List.set_cons_zero, List.set_cons_succ, Nat.zero_le, Nat.reduceAdd, Nat.reduceLeDiff, Nat.reduceEqDiff, reduceIte]
        rw [show (0 : Int32) = nI 0 from rfl]
        rw [show nI ([] : List Int32).length = nI 0 from rfl] at c1
        rw [c1, u_X8_step_177]
        simp only [u_X8_step_0, u_X8_step_1, u_X8_step_4, u_X8_step_5, u_X8_step_8, u_X8_step_9, u_X8_step_12, u_X8_step_13, u_X8_step_14, u_X8_step_15, u_X8_step_18, u_X8_step_20, u_X8_step_21, u_X8_step_24, u_X8_step_25, u_X8_step_27, u_X8_step_28, u_X8_step_29, u_X8_step_30, u_X8_step_31, u_X8_step_34, u_X8_step_36, u_X8_step_37, u_X8_step_40, u_X8_step_41, u_X8_step_43, u_X8_step_44, u_X8_step_45, u_X8_step_48, u_X8_step_49, u_X8_step_50, u_X8_step_53, u_X8_step_55, u_X8_step_56, u_X8_step_59, u_X8_step_60, u_X8_step_62, u_X8_step_63, u_X8_step_64, u_X8_step_67, u_X8_step_68, u_X8_step_69, u_X8_step_70, u_X8_step_71, u_X8_step_73, u_X8_step_74, u_X8_step_77, u_X8_step_78, u_X8_step_79, u_X8_step_82, u_X8_step_83, u_X8_step_84, u_X8_step_85, u_X8_step_86, u_X8_step_89, u_X8_step_90, u_X8_step_91, u_X8_step_94, u_X8_step_95, u_X8_step_98, u_X8_step_99, u_X8_step_100, u_X8_step_101, u_X8_step_102, u_X8_step_103, u_X8_step_106, u_X8_step_109, u_X8_step_110, u_X8_step_113, u_X8_step_114, u_X8_step_115, u_X8_step_116, u_X8_step_117, u_X8_step_118, u_X8_step_119, u_X8_step_120, u_X8_step_123, u_X8_step_126, u_X8_step_127, u_X8_step_130, u_X8_step_131, u_X8_step_132, u_X8_step_133, u_X8_step_136, u_X8_step_137, u_X8_step_138, u_X8_step_139, u_X8_step_140, u_X8_step_143, u_X8_step_144, u_X8_step_147, u_X8_step_150, u_X8_step_151, u_X8_step_154, u_X8_step_155, u_X8_step_156, u_X8_step_157, u_X8_step_158, u_X8_step_159, u_X8_step_162, u_X8_step_163, u_X8_step_164, u_X8_step_167, u_X8_step_168, u_X8_step_171, u_X8_step_172, u_X8_step_173, u_X8_step_174, u_X8_step_178, u_X8_step_181, u_X8_step_182, u_X8_step_183, u_X8_step_184, u_X8_step_185, u_X8_step_188, u_X8_step_190, u_X8_step_191, u_X8_step_192, u_X8_step_193, u_X8_step_194, u_X8_step_195, u_X8_step_196, u_X8_step_199, c2.ob, c2.a1, q5.ob, q5.a1, q6.ob, z18, x0117, c00, x115, c115, va_up_self, va_up_ne f (nI (repI x y (nI b) X.1).length) (show 115 ≠ 0 by decide), xgo_some, xgo_none, xgoI_none, xcat_n, xcat_i, xcat_r, xcat_z, List.length_nil, List.length_cons, List.getD_cons_zero, List.getD_cons_succ, List.set_cons_zero, List.set_cons_succ, Nat.zero_le, Nat.reduceAdd, Nat.reduceLeDiff, Nat.reduceEqDiff, reduceIte]
      · have hi : ∀ j, 65 ≤ j → j ≠ 115 → va_up (va_up f 0 (nI (repI x y (nI b) X.1).length)) 115 (f 115 + 1) j = F j := by
          intro j j1 j2
          rw [va_up_ne _ _ j2, va_up_ne _ _ (by omega), c5 j j1]
        refine rS_ap (s := A 1) r b8 b24 hx1 hpr (by omega) ?_ (fun i hi => ?_) ?_ ?_ ?_ (fun j j1 j2 j3 j4 j5 => ?_) ?_
        · rw [va_up_ne _ _ (by decide), va_up_self]
        · rw [va_up_ne _ _ (by omega), va_up_ne _ _ (by omega)]
          exact c3 i hi
        · rw [hi _ (by omega) (by omega), eFF, va_up_ne _ _ (by omega), va_up_ne _ _ (by omega), va_up_self]
        · rw [hi _ (by omega) (by omega), eFF, va_up_ne _ _ (by omega), va_up_self]
        · rw [hi _ (by omega) (by omega), eFF, va_up_self]
        · rw [hi j j1 j5, eFF, va_up_ne _ _ j4, va_up_ne _ _ j3, va_up_ne _ _ j2]
        · rw [va_up_self, c5 115 (by omega), eFF, va_up_ne _ _ (by omega), va_up_ne _ _ (by omega), va_up_ne _ _ (by omega)]
end SR
