/-! The law: the next step is as it is told; the best setting. -/
section LD
variable {x : Nat}
theorem take5 (Hs : List xS) : (Hs.take 5).length ≤ 5 := by rw [List.length_take]; omega
theorem N_next {h : xH} {P : pP} (q : isP h x P) (k : okS P.1) {w : Int32} (hw : ¬ (w < 0 ∨ 3 < w)) : ∃ h', xev 79 [.ref x, .int w] h = some (.inl (some (.int (finG (fdF P.1.1 P.1.2.1 P.1.2.2.1) w))), h') ∧ isP h' x P ∧ xFr x (x + 139) h h' :=
  out_in (P_next q (ok_hR k) (ok_ha k) w) (if_neg hw)
theorem N_ifn {h : xH} {P : pP} (q : isP h x P) (k : okS P.1) {w : Int32} (hw : ¬ (w < 0 ∨ 3 < w)) : ∃ h', xev 83 [.ref x, .int w] h = some (.inl (some (.int (tnX P.1 (trX P.1 P.1.2.2.1) w))), h') ∧ isP h' x P ∧ xFr x (x + 139) h h' :=
  out_in (P_ifNamed q (ok_hR k) (ok_ha k) w) (if_neg hw)
theorem N_undo {h : xH} {X Y : xS} {Hs : List xS} {C : List Int32} (q : isP h x (Y, X :: Hs, C)) : ∃ h', xev 74 [.ref x] h = some (.inl (some (.int (nI Hs.length))), h') ∧ isP h' x (X, Hs, C) ∧ xFr x (x + 139) h h' :=
  out_in (P_undo q) rfl
/-- from the step on -/
theorem lp_nx2 {h : xH} {X Y : xS} {Hs : List xS} {C : List Int32} (hh : Hs.length ≤ 5) (q : isP h x (Y, X :: Hs, C)) (kX : okS X) (kH : ∀ Z ∈ Hs, okS Z) (n t : Int32) (l4 l5 l6 l7 l8 l9 : Option Value) :
    ∃ h', xf 99 83 [some (.ref x), some (.int n), some (.int t), some (.int (nI X.1.length)), l4, l5, l6, l7, l8, l9] [.int 1] h = some (.inl (some (.int 1)), h') ∧ isP h' x (X, Hs.take 5, C) ∧ xFr x (x + 139) h h' := by
  obtain ⟨h1, a1, q1, f1⟩ := N_undo q
  obtain ⟨h2, a2, q2, f2⟩ := N_ifn q1 kX (w := 0) (by decide)
  obtain ⟨h3, a3, q3, f3⟩ := N_ifn q2 kX (w := 1) (by decide)
  obtain ⟨h4, a4, q4, f4⟩ := N_ifn q3 kX (w := 2) (by decide)
  obtain ⟨h5, a5, q5, f5⟩ := N_ifn q4 kX (w := 3) (by decide)
  have b0 : tnX X (trX X X.2.2.1) 0 = nI (allF 64 0 X).1 := tnX_0 X
  have b1 : tnX X (trX X X.2.2.1) 1 = nI (allF 64 0 X).2.1.length := rfl
  have b2 : tnX X (trX X X.2.2.1) 2 = nI ((allF 64 0 X).2.1.length + 2 * namN (allF 64 0 X).2.2.1.1 8 16) := rfl
  have b3 : tnX X (trX X X.2.2.1) 3 = gdF (allF 64 0 X).2.2.1.2.2.1 0 (allF 64 0 X).2.1 := rfl
  simp only at a2 a3 a4 a5
  rw [b0] at a2
  rw [b1] at a3
  rw [b2] at a4
  rw [b3] at a5
  obtain ⟨h6, a6, q6, f6⟩ := out_in (P_nameAll q5 (ok_hR kX) (ok_ha kX)) rfl
  have kT := ok_all 64 0 X kX
  have fx := all_fix 64 0 X kX kX.1
  simp only at a6 q6
  obtain ⟨T, eT⟩ : ∃ T, T = (allF 64 0 X).2 := ⟨_, rfl⟩
  rw [← eT] at a3 a4 a5 q6 kT fx
  have q6' : isP h6 x (T, X :: Hs.take 5, C) := q6
  obtain ⟨h7, a7, q7, f7⟩ := N_next q6' kT (w := 3) (by decide)
  have b7 : finG (fdF T.1 T.2.1 T.2.2.1) 3 = -1 := fx
  simp only at a7
  rw [b7] at a7
  obtain ⟨h8, a8, q8, f8⟩ := N_undo q7
  have k0 := Q_c0 q6'
  have k5 := Q_c5 q6'
  have k4 := Q_c4 q6'
  have k8 := Q_c0 q8
  simp only at k0 k5 k4 k8
  have lh := take5 Hs
  have hn : ¬ nI (Hs.take 5).length < 0 := nI_pos (by omega)
  refine ⟨h8, ?_, q8, ((((((f1.tr f2).tr f3).tr f4).tr f5).tr f6).tr f7).tr f8⟩
  rw [u_L_isNextSo_83]
  simp only [u_L_isNextSo_85, u_L_isNextSo_86, u_L_isNextSo_89, u_L_isNextSo_91, u_L_isNextSo_92, u_L_isNextSo_93, u_L_isNextSo_96, u_L_isNextSo_98, u_L_isNextSo_99, u_L_isNextSo_100, u_L_isNextSo_103, u_L_isNextSo_105, u_L_isNextSo_106, u_L_isNextSo_107, u_L_isNextSo_110, u_L_isNextSo_112, u_L_isNextSo_113, u_L_isNextSo_114, u_L_isNextSo_117, u_L_isNextSo_119, u_L_isNextSo_121, u_L_isNextSo_124, u_L_isNextSo_125, u_L_isNextSo_128, u_L_isNextSo_130, u_L_isNextSo_133, u_L_isNextSo_134, u_L_isNextSo_135, u_L_isNextSo_138, u_L_isNextSo_140, u_L_isNextSo_143, u_L_isNextSo_144, u_L_isNextSo_145, u_L_isNextSo_148, u_L_isNextSo_150, u_L_isNextSo_153, u_L_isNextSo_154, u_L_isNextSo_155, u_L_isNextSo_158, u_L_isNextSo_160, u_L_isNextSo_163, u_L_isNextSo_164, u_L_isNextSo_165, u_L_isNextSo_168, u_L_isNextSo_169, u_L_isNextSo_172, u_L_isNextSo_173, u_L_isNextSo_177, u_L_isNextSo_179, u_L_isNextSo_180, u_L_isNextSo_183, u_L_isNextSo_185, u_L_isNextSo_187, u_L_isNextSo_190, u_L_isNextSo_192, u_L_isNextSo_195, u_L_isNextSo_196, u_L_isNextSo_197, u_L_isNextSo_200, u_L_isNextSo_201, u_L_isNextSo_204, u_L_isNextSo_205, u_L_isNextSo_209, q.ob, q1.ob, q2.ob, q3.ob, q4.ob, q5.ob, q6'.ob, q7.ob, q8.ob, a1, a2, a3, a4, a5, a6, a7, a8, k0, k4, k5, k8, hn, i10, eq_self, or_true, if_true, if_false, xgo_some, xgo_none, xgoI_none, xcat_n, xcat_i, xcat_r, xcat_z, List.length_nil, List.length_cons, List.getD_cons_zero, List.getD_cons_succ, List.set_cons_zero, List.set_cons_succ, Nat.zero_le, Nat.reduceAdd, Nat.reduceLeDiff, Nat.reduceEqDiff, reduceIte]
theorem xm1 : (-1 : Int32) < 0 := by decide
/-- the next step is as it is told, and naming all, too -/
theorem l_next {h : xH} {X : xS} {Hs : List xS} {C : List Int32} (q : isP h x (X, Hs, C)) (k : okP (X, Hs, C)) : ∃ h' Hs', xev 99 [.ref x] h = some (.inl (some (.int 1)), h') ∧ isP h' x (X, Hs', C) ∧ okP (X, Hs', C) ∧ xFr x (x + 139) h h' := by
  have kX : okS X := k.1
  have kH : ∀ Z ∈ Hs, okS Z := k.2
  have hl := kX.1
  have kH5 : ∀ Z ∈ Hs.take 5, okS Z := fun Z hZ => kH Z (List.mem_of_mem_take hZ)
  obtain ⟨h1, a1, q1, f1⟩ := N_next q kX (w := 3) (by decide)
  obtain ⟨h2, a2, q2, f2⟩ := N_next q1 kX (w := 2) (by decide)
  have k0 := Q_c0 q2
  simp only at k0 a1 a2
  have b3 : finG (fdF X.1 X.2.1 X.2.2.1) 3 = (fdF X.1 X.2.1 X.2.2.1).2.2.2 := rfl
  have b2 : finG (fdF X.1 X.2.1 X.2.2.1) 2 = (fdF X.1 X.2.1 X.2.2.1).2.2.1 := rfl
  rw [b3] at a1
  rw [b2] at a2
  have hs : isP h x (X, Hs, C) := q
  rcases fd_is kX with e | ⟨a, c, b, a24, c24, b8, b24, e, ha, hc, hv⟩
  · rw [e] at a1 a2
    have es : sp_name (X, Hs, C) = .inl (-1, X, (X :: Hs).take 6, C) := if_pos (show (fdF X.1 X.2.1 X.2.2.1).2.2.2 = -1 by rw [e])
    obtain ⟨h3, a3, q3, f3⟩ := out_in (P_name q2 (ok_hR kX) (ok_ha kX)) es
    have q3' : isP h3 x (X, X :: Hs.take 5, C) := q3
    have k3 := Q_c0 q3'
    simp only at k3
    obtain ⟨h4, a4, q4, f4⟩ := lp_nx2 (take5 Hs) q3' kX kH5 (-1) (-1) none none none none none none
    refine ⟨h4, _, ?_, q4, ⟨kX, fun Z hZ => kH5 Z (List.mem_of_mem_take hZ)⟩, ((f1.tr f2).tr f3).tr f4⟩
    rw [e_L_isNextSo, ← a4]
    simp only [u_L_isNextSo_0, u_L_isNextSo_1, u_L_isNextSo_2, u_L_isNextSo_5, u_L_isNextSo_6, u_L_isNextSo_7, u_L_isNextSo_8, u_L_isNextSo_11, u_L_isNextSo_12, u_L_isNextSo_13, u_L_isNextSo_14, u_L_isNextSo_17, u_L_isNextSo_18, u_L_isNextSo_19, u_L_isNextSo_51, u_L_isNextSo_52, u_L_isNextSo_55, u_L_isNextSo_56, u_L_isNextSo_59, u_L_isNextSo_60, u_L_isNextSo_61, u_L_isNextSo_64, u_L_isNextSo_65, u_L_isNextSo_66, u_L_isNextSo_69, u_L_isNextSo_70, u_L_isNextSo_74, u_L_isNextSo_75, u_L_isNextSo_78, u_L_isNextSo_79, q.ob, q1.ob, q2.ob, q3'.ob, a1, a2, a3, k0, k3, xm1, Int32.sub_zero, eq_self, if_true, xgo_some, xgo_none, xgoI_none, xcat_n, xcat_i, xcat_r, xcat_z, List.length_nil, List.length_cons, List.getD_cons_zero, List.getD_cons_succ, List.set_cons_zero, List.set_cons_succ, Nat.zero_le, Nat.reduceAdd, Nat.reduceLeDiff, Nat.reduceEqDiff, reduceIte]
  · rw [e] at a1 a2
    have e0 : finG (fdF X.1 X.2.1 X.2.2.1) 0 = nI a := by rw [e]; rfl
    have e1 : finG (fdF X.1 X.2.1 X.2.2.1) 1 = nI c := by rw [e]; rfl
    obtain ⟨h3, a3, q3, f3⟩ := N_next q2 kX (w := 0) (by decide)
    obtain ⟨h4, a4, q4, f4⟩ := N_next q3 kX (w := 1) (by decide)
    simp only at a3 a4
    rw [e0] at a3
    rw [e1] at a4
    have ks := Q_setting q2
    have kp := Q_pair q4 (u := nI a) (v := nI c) ((hs_hasP a24).mpr ha) ((hs_hasP c24).mpr hc)
    simp only at ks kp
    have hg : (fdF X.1 X.2.1 X.2.2.1).2.2.2 ≠ -1 := by rw [e]; exact nI_nm1 (by omega)
    have es : sp_name (X, Hs, C) = .inl ((fdF X.1 X.2.1 X.2.2.1).2.2.2, apF X (fdF X.1 X.2.1 X.2.2.1), (X :: Hs).take 6, C) := if_neg hg
    obtain ⟨h5, a5, q5, f5⟩ := out_in (P_name q4 (ok_hR kX) (ok_ha kX)) es
    rw [e] at a5 q5
    have q5' : isP h5 x (apF X (nI a, nI c, nI (occI (nI a) (nI c) X.1), nI b), X :: Hs.take 5, C) := q5
    have k5 := Q_c0 q5'
    simp only at a5 k5
    have ro := repI_occ (nI a) (nI c) (nI b) _ X.1 (Nat.le_refl _)
    have el : nI X.1.length - nI (occI (nI a) (nI c) X.1) = nI (apF X (nI a, nI c, nI (occI (nI a) (nI c) X.1), nI b)).1.length := by
      show _ = nI (repI (nI a) (nI c) (nI b) X.1).length
      rw [nI_sub (by omega)]
      exact congrArg nI (by omega)
    have hb0 : ¬ nI b < 0 := nI_pos (by omega)
    obtain ⟨h6, a6, q6, f6⟩ := lp_nx2 (take5 Hs) q5' kX kH5 (nI b) (nI (occI (nI a) (nI c) X.1)) none none none none none none
    refine ⟨h6, _, ?_, q6, ⟨kX, fun Z hZ => kH5 Z (List.mem_of_mem_take hZ)⟩, ((((f1.tr f2).tr f3).tr f4).tr f5).tr f6⟩
    rw [e_L_isNextSo, ← a6]
    simp only [u_L_isNextSo_0, u_L_isNextSo_1, u_L_isNextSo_2, u_L_isNextSo_5, u_L_isNextSo_6, u_L_isNextSo_7, u_L_isNextSo_8, u_L_isNextSo_11, u_L_isNextSo_12, u_L_isNextSo_13, u_L_isNextSo_14, u_L_isNextSo_17, u_L_isNextSo_18, u_L_isNextSo_19, u_L_isNextSo_22, u_L_isNextSo_23, u_L_isNextSo_24, u_L_isNextSo_25, u_L_isNextSo_28, u_L_isNextSo_31, u_L_isNextSo_32, u_L_isNextSo_33, u_L_isNextSo_34, u_L_isNextSo_37, u_L_isNextSo_38, u_L_isNextSo_39, u_L_isNextSo_42, u_L_isNextSo_45, u_L_isNextSo_46, u_L_isNextSo_51, u_L_isNextSo_52, u_L_isNextSo_55, u_L_isNextSo_56, u_L_isNextSo_59, u_L_isNextSo_60, u_L_isNextSo_61, u_L_isNextSo_64, u_L_isNextSo_65, u_L_isNextSo_66, u_L_isNextSo_73, u_L_isNextSo_74, u_L_isNextSo_75, u_L_isNextSo_78, u_L_isNextSo_79, q.ob, q1.ob, q2.ob, q3.ob, q4.ob, q5'.ob, a1, a2, a3, a4, a5, k0, ks, kp, k5, hv, hb0, el, eq_self, if_true, if_false, xgo_some, xgo_none, xgoI_none, xcat_n, xcat_i, xcat_r, xcat_z, List.length_nil, List.length_cons, List.getD_cons_zero, List.getD_cons_succ, List.set_cons_zero, List.set_cons_succ, Nat.zero_le, Nat.reduceAdd, Nat.reduceLeDiff, Nat.reduceEqDiff, reduceIte]
theorem lp_bst {X : xS} {C : List Int32} (kX : okS X) (b0 o0 : Int32) : ∀ (j o : Nat) (h : xH) (Hs : List xS) (b s : Int32) (l6 l7 : Option Value), 2 ≤ o → o + j = 10 → isP h x (X, Hs, C) → (∀ Z ∈ Hs, okS Z) →
    ∃ h' Hs' s' l6' l7', xf 100 21 [some (.ref x), some (.int b0), some (.int o0), some (.int s), some (.int b), some (.int (nI o)), l6, l7] [] h = xf 100 84 [some (.ref x), some (.int b0), some (.int o0), some (.int s'), some (.int (boF X o j b s)), some (.int (nI 10)), l6', l7'] [] h' ∧ isP h' x (X, Hs', C) ∧ (∀ Z ∈ Hs', okS Z) ∧ xFr x (x + 139) h h' := by
  intro j
  induction j with
  | zero =>
    intro o h Hs b s l6 l7 o2 hj q kH
    have h2 : ¬ nI o < 10 := nI_nlt (b := 10) (by omega) (by omega)
    refine ⟨h, Hs, s, l6, l7, ?_, q, kH, xFr.rf⟩
    rw [u_L_isBestSo_21]
    simp only [u_L_isBestSo_23, u_L_isBestSo_25, h2, if_false, xgo_some, xgo_none, xgoI_none, xcat_n, xcat_i, xcat_r, xcat_z, List.length_nil, List.length_cons, List.getD_cons_zero, List.getD_cons_succ, List.set_cons_zero, List.set_cons_succ, Nat.zero_le, Nat.reduceAdd, Nat.reduceLeDiff, Nat.reduceEqDiff, reduceIte]
    rw [boF, show o = 10 by omega]
  | succ j ih =>
    intro o h Hs b s l6 l7 o2 hj q kH
    have h2 : nI o < 10 := nI_lt (b := 10) (by omega) (by omega)
    have k : okP (X, Hs, C) := ⟨kX, kH⟩
    have es : sp_set (X, Hs, C) 0 (nI o) = .inl (seX X 0, seU X 0 (nI o), (X :: Hs).take 6, C) := by
      unfold sp_set
      rw [if_pos (by decide), if_neg]
      intro z
      rcases z with z | z
      · rw [if_pos rfl] at z
        exact nI_nlt (b := 2) (by omega) (by omega) z
      · exact nI_nlt (a := 9) (by omega) (by omega) z
    obtain ⟨h1, a1, q1, f1⟩ := out_in (P_set q 0 (nI o)) es
    have k1 := ok_set k es
    have q1' : isP h1 x (seU X 0 (nI o), X :: Hs.take 5, C) := q1
    obtain ⟨h2', a2, q2, f2⟩ := N_ifn q1' k1.1 (w := 2) (by decide)
    have b2 : tnX (seU X 0 (nI o)) (trX (seU X 0 (nI o)) (seU X 0 (nI o)).2.2.1) 2 = nI ((trX X (nI o)).1.length + 2 * namN (trX X (nI o)).2.1.1 8 16) := rfl
    simp only at a2
    rw [b2] at a2
    obtain ⟨h3, a3, q3, f3⟩ := N_undo q2
    have kH5 : ∀ Z ∈ Hs.take 5, okS Z := fun Z hZ => kH Z (List.mem_of_mem_take hZ)
    rw [boF]
    by_cases h5 : nI ((trX X (nI o)).1.length + 2 * namN (trX X (nI o)).2.1.1 8 16) < s
    · obtain ⟨h', Hs', s', l6', l7', g1, g2, g3, g4⟩ := ih (o + 1) h3 _ (nI o) (nI ((trX X (nI o)).1.length + 2 * namN (trX X (nI o)).2.1.1 8 16)) (some (.int (nI (Hs.take 5).length))) (some (.int (nI ((trX X (nI o)).1.length + 2 * namN (trX X (nI o)).2.1.1 8 16)))) (by omega) (by omega) q3 kH5
      refine ⟨h', Hs', s', l6', l7', ?_, g2, g3, ((f1.tr f2).tr f3).tr g4⟩
      rw [if_pos h5, ← g1, u_L_isBestSo_21]
      simp only [u_L_isBestSo_23, u_L_isBestSo_25, u_L_isBestSo_28, u_L_isBestSo_29, u_L_isBestSo_30, u_L_isBestSo_32, u_L_isBestSo_35, u_L_isBestSo_37, u_L_isBestSo_38, u_L_isBestSo_39, u_L_isBestSo_42, u_L_isBestSo_44, u_L_isBestSo_45, u_L_isBestSo_48, u_L_isBestSo_50, u_L_isBestSo_52, u_L_isBestSo_53, u_L_isBestSo_56, u_L_isBestSo_58, u_L_isBestSo_63, u_L_isBestSo_65, u_L_isBestSo_67, u_L_isBestSo_68, u_L_isBestSo_71, u_L_isBestSo_73, u_L_isBestSo_77, u_L_isBestSo_78, u_L_isBestSo_81, q.ob, q1'.ob, q2.ob, q3.ob, a1, a2, a3, h2, h5, nI_of1, if_true, xgo_some, xgo_none, xgoI_none, xcat_n, xcat_i, xcat_r, xcat_z, List.length_nil, List.length_cons, List.getD_cons_zero, List.getD_cons_succ, List.set_cons_zero, List.set_cons_succ, Nat.zero_le, Nat.reduceAdd, Nat.reduceLeDiff, Nat.reduceEqDiff, reduceIte]
    · obtain ⟨h', Hs', s', l6', l7', g1, g2, g3, g4⟩ := ih (o + 1) h3 _ b s (some (.int (nI (Hs.take 5).length))) (some (.int (nI ((trX X (nI o)).1.length + 2 * namN (trX X (nI o)).2.1.1 8 16)))) (by omega) (by omega) q3 kH5
      refine ⟨h', Hs', s', l6', l7', ?_, g2, g3, ((f1.tr f2).tr f3).tr g4⟩
      rw [if_neg h5, ← g1, u_L_isBestSo_21]
      simp only [u_L_isBestSo_23, u_L_isBestSo_25, u_L_isBestSo_28, u_L_isBestSo_29, u_L_isBestSo_30, u_L_isBestSo_32, u_L_isBestSo_35, u_L_isBestSo_37, u_L_isBestSo_38, u_L_isBestSo_39, u_L_isBestSo_42, u_L_isBestSo_44, u_L_isBestSo_45, u_L_isBestSo_48, u_L_isBestSo_50, u_L_isBestSo_52, u_L_isBestSo_53, u_L_isBestSo_61, u_L_isBestSo_63, u_L_isBestSo_65, u_L_isBestSo_67, u_L_isBestSo_68, u_L_isBestSo_76, u_L_isBestSo_77, u_L_isBestSo_78, u_L_isBestSo_81, q.ob, q1'.ob, q2.ob, q3.ob, a1, a2, a3, h2, h5, nI_of1, if_true, if_false, xgo_some, xgo_none, xgoI_none, xcat_n, xcat_i, xcat_r, xcat_z, List.length_nil, List.length_cons, List.getD_cons_zero, List.getD_cons_succ, List.set_cons_zero, List.set_cons_succ, Nat.zero_le, Nat.reduceAdd, Nat.reduceLeDiff, Nat.reduceEqDiff, reduceIte]
/-- the best setting leaves the least size -/
theorem l_best {h : xH} {X : xS} {Hs : List xS} {C : List Int32} (q : isP h x (X, Hs, C)) (k : okP (X, Hs, C)) : ∃ h' Hs', xev 100 [.ref x] h = some (.inl (some (.int 1)), h') ∧ isP h' x (X, Hs', C) ∧ okP (X, Hs', C) ∧ xFr x (x + 139) h h' := by
  have kX : okS X := k.1
  have kH : ∀ Z ∈ Hs, okS Z := k.2
  obtain ⟨h1, a1, q1, f1⟩ := out_in (P_best q (ok_hR kX)) rfl
  have ks := Q_setting q1
  simp only at a1 ks
  obtain ⟨h2, Hs2, s', l6, l7, a2, q2, k2, f2⟩ := lp_bst (C := C) kX (boX X) X.2.2.1 8 2 h1 Hs 0 1000 none none (by omega) (by omega) q1 kH
  rw [bo_same kX] at a2
  have ks2 := Q_setting q2
  simp only at ks2
  refine ⟨h2, Hs2, ?_, q2, ⟨kX, k2⟩, f1.tr f2⟩
  rw [e_L_isBestSo]
  simp only [u_L_isBestSo_0, u_L_isBestSo_1, u_L_isBestSo_4, u_L_isBestSo_5, u_L_isBestSo_6, u_L_isBestSo_7, u_L_isBestSo_10, u_L_isBestSo_11, u_L_isBestSo_14, u_L_isBestSo_15, u_L_isBestSo_16, u_L_isBestSo_18, u_L_isBestSo_19, q.ob, q1.ob, a1, ks, xgo_some, xgo_none, xgoI_none, xcat_n, xcat_i, xcat_r, xcat_z, List.length_nil, List.length_cons, List.getD_cons_zero, List.getD_cons_succ, List.set_cons_zero, List.set_cons_succ, Nat.zero_le, Nat.reduceAdd, Nat.reduceLeDiff, Nat.reduceEqDiff, reduceIte]
  rw [show (xf 100 21 [some (.ref x), some (.int (boX X)), some (.int X.2.2.1), some (.int 1000), some (.int 0), some (.int 2), none, none] [] h1) = _ from a2, u_L_isBestSo_84]
  simp only [u_L_isBestSo_85, u_L_isBestSo_87, u_L_isBestSo_90, u_L_isBestSo_91, u_L_isBestSo_92, u_L_isBestSo_95, u_L_isBestSo_96, u_L_isBestSo_99, u_L_isBestSo_100, u_L_isBestSo_104, q2.ob, ks2, eq_self, or_true, if_true, xgo_some, xgo_none, xgoI_none, xcat_n, xcat_i, xcat_r, xcat_z, List.length_nil, List.length_cons, List.getD_cons_zero, List.getD_cons_succ, List.set_cons_zero, List.set_cons_succ, Nat.zero_le, Nat.reduceAdd, Nat.reduceLeDiff, Nat.reduceEqDiff, reduceIte]
end LD
