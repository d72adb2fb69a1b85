/-! The model: through the buffer. -/
section GO
variable {m : Nat} {D : Int64}
def zG (Z Z' : Nat → Int32) : Prop := ∀ j, j ≠ 12 → j ≠ 13 → j ≠ 14 → Z' j = Z j
theorem zG.tr {Z Z1 Z2 : Nat → Int32} (a : zG Z Z1) (b : zG Z1 Z2) : zG Z Z2 := fun j h1 h2 h3 => (b j h1 h2 h3).trans (a j h1 h2 h3)
theorem zG_12 (Z : Nat → Int32) (v : Int32) : zG Z (va_up Z 12 v) := fun _ h1 _ _ => va_up_ne _ _ h1
theorem zG_13 (Z : Nat → Int32) (v : Int32) : zG Z (va_up Z 13 v) := fun _ _ h1 _ => va_up_ne _ _ h1
theorem zG_14 (Z : Nat → Int32) (v : Int32) : zG Z (va_up Z 14 v) := fun _ _ _ h1 => va_up_ne _ _ h1
def frG (C : List Int32) (j : Nat) : Prop := ¬ (nuC (bfAt C.length (gd C) (nI j)) = true ∧ ltC (bfAt C.length (gd C) (nI j - 1)) = true)
theorem bf_in {C : List Int32} (hC : C.length ≤ 60) {j : Nat} (hj : j < C.length) : bfAt C.length (gd C) (nI j) = gd C j := by
  unfold bfAt
  rw [if_pos (nI_lt hj (by omega)), clAt_nI (by omega) (by decide)]
theorem bf_out {C : List Int32} (hC : C.length ≤ 60) : bfAt C.length (gd C) (nI C.length) = -1 := by
  unfold bfAt
  rw [if_neg (nI_nlt (Nat.le_refl _) (by omega))]
theorem lt_nu {c : Int32} (h : nuC c = true) : ltC c = false := by
  unfold nuC at h
  rw [Bool.and_eq_true, decide_eq_true_eq, decide_eq_true_eq] at h
  have h1 : c < 97 := Int32.lt_of_le_of_lt (le_of_nlt h.2) (by decide)
  unfold ltC
  rw [decide_eq_false (fun z => z h1)]
  rfl
theorem nu_t {e : Int32} (h : nuC e = true) : ∃ t, 2 ≤ t ∧ t ≤ 9 ∧ e - 48 = nI t := by
  unfold nuC at h
  rw [Bool.and_eq_true, decide_eq_true_eq, decide_eq_true_eq] at h
  have h0 : ¬ e < 0 := fun z => h.1 (Int32.lt_trans z (by decide))
  obtain ⟨j, j1, j2⟩ := nI_of2 (M := 57) (n := 57) (by decide) h0 (le_of_nlt h.2)
  have j3 : 50 ≤ j := by
    apply Nat.le_of_not_lt
    intro z
    refine h.1 ?_
    rw [j2]
    exact nI_lt (b := 50) z (by omega)
  exact ⟨j - 48, by omega, by omega, by rw [j2]; exact nI_sub (a := j) (b := 48) (by omega)⟩
theorem in_lt {c : Int32} (hc : ltC c = true) (h : xH) : xev 99 [.int c, .int 97, .int 104] h = some (.inl (some (.int 1)), h) := by
  unfold ltC at hc
  rw [Bool.and_eq_true, decide_eq_true_eq, decide_eq_true_eq] at hc
  rw [m_in, if_pos hc]
theorem in_lt0 {c : Int32} (hc : ltC c = false) (h : xH) : xev 99 [.int c, .int 97, .int 104] h = some (.inl (some (.int 0)), h) := by
  unfold ltC at hc
  rw [m_in, if_neg]
  intro z
  rw [decide_eq_true z.1, decide_eq_true z.2] at hc
  exact absurd hc (by decide)
theorem in_nu {c : Int32} (hc : nuC c = true) (h : xH) : xev 99 [.int c, .int 50, .int 57] h = some (.inl (some (.int 1)), h) := by
  unfold nuC at hc
  rw [Bool.and_eq_true, decide_eq_true_eq, decide_eq_true_eq] at hc
  rw [m_in, if_pos hc]
theorem in_nu0 {c : Int32} (hc : nuC c = false) (h : xH) : xev 99 [.int c, .int 50, .int 57] h = some (.inl (some (.int 0)), h) := by
  unfold nuC at hc
  rw [m_in, if_neg]
  intro z
  rw [decide_eq_true z.1, decide_eq_true z.2] at hc
  exact absurd hc (by decide)
/-- a letter with a number behind it -/
theorem go_b {C : List Int32} (hC : C.length ≤ 60) {j t : Nat} (hj : j + 1 < C.length) (hl : ltC (gd C j) = true) (hn : nuC (gd C (j + 1)) = true) (ht : t ≤ 9) (et : gd C (j + 1) - 48 = nI t) :
    frG C (j + 2) ∧ fwF C.length (gd C) j (C.length - j) = fwF C.length (gd C) (j + 2) (C.length - (j + 2)) ∧ wbF C.length (gd C) j (C.length - j) = List.replicate t (gd C j - 97) ++ wbF C.length (gd C) (j + 2) (C.length - (j + 2)) := by
  have b0 := bf_in hC (show j < C.length by omega)
  have b1 := bf_in hC hj
  have l1 := lt_nu hn
  refine ⟨?_, ?_, ?_⟩
  · intro z
    have z2 := z.2
    rw [show nI (j + 2) - 1 = nI (j + 1) from nI_pred (j + 1), b1, l1] at z2
    exact absurd z2 (by decide)
  · rw [show C.length - j = C.length - (j + 2) + 1 + 1 by omega, fwF, if_pos (Or.inl (by rw [b0]; exact hl)), fwF, if_pos (Or.inr ⟨by rw [b1]; exact hn, by rw [nI_pred, b0]; exact hl⟩)]
  · have t0 : tmN C.length (gd C) j = t := by
      unfold tmN tmA
      rw [b0, if_pos hl, nI_of1, b1, if_pos hn, et, nI_clamp (by omega)]
    have t1 : tmN C.length (gd C) (j + 1) = 0 := by
      unfold tmN tmA
      rw [b1, if_neg (by rw [l1]; decide)]
      rfl
    rw [show C.length - j = C.length - (j + 2) + 1 + 1 by omega, wbF, wbF, t0, t1, b0, List.replicate_zero, List.nil_append]
/-- a letter alone -/
theorem go_c {C : List Int32} (hC : C.length ≤ 60) {j : Nat} (hj : j < C.length) (hl : ltC (gd C j) = true) (hn : j + 1 < C.length → nuC (gd C (j + 1)) = false) :
    frG C (j + 1) ∧ fwF C.length (gd C) j (C.length - j) = fwF C.length (gd C) (j + 1) (C.length - (j + 1)) ∧ wbF C.length (gd C) j (C.length - j) = List.replicate 1 (gd C j - 97) ++ wbF C.length (gd C) (j + 1) (C.length - (j + 1)) := by
  have b0 := bf_in hC hj
  have n1 : nuC (bfAt C.length (gd C) (nI (j + 1))) = false := by
    by_cases h1 : j + 1 < C.length
    · rw [bf_in hC h1]; exact hn h1
    · rw [show j + 1 = C.length by omega, bf_out hC]; decide
  refine ⟨?_, ?_, ?_⟩
  · intro z
    rw [n1] at z
    exact absurd z.1 (by decide)
  · rw [show C.length - j = C.length - (j + 1) + 1 by omega, fwF, if_pos (Or.inl (by rw [b0]; exact hl))]
  · have t0 : tmN C.length (gd C) j = 1 := by
      unfold tmN tmA
      rw [b0, if_pos hl, nI_of1, if_neg (by rw [n1]; decide)]
      rfl
    rw [show C.length - j = C.length - (j + 1) + 1 by omega, wbF, t0, b0]
theorem lp_gs {h : xH} {Z : Nat → Int32} {A : Nat → Nat → Int32} {C : List Int32} (hC : C.length ≤ 60) (q : isMo h m Z D A) (z6 : Z 6 = nI C.length) (hT : ∀ i, i < C.length → A 4 i = gd C i) {j mm : Nat} (hj : j < C.length) (z12 : Z 12 = nI j) (z13 : Z 13 = 0) (z14 : Z 14 = nI mm) (hl : ltC (gd C j) = true) (dn : Int32) (l2 l3 l4 : Option Value) :
    ∃ h' Z' j' t, xf 116 15 [some (.ref m), some (.int dn), l2, l3, l4] [] h = xf 116 143 [some (.ref m), some (.int dn), some (.int (gd C j)), some (.int (nI t)), some (.int (nI 0))] [] h' ∧ isMo h' m Z' D A ∧ zG Z Z' ∧ Z' 12 = nI j' ∧ Z' 13 = 0 ∧ Z' 14 = nI (mm + t) ∧ j < j' ∧ j' ≤ C.length ∧ 1 ≤ t ∧ t ≤ 9 ∧ frG C j' ∧ fwF C.length (gd C) j (C.length - j) = fwF C.length (gd C) j' (C.length - j') ∧ wbF C.length (gd C) j (C.length - j) = List.replicate t (gd C j - 97) ++ wbF C.length (gd C) j' (C.length - j') ∧ xFr m (m + 10) h h' := by
  have h2 : nI j < nI C.length := nI_lt hj (by omega)
  have hx : xix (nI j) 60 := xix_nI (by omega) (by decide)
  have cj := nI_clamp (show j < 2 ^ 31 by omega)
  have ej := hT j hj
  have hi1 := in_lt hl
  have n00 : nI 0 = 0 := rfl
  have q1 := mo_z12 q (nI (j + 1))
  by_cases h3 : j + 1 < C.length ∧ nuC (gd C (j + 1)) = true
  · obtain ⟨t, t2, t9, et⟩ := nu_t h3.2
    obtain ⟨g1, g2, g3⟩ := go_b hC h3.1 hl h3.2 t9 et
    have h4 : nI (j + 1) < nI C.length := nI_lt h3.1 (by omega)
    have hx1 : xix (nI (j + 1)) 60 := xix_nI (by omega) (by decide)
    have cj1 := nI_clamp (show j + 1 < 2 ^ 31 by omega)
    have ej1 := hT (j + 1) h3.1
    have hi2 := in_nu h3.2
    have t1 : (1 : Int32) < nI t := nI_lt (a := 1) (by omega) (by omega)
    have q2 := mo_z12 q1 (nI (j + 1 + 1))
    have q3 := mo_z14 q2 (nI (mm + t))
    refine ⟨_, _, j + 2, t, ?_, q3, ((zG_12 _ _).tr (zG_12 _ _)).tr (zG_14 _ _), ?_, ?_, va_up_self _ _ _, by omega, by omega, by omega, t9, g1, g2, g3, ((xFr_mo _ _ _ _).tr (xFr_mo _ _ _ _)).tr (xFr_mo _ _ _ _)⟩
    · rw [u_X8_go_15]
      simp only [u_X8_go_0, u_X8_go_1, u_X8_go_2, u_X8_go_5, u_X8_go_6, u_X8_go_7, u_X8_go_10, u_X8_go_11, u_X8_go_12, u_X8_go_16, u_X8_go_19, u_X8_go_20, u_X8_go_23, u_X8_go_26, u_X8_go_27, u_X8_go_30, u_X8_go_33, u_X8_go_34, u_X8_go_37, u_X8_go_38, u_X8_go_41, u_X8_go_42, u_X8_go_43, u_X8_go_44, u_X8_go_46, u_X8_go_48, u_X8_go_51, u_X8_go_54, u_X8_go_55, u_X8_go_56, u_X8_go_59, u_X8_go_60, u_X8_go_61, u_X8_go_64, u_X8_go_65, u_X8_go_68, u_X8_go_69, u_X8_go_72, u_X8_go_75, u_X8_go_76, u_X8_go_79, u_X8_go_80, u_X8_go_83, u_X8_go_84, u_X8_go_86, u_X8_go_88, u_X8_go_91, u_X8_go_94, u_X8_go_95, u_X8_go_98, u_X8_go_99, u_X8_go_102, u_X8_go_103, u_X8_go_105, u_X8_go_106, u_X8_go_109, u_X8_go_110, u_X8_go_111, u_X8_go_112, u_X8_go_113, u_X8_go_116, u_X8_go_117, u_X8_go_118, u_X8_go_121, u_X8_go_122, u_X8_go_125, u_X8_go_126, u_X8_go_127, u_X8_go_130, u_X8_go_131, u_X8_go_132, u_X8_go_135, u_X8_go_136, u_X8_go_137, u_X8_go_140, u_X8_go_141, u_X8_go_145, u_X8_go_146, u_X8_go_149, u_X8_go_150, u_X8_go_153, u_X8_go_154, u_X8_go_157, u_X8_go_158, u_X8_go_159, u_X8_go_162, u_X8_go_163, u_X8_go_164, u_X8_go_165, u_X8_go_166, u_X8_go_168, u_X8_go_169, u_X8_go_170, u_X8_go_171, u_X8_go_174, u_X8_go_175, u_X8_go_176, u_X8_go_177, u_X8_go_178, u_X8_go_179, u_X8_go_180, u_X8_go_183, u_X8_go_186, u_X8_go_189, u_X8_go_190, u_X8_go_191, u_X8_go_194, u_X8_go_197, q.ob, q.a4, q1.ob, q1.a4, q2.ob, z6, z12, z13, z14, va_up, h2, hx, cj, ej, hi1, i10, nI_of1, h4, hx1, cj1, ej1, hi2, et, t1, nI_add, n00, if_true, if_false, xgo_some, xgo_none, xgoI_none, xcat_n, xcat_i, xcat_r, xcat_z, List.length_nil, List.length_cons, List.getD_cons_zero, List.getD_cons_succ, List.set_cons_zero, List.set_cons_succ, Nat.zero_le, Nat.reduceAdd, Nat.reduceLeDiff, Nat.reduceEqDiff, reduceIte]
    · rw [va_up_ne _ _ (by decide), va_up_self]
    · rw [va_up_ne _ _ (by decide), va_up_ne _ _ (by decide), va_up_ne _ _ (by decide)]; exact z13
  · have hn : j + 1 < C.length → nuC (gd C (j + 1)) = false := fun z => Bool.eq_false_iff.mpr (fun y => h3 ⟨z, y⟩)
    obtain ⟨g1, g2, g3⟩ := go_c hC hj hl hn
    have t1 : ¬ (1 : Int32) < 1 := by decide
    have a0 : nI (j + 1) + 0 = nI (j + 1) := Int32.add_zero _
    have q2 := mo_z12 q1 (nI (j + 1))
    have q3 := mo_z14 q2 (nI (mm + 1))
    refine ⟨_, _, j + 1, 1, ?_, q3, ((zG_12 _ _).tr (zG_12 _ _)).tr (zG_14 _ _), ?_, ?_, va_up_self _ _ _, by omega, by omega, by omega, by omega, g1, g2, g3, ((xFr_mo _ _ _ _).tr (xFr_mo _ _ _ _)).tr (xFr_mo _ _ _ _)⟩
    · rw [u_X8_go_15]
      by_cases h4 : j + 1 < C.length
      · have h5 : nI (j + 1) < nI C.length := nI_lt h4 (by omega)
        have hx1 : xix (nI (j + 1)) 60 := xix_nI (by omega) (by decide)
        have cj1 := nI_clamp (show j + 1 < 2 ^ 31 by omega)
        have ej1 := hT (j + 1) h4
        have hi2 := in_nu0 (hn h4)
        simp only [u_X8_go_0, u_X8_go_1, u_X8_go_2, u_X8_go_5, u_X8_go_6, u_X8_go_7, u_X8_go_10, u_X8_go_11, u_X8_go_12, u_X8_go_16, u_X8_go_19, u_X8_go_20, u_X8_go_23, u_X8_go_26, u_X8_go_27, u_X8_go_30, u_X8_go_33, u_X8_go_34, u_X8_go_37, u_X8_go_38, u_X8_go_41, u_X8_go_42, u_X8_go_43, u_X8_go_44, u_X8_go_46, u_X8_go_48, u_X8_go_51, u_X8_go_54, u_X8_go_55, u_X8_go_56, u_X8_go_59, u_X8_go_60, u_X8_go_61, u_X8_go_64, u_X8_go_65, u_X8_go_68, u_X8_go_69, u_X8_go_72, u_X8_go_75, u_X8_go_76, u_X8_go_79, u_X8_go_80, u_X8_go_83, u_X8_go_84, u_X8_go_86, u_X8_go_88, u_X8_go_91, u_X8_go_94, u_X8_go_95, u_X8_go_98, u_X8_go_99, u_X8_go_102, u_X8_go_103, u_X8_go_105, u_X8_go_106, u_X8_go_109, u_X8_go_110, u_X8_go_111, u_X8_go_112, u_X8_go_113, u_X8_go_116, u_X8_go_117, u_X8_go_118, u_X8_go_121, u_X8_go_122, u_X8_go_125, u_X8_go_126, u_X8_go_127, u_X8_go_130, u_X8_go_131, u_X8_go_132, u_X8_go_135, u_X8_go_136, u_X8_go_137, u_X8_go_140, u_X8_go_141, u_X8_go_145, u_X8_go_146, u_X8_go_149, u_X8_go_150, u_X8_go_153, u_X8_go_154, u_X8_go_157, u_X8_go_158, u_X8_go_159, u_X8_go_162, u_X8_go_163, u_X8_go_164, u_X8_go_165, u_X8_go_166, u_X8_go_168, u_X8_go_169, u_X8_go_170, u_X8_go_171, u_X8_go_174, u_X8_go_175, u_X8_go_176, u_X8_go_177, u_X8_go_178, u_X8_go_179, u_X8_go_180, u_X8_go_183, u_X8_go_186, u_X8_go_189, u_X8_go_190, u_X8_go_191, u_X8_go_194, u_X8_go_197, q.ob, q.a4, q1.ob, q1.a4, q2.ob, z6, z12, z13, z14, va_up, h2, hx, cj, ej, hi1, i10, nI_of1, h5, hx1, cj1, ej1, hi2, t1, a0, n00, if_true, if_false, xgo_some, xgo_none, xgoI_none, xcat_n, xcat_i, xcat_r, xcat_z, List.length_nil, List.length_cons, List.getD_cons_zero, List.getD_cons_succ, List.set_cons_zero, List.set_cons_succ, Nat.zero_le, Nat.reduceAdd, Nat.reduceLeDiff, Nat.reduceEqDiff, reduceIte]
        rfl
      · have h5 : ¬ nI (j + 1) < nI C.length := nI_nlt (by omega) (by omega)
        simp only [u_X8_go_0, u_X8_go_1, u_X8_go_2, u_X8_go_5, u_X8_go_6, u_X8_go_7, u_X8_go_10, u_X8_go_11, u_X8_go_12, u_X8_go_16, u_X8_go_19, u_X8_go_20, u_X8_go_23, u_X8_go_26, u_X8_go_27, u_X8_go_30, u_X8_go_33, u_X8_go_34, u_X8_go_37, u_X8_go_38, u_X8_go_41, u_X8_go_42, u_X8_go_43, u_X8_go_44, u_X8_go_46, u_X8_go_48, u_X8_go_51, u_X8_go_54, u_X8_go_55, u_X8_go_56, u_X8_go_59, u_X8_go_60, u_X8_go_61, u_X8_go_64, u_X8_go_65, u_X8_go_68, u_X8_go_69, u_X8_go_72, u_X8_go_75, u_X8_go_76, u_X8_go_79, u_X8_go_80, u_X8_go_83, u_X8_go_84, u_X8_go_86, u_X8_go_88, u_X8_go_91, u_X8_go_94, u_X8_go_95, u_X8_go_98, u_X8_go_99, u_X8_go_102, u_X8_go_103, u_X8_go_105, u_X8_go_106, u_X8_go_109, u_X8_go_110, u_X8_go_111, u_X8_go_112, u_X8_go_113, u_X8_go_116, u_X8_go_117, u_X8_go_118, u_X8_go_121, u_X8_go_122, u_X8_go_125, u_X8_go_126, u_X8_go_127, u_X8_go_130, u_X8_go_131, u_X8_go_132, u_X8_go_135, u_X8_go_136, u_X8_go_137, u_X8_go_140, u_X8_go_141, u_X8_go_145, u_X8_go_146, u_X8_go_149, u_X8_go_150, u_X8_go_153, u_X8_go_154, u_X8_go_157, u_X8_go_158, u_X8_go_159, u_X8_go_162, u_X8_go_163, u_X8_go_164, u_X8_go_165, u_X8_go_166, u_X8_go_168, u_X8_go_169, u_X8_go_170, u_X8_go_171, u_X8_go_174, u_X8_go_175, u_X8_go_176, u_X8_go_177, u_X8_go_178, u_X8_go_179, u_X8_go_180, u_X8_go_183, u_X8_go_186, u_X8_go_189, u_X8_go_190, u_X8_go_191, u_X8_go_194, u_X8_go_197, q.ob, q.a4, q1.ob, q1.a4, q2.ob, z6, z12, z13, z14, va_up, h2, hx, cj, ej, hi1, i10, nI_of1, h5, t1, a0, n00, if_true, if_false, xgo_some, xgo_none, xgoI_none, xcat_n, xcat_i, xcat_r, xcat_z, List.length_nil, List.length_cons, List.getD_cons_zero, List.getD_cons_succ, List.set_cons_zero, List.set_cons_succ, Nat.zero_le, Nat.reduceAdd, Nat.reduceLeDiff, Nat.reduceEqDiff, reduceIte]
        rfl
    · rw [va_up_ne _ _ (by decide), va_up_self]
    · rw [va_up_ne _ _ (by decide), va_up_ne _ _ (by decide), va_up_ne _ _ (by decide)]; exact z13
theorem lp_go0 {A : Nat → Nat → Int32} {C : List Int32} (hC : C.length ≤ 60) (hT : ∀ i, i < C.length → A 4 i = gd C i) : ∀ (k j mm : Nat) (h : xH) (Z : Nat → Int32) (l2 l3 l4 : Option Value), C.length - j ≤ k → j ≤ C.length → isMo h m Z D A → Z 6 = nI C.length → Z 12 = nI j → Z 13 = 0 → Z 14 = nI mm → frG C j →
    ∃ h' Z', xf 116 15 [some (.ref m), some (.int 0), l2, l3, l4] [] h = some (.inl none, h') ∧ isMo h' m Z' D A ∧ zG Z Z' ∧ Z' 12 = nI (fwF C.length (gd C) j (C.length - j)) ∧ Z' 13 = (if fwF C.length (gd C) j (C.length - j) = C.length then 0 else 1) ∧ (fwF C.length (gd C) j (C.length - j) = C.length → Z' 14 = nI (mm + (wbF C.length (gd C) j (C.length - j)).length)) ∧ xFr m (m + 10) h h' := by
  intro k
  induction k with
  | zero =>
    intro j mm h Z l2 l3 l4 hk hj q z6 z12 z13 z14 fr
    have e : j = C.length := by omega
    have h2 : ¬ nI j < nI C.length := nI_nlt (by omega) (by omega)
    have e0 : C.length - j = 0 := by omega
    refine ⟨h, Z, ?_, q, fun _ _ _ _ => rfl, ?_, ?_, fun _ => ?_, xFr.rf⟩
    · rw [u_X8_go_15]
      simp only [u_X8_go_16, u_X8_go_19, u_X8_go_20, u_X8_go_23, u_X8_go_197, q.ob, z12, z6, h2, if_false, xgo_some, xgo_none, xgoI_none, xcat_n, xcat_i, xcat_r, xcat_z, List.length_nil, List.length_cons, List.getD_cons_zero, List.getD_cons_succ, List.set_cons_zero, List.set_cons_succ, Nat.zero_le, Nat.reduceAdd, Nat.reduceLeDiff, Nat.reduceEqDiff, reduceIte]
    · rw [e0, fwF]; exact z12
    · rw [e0, fwF, if_pos e]; exact z13
    · rw [e0, wbF]; exact z14
  | succ k ih =>
    intro j mm h Z l2 l3 l4 hk hj q z6 z12 z13 z14 fr
    by_cases e : j = C.length
    · have h2 : ¬ nI j < nI C.length := nI_nlt (by omega) (by omega)
      have e0 : C.length - j = 0 := by omega
      refine ⟨h, Z, ?_, q, fun _ _ _ _ => rfl, ?_, ?_, fun _ => ?_, xFr.rf⟩
      · rw [u_X8_go_15]
        simp only [u_X8_go_16, u_X8_go_19, u_X8_go_20, u_X8_go_23, u_X8_go_197, q.ob, z12, z6, h2, if_false, xgo_some, xgo_none, xgoI_none, xcat_n, xcat_i, xcat_r, xcat_z, List.length_nil, List.length_cons, List.getD_cons_zero, List.getD_cons_succ, List.set_cons_zero, List.set_cons_succ, Nat.zero_le, Nat.reduceAdd, Nat.reduceLeDiff, Nat.reduceEqDiff, reduceIte]
      · rw [e0, fwF]; exact z12
      · rw [e0, fwF, if_pos e]; exact z13
      · rw [e0, wbF]; exact z14
    · have hj' : j < C.length := by omega
      cases hl : ltC (gd C j) with
      | true =>
        obtain ⟨h1, Z1, j', t, a1, a2, a3, a4, a5, a6, a7, a8, a9, a10, a11, a12, a13, a14⟩ := lp_gs hC q z6 hT hj' z12 z13 z14 hl 0 l2 l3 l4
        obtain ⟨h', Z', b1, b2, b3, b4, b5, b6, b7⟩ := ih j' (mm + t) h1 Z1 (some (.int (gd C j))) (some (.int (nI t))) (some (.int (nI 0))) (by omega) a8 a2 (by rw [a3 6 (by decide) (by decide) (by decide)]; exact z6) a4 a5 a6 a11
        have ht : nI 0 < nI t := nI_lt (by omega) (by omega)
        refine ⟨h', Z', ?_, b2, a3.tr b3, by rw [a12]; exact b4, by rw [a12]; exact b5, fun z => ?_, a14.tr b7⟩
        · rw [a1, u_X8_go_143]
          simp only [u_X8_go_145, u_X8_go_146, u_X8_go_149, u_X8_go_150, u_X8_go_186, u_X8_go_194, ht, if_true, xgo_some, xgo_none, xgoI_none, xcat_n, xcat_i, xcat_r, xcat_z, List.length_nil, List.length_cons, List.getD_cons_zero, List.getD_cons_succ, List.set_cons_zero, List.set_cons_succ, Nat.zero_le, Nat.reduceAdd, Nat.reduceLeDiff, Nat.reduceEqDiff, reduceIte]
          exact b1
        · rw [a12] at z
          rw [b6 z, a13, List.length_append, List.length_replicate, Nat.add_assoc]
      | false =>
        have h2 : nI j < nI C.length := nI_lt hj' (by omega)
        have hx : xix (nI j) 60 := xix_nI (by omega) (by decide)
        have cj := nI_clamp (show j < 2 ^ 31 by omega)
        have ej := hT j hj'
        have hi1 := in_lt0 hl
        have q1 := mo_z13 q 1
        have ef : fwF C.length (gd C) j (C.length - j) = j := by
          rw [show C.length - j = C.length - (j + 1) + 1 by omega, fwF, if_neg]
          intro z
          rcases z with z | z
          · rw [bf_in hC hj', hl] at z; exact absurd z (by decide)
          · exact fr z
        refine ⟨_, _, ?_, q1, zG_13 _ _, ?_, ?_, fun z => ?_, xFr_mo _ _ _ _⟩
        · rw [u_X8_go_15]
          simp only [u_X8_go_0, u_X8_go_1, u_X8_go_2, u_X8_go_5, u_X8_go_6, u_X8_go_7, u_X8_go_10, u_X8_go_11, u_X8_go_12, u_X8_go_16, u_X8_go_19, u_X8_go_20, u_X8_go_23, u_X8_go_26, u_X8_go_27, u_X8_go_30, u_X8_go_33, u_X8_go_34, u_X8_go_37, u_X8_go_38, u_X8_go_41, u_X8_go_42, u_X8_go_43, u_X8_go_44, u_X8_go_46, u_X8_go_48, u_X8_go_51, u_X8_go_54, u_X8_go_55, u_X8_go_56, u_X8_go_59, u_X8_go_60, u_X8_go_61, u_X8_go_64, u_X8_go_65, u_X8_go_68, u_X8_go_69, u_X8_go_72, u_X8_go_75, u_X8_go_76, u_X8_go_79, u_X8_go_80, u_X8_go_83, u_X8_go_84, u_X8_go_86, u_X8_go_88, u_X8_go_91, u_X8_go_94, u_X8_go_95, u_X8_go_98, u_X8_go_99, u_X8_go_102, u_X8_go_103, u_X8_go_105, u_X8_go_106, u_X8_go_109, u_X8_go_110, u_X8_go_111, u_X8_go_112, u_X8_go_113, u_X8_go_116, u_X8_go_117, u_X8_go_118, u_X8_go_121, u_X8_go_122, u_X8_go_125, u_X8_go_126, u_X8_go_127, u_X8_go_130, u_X8_go_131, u_X8_go_132, u_X8_go_135, u_X8_go_136, u_X8_go_137, u_X8_go_140, u_X8_go_141, u_X8_go_145, u_X8_go_146, u_X8_go_149, u_X8_go_150, u_X8_go_153, u_X8_go_154, u_X8_go_157, u_X8_go_158, u_X8_go_159, u_X8_go_162, u_X8_go_163, u_X8_go_164, u_X8_go_165, u_X8_go_166, u_X8_go_168, u_X8_go_169, u_X8_go_170, u_X8_go_171, u_X8_go_174, u_X8_go_175, u_X8_go_176, u_X8_go_177, u_X8_go_178, u_X8_go_179, u_X8_go_180, u_X8_go_183, u_X8_go_186, u_X8_go_189, u_X8_go_190, u_X8_go_191, u_X8_go_194, u_X8_go_197, q.ob, q.a4, z6, z12, z13, h2, hx, cj, ej, hi1, eq_self, or_true, if_true, xgo_some, xgo_none, xgoI_none, xcat_n, xcat_i, xcat_r, xcat_z, List.length_nil, List.length_cons, List.getD_cons_zero, List.getD_cons_succ, List.set_cons_zero, List.set_cons_succ, Nat.zero_le, Nat.reduceAdd, Nat.reduceLeDiff, Nat.reduceEqDiff, reduceIte]
          rw [u_X8_go_15]
          simp only [u_X8_go_0, u_X8_go_1, u_X8_go_2, u_X8_go_5, u_X8_go_6, u_X8_go_7, u_X8_go_10, u_X8_go_11, u_X8_go_12, u_X8_go_16, u_X8_go_19, u_X8_go_20, u_X8_go_23, u_X8_go_26, u_X8_go_27, u_X8_go_30, u_X8_go_33, u_X8_go_34, u_X8_go_37, u_X8_go_38, u_X8_go_41, u_X8_go_42, u_X8_go_43, u_X8_go_44, u_X8_go_46, u_X8_go_48, u_X8_go_51, u_X8_go_54, u_X8_go_55, u_X8_go_56, u_X8_go_59, u_X8_go_60, u_X8_go_61, u_X8_go_64, u_X8_go_65, u_X8_go_68, u_X8_go_69, u_X8_go_72, u_X8_go_75, u_X8_go_76, u_X8_go_79, u_X8_go_80, u_X8_go_83, u_X8_go_84, u_X8_go_86, u_X8_go_88, u_X8_go_91, u_X8_go_94, u_X8_go_95, u_X8_go_98, u_X8_go_99, u_X8_go_102, u_X8_go_103, u_X8_go_105, u_X8_go_106, u_X8_go_109, u_X8_go_110, u_X8_go_111, u_X8_go_112, u_X8_go_113, u_X8_go_116, u_X8_go_117, u_X8_go_118, u_X8_go_121, u_X8_go_122, u_X8_go_125, u_X8_go_126, u_X8_go_127, u_X8_go_130, u_X8_go_131, u_X8_go_132, u_X8_go_135, u_X8_go_136, u_X8_go_137, u_X8_go_140, u_X8_go_141, u_X8_go_145, u_X8_go_146, u_X8_go_149, u_X8_go_150, u_X8_go_153, u_X8_go_154, u_X8_go_157, u_X8_go_158, u_X8_go_159, u_X8_go_162, u_X8_go_163, u_X8_go_164, u_X8_go_165, u_X8_go_166, u_X8_go_168, u_X8_go_169, u_X8_go_170, u_X8_go_171, u_X8_go_174, u_X8_go_175, u_X8_go_176, u_X8_go_177, u_X8_go_178, u_X8_go_179, u_X8_go_180, u_X8_go_183, u_X8_go_186, u_X8_go_189, u_X8_go_190, u_X8_go_191, u_X8_go_194, u_X8_go_197, q1.ob, z6, z12, va_up, h2, i10, if_true, if_false, xgo_some, xgo_none, xgoI_none, xcat_n, xcat_i, xcat_r, xcat_z, List.length_nil, List.length_cons, List.getD_cons_zero, List.getD_cons_succ, List.set_cons_zero, List.set_cons_succ, Nat.zero_le, Nat.reduceAdd, Nat.reduceLeDiff, Nat.reduceEqDiff, reduceIte]
        · rw [va_up_ne _ _ (by decide), ef]; exact z12
        · rw [va_up_self, ef, if_neg e]
        · rw [ef] at z; exact absurd z e
theorem fr_0 {C : List Int32} (hC : C.length ≤ 60) : frG C 0 := by
  intro z
  have z2 := z.2
  have e1 : nI 0 - 1 = -1 := by decide
  rw [e1] at z2
  have e2 : bfAt C.length (gd C) (-1) = -1 := by
    unfold bfAt clAt
    rw [if_pos (show (-1 : Int32) < 0 by decide)]
    exact ite_self _
  rw [e2] at z2
  exact absurd z2 (by decide)
theorem m_go0 {h : xH} {Z : Nat → Int32} {A : Nat → Nat → Int32} {C : List Int32} (hC : C.length ≤ 60) (q : isMo h m Z D A) (z6 : Z 6 = nI C.length) (hT : ∀ i, i < C.length → A 4 i = gd C i) :
    ∃ h' Z', xev 116 [.ref m, .int 0] h = some (.inl none, h') ∧ isMo h' m Z' D A ∧ zG Z Z' ∧ Z' 12 = nI (fwC C) ∧ Z' 13 = (if fwC C = C.length then 0 else 1) ∧ (fwC C = C.length → Z' 14 = nI (wbC C).length) ∧ xFr m (m + 10) h h' := by
  have q1 := mo_z12 q 0
  have q2 := mo_z13 q1 0
  have q3 := mo_z14 q2 0
  obtain ⟨h', Z', a1, a2, a3, a4, a5, a6, a7⟩ := lp_go0 hC hT C.length 0 0 _ _ none none none (by omega) (by omega) q3 (by rw [va_up_ne _ _ (by decide), va_up_ne _ _ (by decide), va_up_ne _ _ (by decide)]; exact z6) (by rw [va_up_ne _ _ (by decide), va_up_ne _ _ (by decide), va_up_self]; rfl) (by rw [va_up_ne _ _ (by decide), va_up_self]) (by rw [va_up_self]; rfl) (fr_0 hC)
  rw [Nat.sub_zero] at a4 a5 a6
  rw [Nat.zero_add] at a6
  refine ⟨h', Z', ?_, a2, (((zG_12 _ _).tr (zG_13 _ _)).tr (zG_14 _ _)).tr a3, a4, a5, a6, (((xFr_mo _ _ _ _).tr (xFr_mo _ _ _ _)).tr (xFr_mo _ _ _ _)).tr a7⟩
  rw [e_X8_go]
  simp only [u_X8_go_0, u_X8_go_1, u_X8_go_2, u_X8_go_5, u_X8_go_6, u_X8_go_7, u_X8_go_10, u_X8_go_11, u_X8_go_12, q.ob, q1.ob, q2.ob, eq_self, true_or, xgo_some, xgo_none, xgoI_none, xcat_n, xcat_i, xcat_r, xcat_z, List.length_nil, List.length_cons, List.getD_cons_zero, List.getD_cons_succ, List.set_cons_zero, List.set_cons_succ, Nat.zero_le, Nat.reduceAdd, Nat.reduceLeDiff, Nat.reduceEqDiff, reduceIte]
  exact a1
theorem lp_goI {Z : Nat → Int32} {T : xNs × Int32 × Int32 × Int32 × Int32} {c : Int32} {t : Nat} (t9 : t ≤ 9) : ∀ (k i : Nat) (h : xH) (A : Nat → Nat → Int32) (L : List Int32), i + k = t → L.length + k ≤ 64 → isMo h m Z D A → rS (A 1) (L, T) →
    ∃ h' f, xf 116 143 [some (.ref m), some (.int 1), some (.int c), some (.int (nI t)), some (.int (nI i))] [] h = xf 116 186 [some (.ref m), some (.int 1), some (.int c), some (.int (nI t)), some (.int (nI t))] [] h' ∧ isMo h' m Z D (va_up A 1 f) ∧ rS f (L ++ List.replicate k (c - 97), T) ∧ xFr m (m + 10) h h' := by
  intro k
  induction k with
  | zero =>
    intro i h A L hk hL q r
    have h2 : ¬ nI i < nI t := nI_nlt (by omega) (by omega)
    have hi : i = t := by omega
    subst hi
    refine ⟨h, A 1, ?_, by rw [va_up_eta]; exact q, by rw [List.replicate_zero, List.append_nil]; exact r, xFr.rf⟩
    rw [u_X8_go_143]
    simp only [u_X8_go_145, u_X8_go_146, h2, if_false, xgo_some, xgo_none, xgoI_none, xcat_n, xcat_i, xcat_r, xcat_z, List.length_nil, List.length_cons, List.getD_cons_zero, List.getD_cons_succ, List.set_cons_zero, List.set_cons_succ, Nat.zero_le, Nat.reduceAdd, Nat.reduceLeDiff, Nat.reduceEqDiff, reduceIte]
  | succ k ih =>
    intro i h A L hk hL q r
    have h2 : nI i < nI t := nI_lt (by omega) (by omega)
    have r1 := r.1
    simp only at r1
    have q1 := mo_w q (k := 1) (by decide) (by decide) (1 + L.length) (c - 97)
    have q2 := mo_w q1 (k := 1) (by decide) (by decide) 0 (nI (L.length + 1))
    rw [va_up_self, va_up_up] at q2
    have hx : xix (nI (1 + L.length)) 117 := xix_nI (by omega) (by decide)
    have e0 : va_up (A 1) (1 + L.length) (c - 97) 0 = nI L.length := by rw [va_up_ne _ _ (by omega)]; exact r1
    obtain ⟨h', f, a1, a2, a3, a4⟩ := ih (i + 1) _ _ (L ++ [c - 97]) (by omega) (by rw [List.length_append]; simp only [List.length_cons, List.length_nil]; omega) q2 (by rw [va_up_self]; exact rS_push r (by omega) (c - 97))
    rw [va_up_up] at a2
    rw [List.append_assoc] at a3
    refine ⟨h', f, ?_, a2, a3, ((xFr_si _ _ _ _ _ (by decide)).tr (xFr_si _ _ _ _ _ (by decide))).tr a4⟩
    rw [u_X8_go_143]
    simp only [u_X8_go_0, u_X8_go_1, u_X8_go_2, u_X8_go_5, u_X8_go_6, u_X8_go_7, u_X8_go_10, u_X8_go_11, u_X8_go_12, u_X8_go_16, u_X8_go_19, u_X8_go_20, u_X8_go_23, u_X8_go_26, u_X8_go_27, u_X8_go_30, u_X8_go_33, u_X8_go_34, u_X8_go_37, u_X8_go_38, u_X8_go_41, u_X8_go_42, u_X8_go_43, u_X8_go_44, u_X8_go_46, u_X8_go_48, u_X8_go_51, u_X8_go_54, u_X8_go_55, u_X8_go_56, u_X8_go_59, u_X8_go_60, u_X8_go_61, u_X8_go_64, u_X8_go_65, u_X8_go_68, u_X8_go_69, u_X8_go_72, u_X8_go_75, u_X8_go_76, u_X8_go_79, u_X8_go_80, u_X8_go_83, u_X8_go_84, u_X8_go_86, u_X8_go_88, u_X8_go_91, u_X8_go_94, u_X8_go_95, u_X8_go_98, u_X8_go_99, u_X8_go_102, u_X8_go_103, u_X8_go_105, u_X8_go_106, u_X8_go_109, u_X8_go_110, u_X8_go_111, u_X8_go_112, u_X8_go_113, u_X8_go_116, u_X8_go_117, u_X8_go_118, u_X8_go_121, u_X8_go_122, u_X8_go_125, u_X8_go_126, u_X8_go_127, u_X8_go_130, u_X8_go_131, u_X8_go_132, u_X8_go_135, u_X8_go_136, u_X8_go_137, u_X8_go_140, u_X8_go_141, u_X8_go_145, u_X8_go_146, u_X8_go_149, u_X8_go_150, u_X8_go_153, u_X8_go_154, u_X8_go_157, u_X8_go_158, u_X8_go_159, u_X8_go_162, u_X8_go_163, u_X8_go_164, u_X8_go_165, u_X8_go_166, u_X8_go_168, u_X8_go_169, u_X8_go_170, u_X8_go_171, u_X8_go_174, u_X8_go_175, u_X8_go_176, u_X8_go_177, u_X8_go_178, u_X8_go_179, u_X8_go_180, u_X8_go_183, u_X8_go_189, u_X8_go_190, u_X8_go_191, u_X8_go_194, u_X8_go_197, q.ob, q.a1, h2, i10, x0117, c00, r1, nI_s1, hx, nI_clamp (show 1 + L.length < 2 ^ 31 by omega), q1.ob, q1.a1, va_up_self, e0, nI_of1, if_true, if_false, xgo_some, xgo_none, xgoI_none, xcat_n, xcat_i, xcat_r, xcat_z, List.length_nil, List.length_cons, List.getD_cons_zero, List.getD_cons_succ, List.set_cons_zero, List.set_cons_succ, Nat.zero_le, Nat.reduceAdd, Nat.reduceLeDiff, Nat.reduceEqDiff, reduceIte]
    exact a1
theorem lp_go1 {C : List Int32} {T : xNs × Int32 × Int32 × Int32 × Int32} (hC : C.length ≤ 60) : ∀ (k j mm : Nat) (h : xH) (Z : Nat → Int32) (A : Nat → Nat → Int32) (L : List Int32) (l2 l3 l4 : Option Value), C.length - j ≤ k → j ≤ C.length → isMo h m Z D A → Z 6 = nI C.length → Z 12 = nI j → Z 13 = 0 → Z 14 = nI mm → (∀ i, i < C.length → A 4 i = gd C i) → frG C j → fwF C.length (gd C) j (C.length - j) = C.length → rS (A 1) (L, T) → L.length + (wbF C.length (gd C) j (C.length - j)).length ≤ 64 →
    ∃ h' Z' f, xf 116 15 [some (.ref m), some (.int 1), l2, l3, l4] [] h = some (.inl none, h') ∧ isMo h' m Z' D (va_up A 1 f) ∧ zG Z Z' ∧ rS f (L ++ wbF C.length (gd C) j (C.length - j), T) ∧ xFr m (m + 10) h h' := by
  intro k
  induction k with
  | zero =>
    intro j mm h Z A L l2 l3 l4 hk hj q z6 z12 z13 z14 hT fr hf r hL
    have h2 : ¬ nI j < nI C.length := nI_nlt (by omega) (by omega)
    have e0 : C.length - j = 0 := by omega
    refine ⟨h, Z, A 1, ?_, by rw [va_up_eta]; exact q, fun _ _ _ _ => rfl, ?_, xFr.rf⟩
    · rw [u_X8_go_15]
      simp only [u_X8_go_16, u_X8_go_19, u_X8_go_20, u_X8_go_23, u_X8_go_197, q.ob, z12, z6, h2, if_false, xgo_some, xgo_none, xgoI_none, xcat_n, xcat_i, xcat_r, xcat_z, List.length_nil, List.length_cons, List.getD_cons_zero, List.getD_cons_succ, List.set_cons_zero, List.set_cons_succ, Nat.zero_le, Nat.reduceAdd, Nat.reduceLeDiff, Nat.reduceEqDiff, reduceIte]
    · rw [e0, wbF, List.append_nil]; exact r
  | succ k ih =>
    intro j mm h Z A L l2 l3 l4 hk hj q z6 z12 z13 z14 hT fr hf r hL
    by_cases e : j = C.length
    · have h2 : ¬ nI j < nI C.length := nI_nlt (by omega) (by omega)
      have e0 : C.length - j = 0 := by omega
      refine ⟨h, Z, A 1, ?_, by rw [va_up_eta]; exact q, fun _ _ _ _ => rfl, ?_, xFr.rf⟩
      · rw [u_X8_go_15]
        simp only [u_X8_go_16, u_X8_go_19, u_X8_go_20, u_X8_go_23, u_X8_go_197, q.ob, z12, z6, h2, if_false, xgo_some, xgo_none, xgoI_none, xcat_n, xcat_i, xcat_r, xcat_z, List.length_nil, List.length_cons, List.getD_cons_zero, List.getD_cons_succ, List.set_cons_zero, List.set_cons_succ, Nat.zero_le, Nat.reduceAdd, Nat.reduceLeDiff, Nat.reduceEqDiff, reduceIte]
      · rw [e0, wbF, List.append_nil]; exact r
    · have hj' : j < C.length := by omega
      cases hl : ltC (gd C j) with
      | true =>
        obtain ⟨h1, Z1, j', t, a1, a2, a3, a4, a5, a6, a7, a8, a9, a10, a11, a12, a13, a14⟩ := lp_gs hC q z6 hT hj' z12 z13 z14 hl 1 l2 l3 l4
        rw [a12] at hf
        rw [a13, List.length_append, List.length_replicate] at hL
        obtain ⟨h2, f2, b1, b2, b3, b4⟩ := lp_goI (c := gd C j) a10 t 0 h1 A L (by omega) (by omega) a2 r
        obtain ⟨h', Z', f, c1, c2, c3, c4, c5⟩ := ih j' (mm + t) h2 Z1 _ _ (some (.int (gd C j))) (some (.int (nI t))) (some (.int (nI t))) (by omega) a8 b2 (by rw [a3 6 (by decide) (by decide) (by decide)]; exact z6) a4 a5 a6 (fun i hi => by rw [va_up_ne _ _ (show 4 ≠ 1 by decide)]; exact hT i hi) a11 hf (by rw [va_up_self]; exact b3) (by rw [List.length_append, List.length_replicate]; omega)
        rw [va_up_up] at c2
        rw [List.append_assoc, ← a13] at c4
        refine ⟨h', Z', f, ?_, c2, a3.tr c3, c4, (a14.tr b4).tr c5⟩
        rw [a1, b1]
        simp only [u_X8_go_186, u_X8_go_194, xgo_some, xgo_none, xgoI_none, xcat_n, xcat_i, xcat_r, xcat_z, List.length_nil, List.length_cons, List.getD_cons_zero, List.getD_cons_succ, List.set_cons_zero, List.set_cons_succ, Nat.zero_le, Nat.reduceAdd, Nat.reduceLeDiff, Nat.reduceEqDiff, reduceIte]
        exact c1
      | false =>
        have ef : fwF C.length (gd C) j (C.length - j) = j := by
          rw [show C.length - j = C.length - (j + 1) + 1 by omega, fwF, if_neg]
          intro z
          rcases z with z | z
          · rw [bf_in hC hj', hl] at z; exact absurd z (by decide)
          · exact fr z
        rw [ef] at hf
        exact absurd hf e
theorem m_go1 {h : xH} {Z : Nat → Int32} {A : Nat → Nat → Int32} {C L : List Int32} {T : xNs × Int32 × Int32 × Int32 × Int32} (hC : C.length ≤ 60) (q : isMo h m Z D A) (z6 : Z 6 = nI C.length) (hT : ∀ i, i < C.length → A 4 i = gd C i) (hf : fwC C = C.length) (r : rS (A 1) (L, T)) (hL : L.length + (wbC C).length ≤ 64) :
    ∃ h' Z' f, xev 116 [.ref m, .int 1] h = some (.inl none, h') ∧ isMo h' m Z' D (va_up A 1 f) ∧ zG Z Z' ∧ rS f (L ++ wbC C, T) ∧ xFr m (m + 10) h h' := by
  have q1 := mo_z12 q 0
  have q2 := mo_z13 q1 0
  have q3 := mo_z14 q2 0
  have e0 : C.length - 0 = C.length := Nat.sub_zero _
  obtain ⟨h', Z', f, a1, a2, a3, a4, a5⟩ := lp_go1 hC C.length 0 0 _ _ A L none none none (by omega) (by omega) q3 (by rw [va_up_ne _ _ (by decide), va_up_ne _ _ (by decide), va_up_ne _ _ (by decide)]; exact z6) (by rw [va_up_ne _ _ (by decide), va_up_ne _ _ (by decide), va_up_self]; rfl) (by rw [va_up_ne _ _ (by decide), va_up_self]) (by rw [va_up_self]; rfl) hT (fr_0 hC) (by rw [e0]; exact hf) r (by rw [e0]; exact hL)
  rw [Nat.sub_zero] at a4
  refine ⟨h', Z', f, ?_, a2, (((zG_12 _ _).tr (zG_13 _ _)).tr (zG_14 _ _)).tr a3, a4, (((xFr_mo _ _ _ _).tr (xFr_mo _ _ _ _)).tr (xFr_mo _ _ _ _)).tr a5⟩
  rw [e_X8_go]
  simp only [u_X8_go_0, u_X8_go_1, u_X8_go_2, u_X8_go_5, u_X8_go_6, u_X8_go_7, u_X8_go_10, u_X8_go_11, u_X8_go_12, q.ob, q1.ob, q2.ob, eq_self, true_or, xgo_some, xgo_none, xgoI_none, xcat_n, xcat_i, xcat_r, xcat_z, List.length_nil, List.length_cons, List.getD_cons_zero, List.getD_cons_succ, List.set_cons_zero, List.set_cons_succ, Nat.zero_le, Nat.reduceAdd, Nat.reduceLeDiff, Nat.reduceEqDiff, reduceIte]
  exact a1
end GO
