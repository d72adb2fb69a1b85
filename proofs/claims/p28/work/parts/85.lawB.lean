/-! The law: something that is possible is done. -/
section LB
variable {h : xH} {x : Nat} {P : pP}
theorem out_in {r : Option (xR × xH)} {s : (Int32 × pP) ⊕ Nat} {v : Int32} {P' : pP} (p : outP x h r s) (e : s = .inl (v, P')) : ∃ h', r = some (.inl (some (.int v)), h') ∧ isP h' x P' ∧ xFr x (x + 139) h h' := by
  rw [e] at p
  exact p
theorem lts_all {C : List Int32} (hC : C.length ≤ 60) (hl : ∀ j, j < C.length → ltC (gd C j) = true) : ∀ (k j : Nat), j + k = C.length → fwF C.length (gd C) j k = C.length ∧ (wbF C.length (gd C) j k).length = k := by
  intro k
  induction k with
  | zero => intro j hj; exact ⟨hj, rfl⟩
  | succ k ih =>
    intro j hj
    obtain ⟨_, g2, g3⟩ := go_c hC (show j < C.length by omega) (hl j (by omega)) (fun z => by
      cases e : nuC (gd C (j + 1)) with
      | false => rfl
      | true =>
        have := lt_nu e
        rw [hl (j + 1) z] at this
        cases this)
    obtain ⟨i1, i2⟩ := ih (j + 1) (by omega)
    rw [show C.length - j = k + 1 by omega, show C.length - (j + 1) = k by omega] at g2 g3
    rw [g2, g3, i1, List.length_append, List.length_replicate, i2]
    exact ⟨rfl, by omega⟩
theorem lt_97 {m : Nat} (hm : m < 4) : ltC (nI (97 + m)) = true ∧ ¬ nI (97 + m) < 33 ∧ ¬ (126 : Int32) < nI (97 + m) := by
  refine ⟨?_, nI_nlt (b := 33) (by omega) (by omega), nI_nlt (a := 126) (by omega) (by omega)⟩
  unfold ltC
  rw [Bool.and_eq_true, decide_eq_true_eq, decide_eq_true_eq]
  exact ⟨nI_nlt (b := 97) (by omega) (by omega), nI_nlt (a := 104) (by omega) (by omega)⟩
theorem lp_fill {v : Int32} {X : xS} {Hs : List xS} {many : Nat} (hm : many ≤ 60) : ∀ (k i : Nat) (h : xH) (C : List Int32) (l3 : Option Value), i + k = many → C.length = i → (∀ j, j < C.length → ltC (gd C j) = true) → isP h x (X, Hs, C) →
    ∃ h' C' l3', xf 95 8 [some (.ref x), some (.int v), some (.int (nI many)), l3, some (.int (nI i))] [] h = xf 95 38 [some (.ref x), some (.int v), some (.int (nI many)), l3', some (.int (nI many))] [] h' ∧ isP h' x (X, Hs, C') ∧ xFr x (x + 139) h h' ∧ C'.length = many ∧ ∀ j, j < C'.length → ltC (gd C' j) = true := by
  intro k
  induction k with
  | zero =>
    intro i h C l3 hk hC hl q
    have h2 : ¬ nI i < nI many := nI_nlt (by omega) (by omega)
    have e : i = many := by omega
    refine ⟨h, C, l3, ?_, q, xFr.rf, by omega, hl⟩
    rw [u_L_grow_8]
    simp only [u_L_grow_10, u_L_grow_11, h2, if_false, xgo_some, xgo_none, xgoI_none, xcat_n, xcat_i, xcat_r, xcat_z, List.length_nil, List.length_cons, List.getD_cons_zero, List.getD_cons_succ, List.set_cons_zero, List.set_cons_succ, Nat.zero_le, Nat.reduceAdd, Nat.reduceLeDiff, Nat.reduceEqDiff, reduceIte]
    rw [e]
  | succ k ih =>
    intro i h C l3 hk hC hl q
    have h2 : nI i < nI many := nI_lt (by omega) (by omega)
    obtain ⟨m, m4, em⟩ := l_low (h := h) (v >>> (2 * nI i &&& 31)) (c := 4) (n := 4) rfl (by omega) (by omega)
    obtain ⟨t1, t2, t3⟩ := lt_97 m4
    have pa := P_append q (nI (97 + m))
    have es : sp_append (X, Hs, C) (nI (97 + m)) = .inl (nI (C.length + 1), X, Hs, C ++ [nI (97 + m)]) := by
      unfold sp_append
      rw [if_neg (fun z => z.elim t2 t3), if_pos (show C.length < 60 by omega)]
    obtain ⟨h1, a1, a2, a3⟩ := out_in pa es
    have e97 : (97 : Int32) + nI m = nI (97 + m) := nI_add 97 m
    obtain ⟨h', C', l3', b1, b2, b3, b4, b5⟩ := ih (i + 1) h1 (C ++ [nI (97 + m)]) (some (.int (nI (C.length + 1)))) (by omega) (by rw [List.length_append, List.length_singleton]; omega) (fun j hj => by
      rw [List.length_append, List.length_singleton] at hj
      by_cases e : j < C.length
      · rw [gd_sn1 e]; exact hl j e
      · rw [show j = C.length by omega, gd_sn2]; exact t1) a2
    refine ⟨h', C', l3', ?_, b2, a3.tr b3, b4, b5⟩
    rw [u_L_grow_8]
    simp only [u_L_grow_10, u_L_grow_11, u_L_grow_14, u_L_grow_15, u_L_grow_17, u_L_grow_18, u_L_grow_19, u_L_grow_21, u_L_grow_22, u_L_grow_23, u_L_grow_24, u_L_grow_27, u_L_grow_28, u_L_grow_31, u_L_grow_32, u_L_grow_35, h2, em, e97, q.ob, a1, nI_of1, if_true, xgo_some, xgo_none, xgoI_none, xcat_n, xcat_i, xcat_r, xcat_z, List.length_nil, List.length_cons, List.getD_cons_zero, List.getD_cons_succ, List.set_cons_zero, List.set_cons_succ, Nat.zero_le, Nat.reduceAdd, Nat.reduceLeDiff, Nat.reduceEqDiff, reduceIte]
    exact b1
/-- the buffer is filled with letters and, if there is room, put behind the row -/
theorem l_grow (q : isP h x P) (k : okP P) (v : Int32) {many : Nat} (h1 : 1 ≤ many) (hm : many ≤ 60) : ∃ h' P', xev 95 [.ref x, .int v, .int (nI many)] h = some (.inl none, h') ∧ isP h' x P' ∧ okP P' ∧ xFr x (x + 139) h h' := by
  obtain ⟨X, Hs, C⟩ := P
  obtain ⟨h1', a1, a2, a3⟩ := out_in (P_clear q) rfl
  obtain ⟨h2', C', l3', b1, b2, b3, b4, b5⟩ := lp_fill (v := v) hm many 0 h1' [] (some (.int (nI C.length))) (by omega) rfl (fun j hj => absurd hj (Nat.not_lt_zero j)) a2
  have k2 : okP (X, Hs, C') := k
  have hl : X.1.length ≤ 64 := k.1.1
  obtain ⟨g1, g2⟩ := lts_all (by omega) b5 C'.length 0 (by omega)
  have qc := Q_c0 b2
  have h0 : xev 95 [.ref x, .int v, .int (nI many)] h = xf 95 38 [some (.ref x), some (.int v), some (.int (nI many)), l3', some (.int (nI many))] [] h2' := by
    rw [e_L_grow, ← b1]
    simp only [u_L_grow_0, u_L_grow_1, u_L_grow_4, u_L_grow_5, u_L_grow_6, q.ob, a1, xgo_some, xgo_none, xgoI_none, xcat_n, xcat_i, xcat_r, xcat_z, List.length_nil, List.length_cons, List.getD_cons_zero, List.getD_cons_succ, List.set_cons_zero, List.set_cons_succ, Nat.zero_le, Nat.reduceAdd, Nat.reduceLeDiff, Nat.reduceEqDiff, reduceIte]
    all_goals rfl
  by_cases hr : X.1.length + many ≤ 64
  · have es : sp_grow (X, Hs, C') = .inl (nI (X.1.length + (wbC C').length), (X.1 ++ wbC C', X.2), (X :: Hs).take 6, []) := by
      unfold sp_grow
      simp only
      rw [if_neg (fun z => z.elim (fun y => by omega) (fun y => y g1)), if_pos (by unfold wbC; omega)]
    obtain ⟨h3', c1, c2, c3⟩ := out_in (P_grow b2) es
    refine ⟨h3', _, ?_, c2, ok_grow k2 es, (a3.tr b3).tr c3⟩
    have n64 : ¬ (64 : Int32) < nI (X.1.length + many) := nI_nlt (a := 64) hr (by omega)
    rw [h0, u_L_grow_38]
    simp only [u_L_grow_39, u_L_grow_40, u_L_grow_43, u_L_grow_44, u_L_grow_45, u_L_grow_47, u_L_grow_50, u_L_grow_51, u_L_grow_54, u_L_grow_55, b2.ob, qc, nI_add, n64, c1, if_false, xgo_some, xgo_none, xgoI_none, xcat_n, xcat_i, xcat_r, xcat_z, List.length_nil, List.length_cons, List.getD_cons_zero, List.getD_cons_succ, List.set_cons_zero, List.set_cons_succ, Nat.zero_le, Nat.reduceAdd, Nat.reduceLeDiff, Nat.reduceEqDiff, reduceIte]
  · have n64 : (64 : Int32) < nI (X.1.length + many) := nI_lt (a := 64) (by omega) (by omega)
    refine ⟨h2', _, ?_, b2, k2, a3.tr b3⟩
    rw [h0, u_L_grow_38]
    simp only [u_L_grow_39, u_L_grow_40, u_L_grow_43, u_L_grow_44, u_L_grow_45, u_L_grow_47, u_L_grow_55, b2.ob, qc, nI_add, n64, if_true, xgo_some, xgo_none, xgoI_none, xcat_n, xcat_i, xcat_r, xcat_z, List.length_nil, List.length_cons, List.getD_cons_zero, List.getD_cons_succ, List.set_cons_zero, List.set_cons_succ, Nat.zero_le, Nat.reduceAdd, Nat.reduceLeDiff, Nat.reduceEqDiff, reduceIte]
/-- something was done -/
def DO (x : Nat) (h : xH) (P : pP) (r : Option (xR × xH)) : Prop := ∃ v h' P', r = some (.inl (some (.int v)), h') ∧ isP h' x P' ∧ okP P' ∧ xFr x (x + 139) h h' ∧ (v = 0 ∨ (v = 1 ∧ sameT P.1 P'.1))
theorem do_no {v : Int32} (q : isP h x P) (k : okP P) (e : v = 0 ∨ v = 1) {r : Option (xR × xH)} (er : r = some (.inl (some (.int v)), h)) : DO x h P r :=
  ⟨v, h, P, er, q, k, xFr.rf, e.elim Or.inl (fun z => Or.inr ⟨z, rfl⟩)⟩
theorem sameT_of {X : xS} {L : List Int32} {N : xNs} {T : Int32 × Int32 × Int32 × Int32} (e : exL N L = exL X.2.1 X.1) : sameT X (L, N, T) := e.symm
variable {v : Int32}
theorem d_grow (q : isP h x P) (k : okP P) : DO x h P (xf 96 76 [some (.ref x), some (.int v), some (.int (nI P.1.1.length)), some (.int 0), none] [] h) := by
  obtain ⟨m, m9, em⟩ := l_low (h := h) (v >>> (20 &&& 31)) (c := 9) (n := 9) rfl (by omega) (by omega)
  have e4 : (4 : Int32) + nI m = nI (4 + m) := nI_add 4 m
  obtain ⟨h', P', a1, a2, a3, a4⟩ := l_grow q k (v >>> (4 &&& 31)) (many := 4 + m) (by omega) (by omega)
  refine ⟨0, h', P', ?_, a2, a3, a4, Or.inl rfl⟩
  rw [u_L_does_76]
  simp only [u_L_does_77, u_L_does_78, u_L_does_79, u_L_does_80, u_L_does_81, u_L_does_82, u_L_does_84, u_L_does_85, u_L_does_87, u_L_does_90, u_L_does_91, u_L_does_94, u_L_does_95, em, e4, a1, eq_self, true_or, xgo_some, xgo_none, xgoI_none, xcat_n, xcat_i, xcat_r, xcat_z, List.length_nil, List.length_cons, List.getD_cons_zero, List.getD_cons_succ, List.set_cons_zero, List.set_cons_succ, Nat.zero_le, Nat.reduceAdd, Nat.reduceLeDiff, Nat.reduceEqDiff, reduceIte]
theorem d_add (q : isP h x P) (k : okP P) : DO x h P (xf 96 96 [some (.ref x), some (.int v), some (.int (nI P.1.1.length)), some (.int 0), none] [] h) := by
  have hl : P.1.1.length ≤ 64 := k.1.1
  by_cases hr : P.1.1.length < 64
  · obtain ⟨m, m8, em⟩ := l_low (h := h) (v >>> (4 &&& 31)) (c := 8) (n := 8) rfl (by omega) (by omega)
    have h2 : nI P.1.1.length < 64 := nI_lt (b := 64) hr (by omega)
    have es : sp_add P (nI m) = .inl (nI (P.1.1.length + 1), (P.1.1 ++ [nI m], P.1.2), (P.1 :: P.2.1).take 6, P.2.2) := by
      unfold sp_add
      rw [if_pos ((hs_hasP (by omega)).mpr (Or.inl m8)), if_pos (by omega)]
    obtain ⟨h', a1, a2, a3⟩ := out_in (P_add q (nI m)) es
    refine ⟨0, h', _, ?_, a2, ok_add k es, a3, Or.inl rfl⟩
    rw [u_L_does_96]
    simp only [u_L_does_97, u_L_does_99, u_L_does_102, u_L_does_103, u_L_does_104, u_L_does_105, u_L_does_106, u_L_does_108, u_L_does_111, u_L_does_114, u_L_does_118, u_L_does_119, u_L_does_120, h2, em, q.ob, a1, if_true, eq_self, true_or, xgo_some, xgo_none, xgoI_none, xcat_n, xcat_i, xcat_r, xcat_z, List.length_nil, List.length_cons, List.getD_cons_zero, List.getD_cons_succ, List.set_cons_zero, List.set_cons_succ, Nat.zero_le, Nat.reduceAdd, Nat.reduceLeDiff, Nat.reduceEqDiff, reduceIte]
  · have h2 : ¬ nI P.1.1.length < 64 := nI_nlt (b := 64) (by omega) (by omega)
    refine do_no q k (Or.inl rfl) ?_
    rw [u_L_does_96]
    simp only [u_L_does_97, u_L_does_99, u_L_does_117, u_L_does_118, u_L_does_119, u_L_does_120, h2, if_false, eq_self, true_or, xgo_some, xgo_none, xgoI_none, xcat_n, xcat_i, xcat_r, xcat_z, List.length_nil, List.length_cons, List.getD_cons_zero, List.getD_cons_succ, List.set_cons_zero, List.set_cons_succ, Nat.zero_le, Nat.reduceAdd, Nat.reduceLeDiff, Nat.reduceEqDiff, reduceIte]
theorem d_part (q : isP h x P) (k : okP P) : DO x h P (xf 96 121 [some (.ref x), some (.int v), some (.int (nI P.1.1.length)), some (.int 0), none] [] h) := by
  have hl : P.1.1.length ≤ 64 := k.1.1
  by_cases h0 : 0 < P.1.1.length
  · have g0 : (0 : Int32) < nI P.1.1.length := nI_lt (a := 0) h0 (by omega)
    by_cases hr : P.1.1.length < 64
    · obtain ⟨m, m8, em⟩ := l_low (h := h) (v >>> (4 &&& 31)) (c := nI P.1.1.length) (n := P.1.1.length) rfl h0 (by omega)
      have h2 : nI P.1.1.length < 64 := nI_lt (b := 64) hr (by omega)
      obtain ⟨p, p24, ep, hp⟩ := rPr_at k.1.2.2.1 m8
      have qp := Q_part q (p := nI m) (nI_pos (by omega))
      rw [clAt_nI m8 (by omega), ep] at qp
      have es : sp_add P (nI p) = .inl (nI (P.1.1.length + 1), (P.1.1 ++ [nI p], P.1.2), (P.1 :: P.2.1).take 6, P.2.2) := by
        unfold sp_add
        rw [if_pos ((hs_hasP p24).mpr hp), if_pos (by omega)]
      obtain ⟨h', a1, a2, a3⟩ := out_in (P_add q (nI p)) es
      refine ⟨0, h', _, ?_, a2, ok_add k es, a3, Or.inl rfl⟩
      rw [u_L_does_121]
      simp only [u_L_does_122, u_L_does_125, u_L_does_126, u_L_does_128, u_L_does_131, u_L_does_132, u_L_does_133, u_L_does_134, u_L_does_135, u_L_does_136, u_L_does_137, u_L_does_140, u_L_does_143, u_L_does_146, u_L_does_150, u_L_does_151, u_L_does_152, g0, h2, em, q.ob, qp, a1, if_true, eq_self, true_or, xgo_some, xgo_none, xgoI_none, xcat_n, xcat_i, xcat_r, xcat_z, List.length_nil, List.length_cons, List.getD_cons_zero, List.getD_cons_succ, List.set_cons_zero, List.set_cons_succ, Nat.zero_le, Nat.reduceAdd, Nat.reduceLeDiff, Nat.reduceEqDiff, reduceIte]
    · have h2 : ¬ nI P.1.1.length < 64 := nI_nlt (b := 64) (by omega) (by omega)
      refine do_no q k (Or.inl rfl) ?_
      rw [u_L_does_121]
      simp only [u_L_does_122, u_L_does_125, u_L_does_126, u_L_does_128, u_L_does_149, u_L_does_150, u_L_does_151, u_L_does_152, g0, h2, if_true, if_false, eq_self, true_or, xgo_some, xgo_none, xgoI_none, xcat_n, xcat_i, xcat_r, xcat_z, List.length_nil, List.length_cons, List.getD_cons_zero, List.getD_cons_succ, List.set_cons_zero, List.set_cons_succ, Nat.zero_le, Nat.reduceAdd, Nat.reduceLeDiff, Nat.reduceEqDiff, reduceIte]
  · have g0 : ¬ (0 : Int32) < nI P.1.1.length := nI_nlt (a := 0) (by omega) (by omega)
    refine do_no q k (Or.inl rfl) ?_
    rw [u_L_does_121]
    simp only [u_L_does_122, u_L_does_149, u_L_does_150, u_L_does_151, u_L_does_152, g0, if_false, eq_self, true_or, xgo_some, xgo_none, xgoI_none, xcat_n, xcat_i, xcat_r, xcat_z, List.length_nil, List.length_cons, List.getD_cons_zero, List.getD_cons_succ, List.set_cons_zero, List.set_cons_succ, Nat.zero_le, Nat.reduceAdd, Nat.reduceLeDiff, Nat.reduceEqDiff, reduceIte]
theorem d_cut (q : isP h x P) (k : okP P) : DO x h P (xf 96 153 [some (.ref x), some (.int v), some (.int (nI P.1.1.length)), some (.int 0), none] [] h) := by
  have hl : P.1.1.length ≤ 64 := k.1.1
  by_cases h0 : v >>> (4 &&& 31) &&& 3 = 0
  · obtain ⟨m, m8, em⟩ := l_low (h := h) (v >>> (6 &&& 31)) (c := nI (P.1.1.length + 1)) (n := P.1.1.length + 1) rfl (by omega) (by omega)
    have es : sp_cut P (nI m) = .inl (nI (namN (fgOut (P.1.1.take (nI m).toNatClampNeg) 16 P.1.2.1).1 8 16), (P.1.1.take (nI m).toNatClampNeg, fgOut (P.1.1.take (nI m).toNatClampNeg) 16 P.1.2.1, P.1.2.2), (P.1 :: P.2.1).take 6, P.2.2) := by
      unfold sp_cut
      rw [if_neg (fun z => z.elim (nI_pos (by omega)) (nI_nlt (by omega) (by omega)))]
    obtain ⟨h', a1, a2, a3⟩ := out_in (P_cut q (nI m)) es
    refine ⟨0, h', _, ?_, a2, ok_cut k es, a3, Or.inl rfl⟩
    rw [u_L_does_153]
    simp only [u_L_does_154, u_L_does_155, u_L_does_156, u_L_does_157, u_L_does_158, u_L_does_161, u_L_does_162, u_L_does_163, u_L_does_165, u_L_does_166, u_L_does_167, u_L_does_168, u_L_does_169, u_L_does_172, u_L_does_175, u_L_does_179, u_L_does_180, u_L_does_181, h0, nI_of1, em, q.ob, a1, if_true, eq_self, true_or, xgo_some, xgo_none, xgoI_none, xcat_n, xcat_i, xcat_r, xcat_z, List.length_nil, List.length_cons, List.getD_cons_zero, List.getD_cons_succ, List.set_cons_zero, List.set_cons_succ, Nat.zero_le, Nat.reduceAdd, Nat.reduceLeDiff, Nat.reduceEqDiff, reduceIte]
  · refine do_no q k (Or.inl rfl) ?_
    rw [u_L_does_153]
    simp only [u_L_does_154, u_L_does_155, u_L_does_156, u_L_does_157, u_L_does_158, u_L_does_178, u_L_does_179, u_L_does_180, u_L_does_181, h0, if_false, eq_self, true_or, xgo_some, xgo_none, xgoI_none, xcat_n, xcat_i, xcat_r, xcat_z, List.length_nil, List.length_cons, List.getD_cons_zero, List.getD_cons_succ, List.set_cons_zero, List.set_cons_succ, Nat.zero_le, Nat.reduceAdd, Nat.reduceLeDiff, Nat.reduceEqDiff, reduceIte]
theorem d_open (q : isP h x P) (k : okP P) : DO x h P (xf 96 182 [some (.ref x), some (.int v), some (.int (nI P.1.1.length)), some (.int 0), none] [] h) := by
  have hl : P.1.1.length ≤ 64 := k.1.1
  by_cases h0 : 0 < P.1.1.length
  · have g0 : (0 : Int32) < nI P.1.1.length := nI_lt (a := 0) h0 (by omega)
    have gn : ¬ nI P.1.1.length = 0 := nI_ne0 h0 (by omega)
    obtain ⟨m, m8, em⟩ := l_low (h := h) (v >>> (4 &&& 31)) (c := nI P.1.1.length) (n := P.1.1.length) rfl h0 (by omega)
    by_cases hr : P.1.1.length < 64
    · have h2 : nI P.1.1.length < 64 := nI_lt (b := 64) hr (by omega)
      obtain ⟨p, p24, ep, hp⟩ := rPr_at k.1.2.2.1 m8
      have qp := Q_part q (p := nI m) (nI_pos (by omega))
      rw [clAt_nI m8 (by omega), ep] at qp
      by_cases p8 : 8 ≤ p
      · have g7 : (7 : Int32) < nI p := nI_lt (a := 7) (by omega) (by omega)
        have es : sp_open P (nI m) = .inl (gd P.1.1 m, (opL P.1.1 P.1.2.1 m, opN P.1.1 P.1.2.1 m, P.1.2.2), (P.1 :: P.2.1).take 6, P.2.2) := by
          unfold sp_open
          rw [if_neg (fun z => z.elim (nI_pos (by omega)) (fun y => y (nI_lt m8 (by omega)))), nI_clamp (by omega), if_neg]
          intro z
          rcases z with z | z
          · rw [ep] at z
            exact nI_nlt (b := 8) p8 (by omega) z
          · omega
        have sm : sameT P.1 (opL P.1.1 P.1.2.1 m, opN P.1.1 P.1.2.1 m, P.1.2.2) := by
          obtain ⟨_, ⟨d, l, w⟩, pr, us, _⟩ := k.1
          exact sameT_of (exL_op w us pr m8 ep p8 p24 (hp.elim (fun z => absurd z (by omega)) id))
        obtain ⟨h', a1, a2, a3⟩ := out_in (P_open q (ok_hR k.1) (nI m)) es
        refine ⟨1, h', _, ?_, a2, ok_open k es, a3, Or.inr ⟨rfl, sm⟩⟩
        rw [u_L_does_182]
        simp only [u_L_does_183, u_L_does_190, u_L_does_191, u_L_does_192, u_L_does_193, u_L_does_194, u_L_does_197, u_L_does_199, u_L_does_200, u_L_does_203, u_L_does_204, u_L_does_206, u_L_does_209, u_L_does_210, u_L_does_212, u_L_does_215, u_L_does_217, u_L_does_220, u_L_does_221, u_L_does_223, u_L_does_226, u_L_does_230, u_L_does_231, u_L_does_232, gn, g0, h2, g7, em, q.ob, qp, a1, if_true, if_false, eq_self, or_true, xgo_some, xgo_none, xgoI_none, xcat_n, xcat_i, xcat_r, xcat_z, List.length_nil, List.length_cons, List.getD_cons_zero, List.getD_cons_succ, List.set_cons_zero, List.set_cons_succ, Nat.zero_le, Nat.reduceAdd, Nat.reduceLeDiff, Nat.reduceEqDiff, reduceIte]
      · have g7 : ¬ (7 : Int32) < nI p := nI_nlt (a := 7) (by omega) (by omega)
        refine do_no q k (Or.inr rfl) ?_
        rw [u_L_does_182]
        simp only [u_L_does_183, u_L_does_190, u_L_does_191, u_L_does_192, u_L_does_193, u_L_does_194, u_L_does_197, u_L_does_199, u_L_does_200, u_L_does_203, u_L_does_204, u_L_does_206, u_L_does_209, u_L_does_210, u_L_does_212, u_L_does_215, u_L_does_217, u_L_does_229, u_L_does_230, u_L_does_231, u_L_does_232, gn, g0, h2, g7, em, q.ob, qp, if_true, if_false, eq_self, or_true, xgo_some, xgo_none, xgoI_none, xcat_n, xcat_i, xcat_r, xcat_z, List.length_nil, List.length_cons, List.getD_cons_zero, List.getD_cons_succ, List.set_cons_zero, List.set_cons_succ, Nat.zero_le, Nat.reduceAdd, Nat.reduceLeDiff, Nat.reduceEqDiff, reduceIte]
    · have h2 : ¬ nI P.1.1.length < 64 := nI_nlt (b := 64) (by omega) (by omega)
      refine do_no q k (Or.inr rfl) ?_
      rw [u_L_does_182]
      simp only [u_L_does_183, u_L_does_190, u_L_does_191, u_L_does_192, u_L_does_193, u_L_does_194, u_L_does_197, u_L_does_199, u_L_does_200, u_L_does_203, u_L_does_204, u_L_does_206, u_L_does_229, u_L_does_230, u_L_does_231, u_L_does_232, gn, g0, h2, em, if_true, if_false, eq_self, or_true, xgo_some, xgo_none, xgoI_none, xcat_n, xcat_i, xcat_r, xcat_z, List.length_nil, List.length_cons, List.getD_cons_zero, List.getD_cons_succ, List.set_cons_zero, List.set_cons_succ, Nat.zero_le, Nat.reduceAdd, Nat.reduceLeDiff, Nat.reduceEqDiff, reduceIte]
  · have g0 : ¬ (0 : Int32) < nI P.1.1.length := nI_nlt (a := 0) (by omega) (by omega)
    have gn : nI P.1.1.length = 0 := by rw [show P.1.1.length = 0 by omega]; rfl
    refine do_no q k (Or.inr rfl) ?_
    rw [u_L_does_182]
    simp only [u_L_does_183, u_L_does_186, u_L_does_187, u_L_does_197, u_L_does_199, u_L_does_200, u_L_does_229, u_L_does_230, u_L_does_231, u_L_does_232, gn, show ¬ (0 : Int32) < 0 by decide, if_true, if_false, eq_self, or_true, xgo_some, xgo_none, xgoI_none, xcat_n, xcat_i, xcat_r, xcat_z, List.length_nil, List.length_cons, List.getD_cons_zero, List.getD_cons_succ, List.set_cons_zero, List.set_cons_succ, Nat.zero_le, Nat.reduceAdd, Nat.reduceLeDiff, Nat.reduceEqDiff, reduceIte]
theorem d_letGo (q : isP h x P) (k : okP P) : DO x h P (xf 96 233 [some (.ref x), some (.int v), some (.int (nI P.1.1.length)), some (.int 0), none] [] h) := by
  obtain ⟨_, ⟨d, l, w⟩, pr, us, _⟩ := id k.1
  obtain ⟨h', a1, a2, a3⟩ := out_in (P_letGo q (wf_ac w)) rfl
  refine ⟨1, h', _, ?_, a2, ok_letGo k rfl, a3, Or.inr ⟨rfl, (exL_lg 16 P.1 k.1).symm⟩⟩
  rw [u_L_does_233]
  simp only [u_L_does_234, u_L_does_237, u_L_does_238, u_L_does_239, q.ob, a1, eq_self, or_true, xgo_some, xgo_none, xgoI_none, xcat_n, xcat_i, xcat_r, xcat_z, List.length_nil, List.length_cons, List.getD_cons_zero, List.getD_cons_succ, List.set_cons_zero, List.set_cons_succ, Nat.zero_le, Nat.reduceAdd, Nat.reduceLeDiff, Nat.reduceEqDiff, reduceIte]
theorem d_openAll (q : isP h x P) (k : okP P) : DO x h P (xf 96 240 [some (.ref x), some (.int v), some (.int (nI P.1.1.length)), some (.int 0), none] [] h) := by
  obtain ⟨t1, t2⟩ := tx_len k.1
  have qc := Q_c2 q
  by_cases h64 : (64 : Int32) < txF P.1.2.1.2.2.2 P.1.1
  · refine do_no q k (Or.inr rfl) ?_
    rw [u_L_does_240]
    simp only [u_L_does_241, u_L_does_242, u_L_does_245, u_L_does_247, u_L_does_257, u_L_does_258, u_L_does_259, u_L_does_260, q.ob, qc, h64, if_true, eq_self, or_true, xgo_some, xgo_none, xgoI_none, xcat_n, xcat_i, xcat_r, xcat_z, List.length_nil, List.length_cons, List.getD_cons_zero, List.getD_cons_succ, List.set_cons_zero, List.set_cons_succ, Nat.zero_le, Nat.reduceAdd, Nat.reduceLeDiff, Nat.reduceEqDiff, reduceIte]
  · have h0 : ¬ txF P.1.2.1.2.2.2 P.1.1 < 0 := by rw [t1]; exact nI_pos (by omega)
    have es : sp_openAll P = .inl (txF P.1.2.1.2.2.2 P.1.1, (oaF P.1 0 (txF P.1.2.1.2.2.2 P.1.1).toNatClampNeg, fgOut (oaF P.1 0 (txF P.1.2.1.2.2.2 P.1.1).toNatClampNeg) 16 P.1.2.1, P.1.2.2), (P.1 :: P.2.1).take 6, P.2.2) := if_neg h64
    obtain ⟨h', a1, a2, a3⟩ := out_in (P_openAll q h0) es
    have sm : sameT P.1 (oaF P.1 0 (txF P.1.2.1.2.2.2 P.1.1).toNatClampNeg, fgOut (oaF P.1 0 (txF P.1.2.1.2.2.2 P.1.1).toNatClampNeg) 16 P.1.2.1, P.1.2.2) := sameT_of (exL_oa k.1)
    refine ⟨1, h', _, ?_, a2, ok_openAll k es, a3, Or.inr ⟨rfl, sm⟩⟩
    rw [u_L_does_240]
    simp only [u_L_does_241, u_L_does_242, u_L_does_245, u_L_does_247, u_L_does_250, u_L_does_251, u_L_does_254, u_L_does_258, u_L_does_259, u_L_does_260, q.ob, qc, h64, a1, if_false, eq_self, or_true, xgo_some, xgo_none, xgoI_none, xcat_n, xcat_i, xcat_r, xcat_z, List.length_nil, List.length_cons, List.getD_cons_zero, List.getD_cons_succ, List.set_cons_zero, List.set_cons_succ, Nat.zero_le, Nat.reduceAdd, Nat.reduceLeDiff, Nat.reduceEqDiff, reduceIte]
theorem seU_same (X : xS) (s u : Int32) : sameT X (seU X s u) := by
  unfold seU
  by_cases e : s = 0
  · rw [if_pos e]; rfl
  · rw [if_neg e]; rfl
theorem d_set (q : isP h x P) (k : okP P) : DO x h P (xf 96 261 [some (.ref x), some (.int v), some (.int (nI P.1.1.length)), some (.int 0), none] [] h) := by
  by_cases h0 : v >>> (4 &&& 31) &&& 1 = 0
  · obtain ⟨m, m8, em⟩ := l_low (h := h) (v >>> (5 &&& 31)) (c := 8) (n := 8) rfl (by omega) (by omega)
    have e2 : (2 : Int32) + nI m = nI (2 + m) := nI_add 2 m
    have es : sp_set P 0 (nI (2 + m)) = .inl (seX P.1 0, seU P.1 0 (nI (2 + m)), (P.1 :: P.2.1).take 6, P.2.2) := by
      unfold sp_set
      rw [if_pos (by decide), if_neg]
      intro z
      rcases z with z | z
      · rw [if_pos rfl] at z
        exact nI_nlt (b := 2) (by omega) (by omega) z
      · exact nI_nlt (a := 9) (by omega) (by omega) z
    obtain ⟨h', a1, a2, a3⟩ := out_in (P_set q 0 (nI (2 + m))) es
    refine ⟨1, h', _, ?_, a2, ok_set k es, a3, Or.inr ⟨rfl, seU_same _ _ _⟩⟩
    rw [u_L_does_261]
    simp only [u_L_does_262, u_L_does_263, u_L_does_264, u_L_does_265, u_L_does_266, u_L_does_269, u_L_does_270, u_L_does_271, u_L_does_272, u_L_does_273, u_L_does_274, u_L_does_275, u_L_does_277, u_L_does_280, u_L_does_281, u_L_does_284, u_L_does_302, u_L_does_303, u_L_does_304, h0, em, e2, q.ob, a1, if_true, eq_self, or_true, xgo_some, xgo_none, xgoI_none, xcat_n, xcat_i, xcat_r, xcat_z, List.length_nil, List.length_cons, List.getD_cons_zero, List.getD_cons_succ, List.set_cons_zero, List.set_cons_succ, Nat.zero_le, Nat.reduceAdd, Nat.reduceLeDiff, Nat.reduceEqDiff, reduceIte]
  · obtain ⟨m, m8, em⟩ := l_low (h := h) (v >>> (5 &&& 31)) (c := 9) (n := 9) rfl (by omega) (by omega)
    have e2 : (1 : Int32) + nI m = nI (1 + m) := nI_add 1 m
    have es : sp_set P 1 (nI (1 + m)) = .inl (seX P.1 1, seU P.1 1 (nI (1 + m)), (P.1 :: P.2.1).take 6, P.2.2) := by
      unfold sp_set
      rw [if_pos (by decide), if_neg]
      intro z
      rcases z with z | z
      · rw [if_neg (by decide)] at z
        exact nI_nlt (b := 1) (by omega) (by omega) z
      · exact nI_nlt (a := 9) (by omega) (by omega) z
    obtain ⟨h', a1, a2, a3⟩ := out_in (P_set q 1 (nI (1 + m))) es
    refine ⟨1, h', _, ?_, a2, ok_set k es, a3, Or.inr ⟨rfl, seU_same _ _ _⟩⟩
    rw [u_L_does_261]
    simp only [u_L_does_262, u_L_does_263, u_L_does_264, u_L_does_265, u_L_does_266, u_L_does_287, u_L_does_288, u_L_does_289, u_L_does_290, u_L_does_291, u_L_does_292, u_L_does_293, u_L_does_295, u_L_does_298, u_L_does_299, u_L_does_302, u_L_does_303, u_L_does_304, h0, em, e2, q.ob, a1, if_false, eq_self, or_true, xgo_some, xgo_none, xgoI_none, xcat_n, xcat_i, xcat_r, xcat_z, List.length_nil, List.length_cons, List.getD_cons_zero, List.getD_cons_succ, List.set_cons_zero, List.set_cons_succ, Nat.zero_le, Nat.reduceAdd, Nat.reduceLeDiff, Nat.reduceEqDiff, reduceIte]
theorem d_nameAll (q : isP h x P) (k : okP P) : DO x h P (xf 96 305 [some (.ref x), some (.int v), some (.int (nI P.1.1.length)), some (.int 0), none] [] h) := by
  obtain ⟨h', a1, a2, a3⟩ := out_in (P_nameAll q (ok_hR k.1) (ok_ha k.1)) rfl
  refine ⟨1, h', _, ?_, a2, ok_nameAll k rfl, a3, Or.inr ⟨rfl, (exL_all 64 0 P.1 k.1).symm⟩⟩
  rw [u_L_does_305]
  simp only [u_L_does_306, u_L_does_309, u_L_does_310, u_L_does_311, q.ob, a1, eq_self, or_true, xgo_some, xgo_none, xgoI_none, xcat_n, xcat_i, xcat_r, xcat_z, List.length_nil, List.length_cons, List.getD_cons_zero, List.getD_cons_succ, List.set_cons_zero, List.set_cons_succ, Nat.zero_le, Nat.reduceAdd, Nat.reduceLeDiff, Nat.reduceEqDiff, reduceIte]
theorem d_name (q : isP h x P) (k : okP P) : DO x h P (xf 96 312 [some (.ref x), some (.int v), some (.int (nI P.1.1.length)), some (.int 0), none] [] h) := by
  have pn := P_name q (ok_hR k.1) (ok_ha k.1)
  by_cases g : (fdF P.1.1 P.1.2.1 P.1.2.2.1).2.2.2 = -1
  · have es : sp_name P = .inl (-1, P.1, (P.1 :: P.2.1).take 6, P.2.2) := if_pos g
    obtain ⟨h', a1, a2, a3⟩ := out_in pn es
    refine ⟨1, h', _, ?_, a2, ok_name k es, a3, Or.inr ⟨rfl, rfl⟩⟩
    rw [u_L_does_312]
    simp only [u_L_does_313, u_L_does_316, u_L_does_317, u_L_does_318, q.ob, a1, eq_self, or_true, xgo_some, xgo_none, xgoI_none, xcat_n, xcat_i, xcat_r, xcat_z, List.length_nil, List.length_cons, List.getD_cons_zero, List.getD_cons_succ, List.set_cons_zero, List.set_cons_succ, Nat.zero_le, Nat.reduceAdd, Nat.reduceLeDiff, Nat.reduceEqDiff, reduceIte]
  · have es : sp_name P = .inl ((fdF P.1.1 P.1.2.1 P.1.2.2.1).2.2.2, apF P.1 (fdF P.1.1 P.1.2.1 P.1.2.2.1), (P.1 :: P.2.1).take 6, P.2.2) := if_neg g
    obtain ⟨h', a1, a2, a3⟩ := out_in pn es
    refine ⟨1, h', _, ?_, a2, ok_name k es, a3, Or.inr ⟨rfl, (exL_ap k.1 g).symm⟩⟩
    rw [u_L_does_312]
    simp only [u_L_does_313, u_L_does_316, u_L_does_317, u_L_does_318, q.ob, a1, eq_self, or_true, xgo_some, xgo_none, xgoI_none, xcat_n, xcat_i, xcat_r, xcat_z, List.length_nil, List.length_cons, List.getD_cons_zero, List.getD_cons_succ, List.set_cons_zero, List.set_cons_succ, Nat.zero_le, Nat.reduceAdd, Nat.reduceLeDiff, Nat.reduceEqDiff, reduceIte]
theorem l_does (q : isP h x P) (k : okP P) (v : Int32) : DO x h P (xev 96 [.ref x, .int v] h) := by
  have qc := Q_c0 q
  rw [e_L_does]
  simp only [u_L_does_0, u_L_does_1, u_L_does_2, u_L_does_5, u_L_does_6, u_L_does_7, u_L_does_8, u_L_does_9, u_L_does_11, q.ob, qc, xgo_some, xgo_none, xgoI_none, xcat_n, xcat_i, xcat_r, xcat_z, List.length_nil, List.length_cons, List.getD_cons_zero, List.getD_cons_succ, List.set_cons_zero, List.set_cons_succ, Nat.zero_le, Nat.reduceAdd, Nat.reduceLeDiff, Nat.reduceEqDiff, reduceIte]
  rw [u_L_does_12]
  by_cases a0 : v &&& 15 = 0
  · rw [if_pos a0]; exact d_grow q k
  rw [if_neg a0]
  by_cases a1 : v &&& 15 = 1
  · rw [if_pos a1]; exact d_grow q k
  rw [if_neg a1]
  by_cases a2 : v &&& 15 = 2
  · rw [if_pos a2]; exact d_grow q k
  rw [if_neg a2]
  by_cases a3 : v &&& 15 = 3
  · rw [if_pos a3]; exact d_grow q k
  rw [if_neg a3]
  by_cases a4 : v &&& 15 = 4
  · rw [if_pos a4]; exact d_add q k
  rw [if_neg a4]
  by_cases a5 : v &&& 15 = 5
  · rw [if_pos a5]; exact d_part q k
  rw [if_neg a5]
  by_cases a6 : v &&& 15 = 6
  · rw [if_pos a6]; exact d_cut q k
  rw [if_neg a6]
  by_cases a7 : v &&& 15 = 7
  · rw [if_pos a7]; exact d_open q k
  rw [if_neg a7]
  by_cases a8 : v &&& 15 = 8
  · rw [if_pos a8]; exact d_letGo q k
  rw [if_neg a8]
  by_cases a9 : v &&& 15 = 9
  · rw [if_pos a9]; exact d_openAll q k
  rw [if_neg a9]
  by_cases a10 : v &&& 15 = 10
  · rw [if_pos a10]; exact d_set q k
  rw [if_neg a10]
  by_cases a11 : v &&& 15 = 11
  · rw [if_pos a11]; exact d_nameAll q k
  rw [if_neg a11]
  exact d_name q k
end LB
