/-! The law: the tale of a text; the counts. -/
section LC
variable {h : xH} {x : Nat} {P : pP}
def tlF (X : xS) : Nat → Nat → Int64 → Int64
  | _, 0, a => a
  | i, k + 1, a => tlF X (i + 1) k (a * 31 + (sgX X (nI i)).toInt64)
theorem lp_tale (q : isP h x P) : ∀ (k i : Nat) (a : Int64), i + k = 80 → xf 97 9 [some (.ref x), some (.long a), none, some (.int (nI i))] [] h = some (.inl (some (.long (tlF P.1 i k a))), h) := by
  intro k
  induction k with
  | zero =>
    intro i a hk
    have h2 : ¬ nI i < 80 := nI_nlt (b := 80) (by omega) (by omega)
    rw [u_L_tale_9]
    simp only [u_L_tale_10, u_L_tale_12, u_L_tale_34, u_L_tale_35, h2, if_false, xgo_some, xgo_none, xgoI_none, xcat_n, xcat_i, xcat_r, xcat_z, List.length_nil, List.length_cons, List.getD_cons_zero, List.getD_cons_succ, List.set_cons_zero, List.set_cons_succ, Nat.zero_le, Nat.reduceAdd, Nat.reduceLeDiff, Nat.reduceEqDiff, reduceIte]
    rfl
  | succ k ih =>
    intro i a hk
    have h2 : nI i < 80 := nI_lt (b := 80) (by omega) (by omega)
    have qs := Q_sign q (p := nI i) (nI_pos (by omega))
    rw [u_L_tale_9]
    simp only [u_L_tale_10, u_L_tale_12, u_L_tale_15, u_L_tale_16, u_L_tale_19, u_L_tale_20, u_L_tale_21, u_L_tale_22, u_L_tale_25, u_L_tale_26, u_L_tale_27, u_L_tale_28, u_L_tale_31, h2, q.ob, qs, xcat_l, nI_of1, if_true, xgo_some, xgo_none, xgoI_none, xcat_n, xcat_i, xcat_r, xcat_z, List.length_nil, List.length_cons, List.getD_cons_zero, List.getD_cons_succ, List.set_cons_zero, List.set_cons_succ, Nat.zero_le, Nat.reduceAdd, Nat.reduceLeDiff, Nat.reduceEqDiff, reduceIte]
    exact ih (i + 1) _ (by omega)
def tlX (X : xS) : Int64 := tlF X 0 80 (txF X.2.1.2.2.2 X.1).toInt64
theorem l_tale (q : isP h x P) : xev 97 [.ref x] h = some (.inl (some (.long (tlX P.1))), h) := by
  have qc := Q_c2 q
  rw [e_L_tale]
  simp only [u_L_tale_0, u_L_tale_1, u_L_tale_2, u_L_tale_5, u_L_tale_6, u_L_tale_7, u_L_tale_8, q.ob, qc, xcat_l, xgo_some, xgo_none, xgoI_none, xcat_n, xcat_i, xcat_r, xcat_z, List.length_nil, List.length_cons, List.getD_cons_zero, List.getD_cons_succ, List.set_cons_zero, List.set_cons_succ, Nat.zero_le, Nat.reduceAdd, Nat.reduceLeDiff, Nat.reduceEqDiff, reduceIte]
  exact lp_tale q 80 0 _ (by omega)
theorem tlF_same {X Y : xS} (k : okS X) (k2 : okS Y) (s : sameT X Y) : ∀ (n i : Nat) (a : Int64), i + n ≤ 80 → tlF X i n a = tlF Y i n a := by
  intro n
  induction n with
  | zero => intro i a _; rfl
  | succ n ih =>
    intro i a hi
    have e : sgX X (nI i) = sgX Y (nI i) := by
      rw [sg_ex k (by omega), sg_ex k2 (by omega), s]
    rw [tlF, tlF, e]
    exact ih (i + 1) _ (by omega)
theorem tl_same {X Y : xS} (k : okS X) (k2 : okS Y) (s : sameT X Y) : tlX X = tlX Y := by
  unfold tlX
  rw [(tx_len k).1, (tx_len k2).1, s]
  exact tlF_same k k2 s 80 0 _ (by omega)
/-! The counts: over the row. -/
theorem Q_ab (q : isP h x P) {p : Nat} (p24 : p < 24) (hp : hsN P.1.2.1 p) {w : Int32} (h1 : ¬ w < 0) (h2 : ¬ (7 : Int32) < w) : xev 77 [.ref x, .int (nI p), .int w] h = some (.inl (some (.int (prX P.1 (nI p) w))), h) := Q_about q ((hs_hasP p24).mpr hp) h1 h2
theorem pr_2 (X : xS) (p : Int32) : prX X p 2 = nI (cntI X.1 p + usN X.2.1.1 X.2.1.2.1 p 8 16) := by
  unfold prX
  rw [if_neg (by decide), if_neg (by decide), if_pos rfl]
theorem pr_3 (X : xS) (p : Int32) : prX X p 3 = nI (cntI X.1 p) := by
  unfold prX
  rw [if_neg (by decide), if_neg (by decide), if_neg (by decide), if_pos rfl]
theorem pr_4 (X : xS) (p : Int32) : prX X p 4 = clAt 24 X.2.1.2.2.1 p := by
  unfold prX
  rw [if_neg (by decide), if_neg (by decide), if_neg (by decide), if_neg (by decide), if_pos rfl]
theorem pr_5 (X : xS) (p : Int32) : prX X p 5 = clAt 24 X.2.1.2.2.2 p := by
  unfold prX
  rw [if_neg (by decide), if_neg (by decide), if_neg (by decide), if_neg (by decide), if_neg (by decide), if_pos rfl]
theorem pr_6 (X : xS) (p : Int32) : prX X p 6 = sgN X.2.1.1 X.2.1.2.1 X.2.1.2.2.2 16 p 0 := by
  unfold prX
  rw [if_neg (by decide), if_neg (by decide), if_neg (by decide), if_neg (by decide), if_neg (by decide), if_neg (by decide), if_pos rfl]
theorem pr_7 (X : xS) (p : Int32) : prX X p 7 = sgN X.2.1.1 X.2.1.2.1 X.2.1.2.2.2 16 p (clAt 24 X.2.1.2.2.2 p - 1) := by
  unfold prX
  rw [if_neg (by decide), if_neg (by decide), if_neg (by decide), if_neg (by decide), if_neg (by decide), if_neg (by decide), if_neg (by decide)]
theorem lp_ac1 (q : isP h x P) (k : okS P.1) (l8 l9 lA lB : Option Value) : ∀ (j i : Nat) (u w : Int32) (l7 : Option Value), i + j = P.1.1.length →
    ∃ l7', xf 98 15 [some (.ref x), some (.int u), some (.int 0), some (.int w), some (.int 0), some (.int 0), some (.int (nI i)), l7, l8, l9, lA, lB] [] h = xf 98 72 [some (.ref x), some (.int (u + txF P.1.2.1.2.2.2 (P.1.1.drop i))), some (.int 0), some (.int (gdF P.1.2.1.2.2.1 w (P.1.1.drop i))), some (.int 0), some (.int 0), some (.int (nI P.1.1.length)), l7', l8, l9, lA, lB] [] h := by
  have hl := k.1
  have qc := Q_c0 q
  intro j
  induction j with
  | zero =>
    intro i u w l7 hj
    have h2 : ¬ nI i < nI P.1.1.length := nI_nlt (by omega) (by omega)
    have e : P.1.1.drop i = [] := List.drop_eq_nil_of_le (by omega)
    refine ⟨l7, ?_⟩
    rw [u_L_areCountsSo_15]
    simp only [u_L_areCountsSo_17, u_L_areCountsSo_18, u_L_areCountsSo_19, u_L_areCountsSo_22, q.ob, qc, h2, if_false, xgo_some, xgo_none, xgoI_none, xcat_n, xcat_i, xcat_r, xcat_z, List.length_nil, List.length_cons, List.getD_cons_zero, List.getD_cons_succ, List.set_cons_zero, List.set_cons_succ, Nat.zero_le, Nat.reduceAdd, Nat.reduceLeDiff, Nat.reduceEqDiff, reduceIte]
    rw [e, txF, gdF, Int32.add_zero, show i = P.1.1.length by omega]
  | succ j ih =>
    intro i u w l7 hj
    have h2 : nI i < nI P.1.1.length := nI_lt (by omega) (by omega)
    have hi : i < P.1.1.length := by omega
    obtain ⟨p, p24, ep, hp⟩ := rPr_at k.2.2.1 hi
    have qp := Q_part q (p := nI i) (nI_pos (by omega))
    rw [clAt_nI hi (by omega), ep] at qp
    have q5 := Q_ab q p24 hp (w := 5) (by decide) (by decide)
    have q4 := Q_ab q p24 hp (w := 4) (by decide) (by decide)
    rw [pr_5] at q5
    rw [pr_4] at q4
    rw [gd_drop hi, ep, txF, gdF]
    unfold xmax
    by_cases h3 : w < clAt 24 P.1.2.1.2.2.1 (nI p)
    · obtain ⟨l7', c⟩ := ih (i + 1) (u + clAt 24 P.1.2.1.2.2.2 (nI p)) (clAt 24 P.1.2.1.2.2.1 (nI p)) (some (.int (nI p))) (by omega)
      refine ⟨l7', ?_⟩
      rw [if_pos h3, ← Int32.add_assoc, ← c, u_L_areCountsSo_15]
      simp only [u_L_areCountsSo_17, u_L_areCountsSo_18, u_L_areCountsSo_19, u_L_areCountsSo_22, u_L_areCountsSo_25, u_L_areCountsSo_26, u_L_areCountsSo_28, u_L_areCountsSo_31, u_L_areCountsSo_33, u_L_areCountsSo_34, u_L_areCountsSo_35, u_L_areCountsSo_37, u_L_areCountsSo_38, u_L_areCountsSo_41, u_L_areCountsSo_42, u_L_areCountsSo_43, u_L_areCountsSo_44, u_L_areCountsSo_46, u_L_areCountsSo_47, u_L_areCountsSo_50, u_L_areCountsSo_51, u_L_areCountsSo_54, u_L_areCountsSo_55, u_L_areCountsSo_57, u_L_areCountsSo_58, u_L_areCountsSo_61, u_L_areCountsSo_65, u_L_areCountsSo_66, u_L_areCountsSo_69, q.ob, qc, qp, q5, q4, h2, h3, nI_of1, if_true, xgo_some, xgo_none, xgoI_none, xcat_n, xcat_i, xcat_r, xcat_z, List.length_nil, List.length_cons, List.getD_cons_zero, List.getD_cons_succ, List.set_cons_zero, List.set_cons_succ, Nat.zero_le, Nat.reduceAdd, Nat.reduceLeDiff, Nat.reduceEqDiff, reduceIte]
    · obtain ⟨l7', c⟩ := ih (i + 1) (u + clAt 24 P.1.2.1.2.2.2 (nI p)) w (some (.int (nI p))) (by omega)
      refine ⟨l7', ?_⟩
      rw [if_neg h3, ← Int32.add_assoc, ← c, u_L_areCountsSo_15]
      simp only [u_L_areCountsSo_17, u_L_areCountsSo_18, u_L_areCountsSo_19, u_L_areCountsSo_22, u_L_areCountsSo_25, u_L_areCountsSo_26, u_L_areCountsSo_28, u_L_areCountsSo_31, u_L_areCountsSo_33, u_L_areCountsSo_34, u_L_areCountsSo_35, u_L_areCountsSo_37, u_L_areCountsSo_38, u_L_areCountsSo_41, u_L_areCountsSo_42, u_L_areCountsSo_43, u_L_areCountsSo_44, u_L_areCountsSo_46, u_L_areCountsSo_47, u_L_areCountsSo_50, u_L_areCountsSo_51, u_L_areCountsSo_64, u_L_areCountsSo_65, u_L_areCountsSo_66, u_L_areCountsSo_69, q.ob, qc, qp, q5, q4, h2, h3, nI_of1, if_true, if_false, xgo_some, xgo_none, xgoI_none, xcat_n, xcat_i, xcat_r, xcat_z, List.length_nil, List.length_cons, List.getD_cons_zero, List.getD_cons_succ, List.set_cons_zero, List.set_cons_succ, Nat.zero_le, Nat.reduceAdd, Nat.reduceLeDiff, Nat.reduceEqDiff, reduceIte]
/-! The counts: over the signs. -/
theorem pos_nI {n : Nat} (h : n < 2 ^ 31) : (0 : Int32) < nI n ↔ 0 < n := nI_ltI (a := 0) (by omega) h
theorem lp_ac2 {u w : Int32} (l7 l8 l9 lA lB : Option Value) : ∀ (j i : Nat) (t : Int32) (c n : Nat) (h : xH) (P : pP), i + j = 8 → isP h x P → okS P.1 →
    ∃ h', xf 98 75 [some (.ref x), some (.int u), some (.int t), some (.int w), some (.int (nI c)), some (.int (nI n)), some (.int (nI i)), l7, l8, l9, lA, lB] [] h = xf 98 129 [some (.ref x), some (.int u), some (.int (t + tmS P.1 i j)), some (.int w), some (.int (nI (c + cnS P.1.1 i j))), some (.int (nI (n + unlI P.1.1 i j))), some (.int (nI 8)), l7, l8, l9, lA, lB] [] h' ∧ isP h' x P ∧ xFr x (x + 139) h h' := by
  intro j
  induction j with
  | zero =>
    intro i t c n h P hj q k
    have h2 : ¬ nI i < 8 := nI_nlt (b := 8) (by omega) (by omega)
    refine ⟨h, ?_, q, xFr.rf⟩
    rw [u_L_areCountsSo_75]
    simp only [u_L_areCountsSo_77, u_L_areCountsSo_79, h2, if_false, xgo_some, xgo_none, xgoI_none, xcat_n, xcat_i, xcat_r, xcat_z, List.length_nil, List.length_cons, List.getD_cons_zero, List.getD_cons_succ, List.set_cons_zero, List.set_cons_succ, Nat.zero_le, Nat.reduceAdd, Nat.reduceLeDiff, Nat.reduceEqDiff, reduceIte]
    rw [tmS, cnS, unlI, Int32.add_zero, Nat.add_zero, Nat.add_zero, show i = 8 by omega]
  | succ j ih =>
    intro i t c n h P hj q k
    have h2 : nI i < 8 := nI_lt (b := 8) (by omega) (by omega)
    have hc := cntI_le P.1.1 (nI i)
    have hl := k.1
    have es : sp_times P (nI i) = .inl (tmF (ti0 P.1.2.1 i) P.1.1, P) := by
      unfold sp_times
      rw [if_neg (fun z => z.elim (nI_pos (by omega)) (fun y => y h2)), nI_clamp (by omega)]
    obtain ⟨h1, a1, a2, a3⟩ := out_in (P_times q (nI i)) es
    have q3 := Q_ab a2 (show i < 24 by omega) (Or.inl (by omega)) (w := 3) (by decide) (by decide)
    rw [pr_3] at q3
    have hp : (0 : Int32) < nI (cntI P.1.1 (nI i)) ↔ 0 < cntI P.1.1 (nI i) := pos_nI (by omega)
    rw [tmS, cnS, unlI, ← Int32.add_assoc, ← Nat.add_assoc, ← Nat.add_assoc]
    by_cases h3 : 0 < cntI P.1.1 (nI i)
    · obtain ⟨h', c1, c2, c3⟩ := ih (i + 1) (t + tmF (ti0 P.1.2.1 i) P.1.1) (c + cntI P.1.1 (nI i)) (n + 1) h1 P (by omega) a2 k
      refine ⟨h', ?_, c2, a3.tr c3⟩
      rw [if_pos h3, ← c1, u_L_areCountsSo_75]
      simp only [u_L_areCountsSo_77, u_L_areCountsSo_79, u_L_areCountsSo_82, u_L_areCountsSo_83, u_L_areCountsSo_84, u_L_areCountsSo_86, u_L_areCountsSo_89, u_L_areCountsSo_90, u_L_areCountsSo_91, u_L_areCountsSo_93, u_L_areCountsSo_94, u_L_areCountsSo_96, u_L_areCountsSo_97, u_L_areCountsSo_100, u_L_areCountsSo_101, u_L_areCountsSo_103, u_L_areCountsSo_105, u_L_areCountsSo_106, u_L_areCountsSo_108, u_L_areCountsSo_109, u_L_areCountsSo_112, u_L_areCountsSo_115, u_L_areCountsSo_116, u_L_areCountsSo_120, u_L_areCountsSo_121, u_L_areCountsSo_123, u_L_areCountsSo_126, q.ob, a1, a2.ob, q3, h2, hp.mpr h3, nI_of1, nI_add, if_true, xgo_some, xgo_none, xgoI_none, xcat_n, xcat_i, xcat_r, xcat_z, List.length_nil, List.length_cons, List.getD_cons_zero, List.getD_cons_succ, List.set_cons_zero, List.set_cons_succ, Nat.zero_le, Nat.reduceAdd, Nat.reduceLeDiff, Nat.reduceEqDiff, reduceIte]
    · obtain ⟨h', c1, c2, c3⟩ := ih (i + 1) (t + tmF (ti0 P.1.2.1 i) P.1.1) (c + cntI P.1.1 (nI i)) (n + 0) h1 P (by omega) a2 k
      refine ⟨h', ?_, c2, a3.tr c3⟩
      have h4 : ¬ (0 : Int32) < nI (cntI P.1.1 (nI i)) := fun z => h3 (hp.mp z)
      rw [if_neg h3, ← c1, u_L_areCountsSo_75]
      simp only [u_L_areCountsSo_77, u_L_areCountsSo_79, u_L_areCountsSo_82, u_L_areCountsSo_83, u_L_areCountsSo_84, u_L_areCountsSo_86, u_L_areCountsSo_89, u_L_areCountsSo_90, u_L_areCountsSo_91, u_L_areCountsSo_93, u_L_areCountsSo_94, u_L_areCountsSo_96, u_L_areCountsSo_97, u_L_areCountsSo_100, u_L_areCountsSo_101, u_L_areCountsSo_103, u_L_areCountsSo_105, u_L_areCountsSo_106, u_L_areCountsSo_108, u_L_areCountsSo_109, u_L_areCountsSo_112, u_L_areCountsSo_119, u_L_areCountsSo_120, u_L_areCountsSo_121, u_L_areCountsSo_123, u_L_areCountsSo_126, q.ob, a1, a2.ob, q3, h2, h4, nI_of1, nI_add, Int32.add_zero, Nat.add_zero, if_true, if_false, xgo_some, xgo_none, xgoI_none, xcat_n, xcat_i, xcat_r, xcat_z, List.length_nil, List.length_cons, List.getD_cons_zero, List.getD_cons_succ, List.set_cons_zero, List.set_cons_succ, Nat.zero_le, Nat.reduceAdd, Nat.reduceLeDiff, Nat.reduceEqDiff, reduceIte]
/-! The counts: over the names. -/
theorem lp_ac3 {u t w : Int32} (q : isP h x P) (k : okS P.1) : ∀ (j i : Nat) (c n e : Nat) (l8 l9 lA lB : Option Value), 8 ≤ i → i + j = 24 →
    ∃ l8' l9' lA' lB', xf 98 136 [some (.ref x), some (.int u), some (.int t), some (.int w), some (.int (nI c)), some (.int (nI n)), some (.int (nI e)), some (.int (nI i)), l8, l9, lA, lB] [] h = xf 98 366 [some (.ref x), some (.int u), some (.int t), some (.int w), some (.int (nI (c + cnS P.1.1 i j))), some (.int (nI (n + unlI P.1.1 i j))), some (.int (nI (e + namN P.1.2.1.1 i j))), some (.int (nI 24)), l8', l9', lA', lB'] [] h := by
  obtain ⟨hl, ⟨d, l, wf⟩, pr, us, ho⟩ := id k
  intro j
  induction j with
  | zero =>
    intro i c n e l8 l9 lA lB i8 hj
    have h2 : ¬ nI i < 24 := nI_nlt (b := 24) (by omega) (by omega)
    refine ⟨l8, l9, lA, lB, ?_⟩
    rw [u_L_areCountsSo_136]
    simp only [u_L_areCountsSo_138, u_L_areCountsSo_140, h2, if_false, xgo_some, xgo_none, xgoI_none, xcat_n, xcat_i, xcat_r, xcat_z, List.length_nil, List.length_cons, List.getD_cons_zero, List.getD_cons_succ, List.set_cons_zero, List.set_cons_succ, Nat.zero_le, Nat.reduceAdd, Nat.reduceLeDiff, Nat.reduceEqDiff, reduceIte]
    rw [cnS, unlI, namN, Nat.add_zero, Nat.add_zero, Nat.add_zero, show i = 24 by omega]
  | succ j ih =>
    intro i c n e l8 l9 lA lB i8 hj
    have h2 : nI i < 24 := nI_lt (b := 24) (by omega) (by omega)
    have qn := l_isName q k i8 (show i < 24 by omega)
    rw [cnS, unlI, namN, ← Nat.add_assoc, ← Nat.add_assoc, ← Nat.add_assoc]
    by_cases hm : P.1.2.1.1 i = -1
    · have h0 := cnt_no pr i8 (by omega) hm
      obtain ⟨l8', l9', lA', lB', g⟩ := ih (i + 1) c n e l8 l9 lA lB (by omega) (by omega)
      refine ⟨l8', l9', lA', lB', ?_⟩
      rw [h0, if_neg (by omega), if_pos hm, Nat.add_zero c, Nat.add_zero n, Nat.add_zero e, ← g, u_L_areCountsSo_136]
      rw [if_pos hm] at qn
      simp only [u_L_areCountsSo_138, u_L_areCountsSo_140, u_L_areCountsSo_143, u_L_areCountsSo_144, u_L_areCountsSo_146, u_L_areCountsSo_149, u_L_areCountsSo_360, u_L_areCountsSo_363, h2, qn, nI_of1, eq_self, if_true, xgo_some, xgo_none, xgoI_none, xcat_n, xcat_i, xcat_r, xcat_z, List.length_nil, List.length_cons, List.getD_cons_zero, List.getD_cons_succ, List.set_cons_zero, List.set_cons_succ, Nat.zero_le, Nat.reduceAdd, Nat.reduceLeDiff, Nat.reduceEqDiff, reduceIte]
    · rw [if_neg hm] at qn
      have i24 : i < 24 := by omega
      have hsi : hsN P.1.2.1 i := Or.inr hm
      obtain ⟨p1, p2, a, b, a24, b24, ea, eb, ha, hb, ed, el⟩ := wf_pr wf i24 hsi i8
      obtain ⟨c0, c1⟩ := Q_a01 q i8 i24 hsi ea eb
      obtain ⟨f1, f2⟩ := sg_first wf i8 i24 hm ea eb a24 b24 ha hb ed el
      have d1 := wf_d16 wf a24 ha
      have d2 := wf_d16 wf b24 hb
      have l1 := wf_l16 wf a24 ha
      have l2 := wf_l16 wf b24 hb
      have hcc := cntI_le P.1.1 (nI i)
      have huu := usN_le P.1.2.1.1 P.1.2.1.2.1 (nI i) 16 8
      have hus := us i i8 i24 hm
      have a4 := Q_ab q a24 ha (w := 4) (by decide) (by decide)
      have b4 := Q_ab q b24 hb (w := 4) (by decide) (by decide)
      have n4 := Q_ab q i24 hsi (w := 4) (by decide) (by decide)
      have a5 := Q_ab q a24 ha (w := 5) (by decide) (by decide)
      have b5 := Q_ab q b24 hb (w := 5) (by decide) (by decide)
      have n5 := Q_ab q i24 hsi (w := 5) (by decide) (by decide)
      have a6 := Q_ab q a24 ha (w := 6) (by decide) (by decide)
      have n6 := Q_ab q i24 hsi (w := 6) (by decide) (by decide)
      have b7 := Q_ab q b24 hb (w := 7) (by decide) (by decide)
      have n7 := Q_ab q i24 hsi (w := 7) (by decide) (by decide)
      have n2 := Q_ab q i24 hsi (w := 2) (by decide) (by decide)
      have n3 := Q_ab q i24 hsi (w := 3) (by decide) (by decide)
      rw [pr_2] at n2
      rw [pr_3] at n3
      rw [pr_4, clAt_nI a24 (by decide), wf_dep wf a24 ha] at a4
      rw [pr_4, clAt_nI b24 (by decide), wf_dep wf b24 hb] at b4
      rw [pr_4, clAt_nI i24 (by decide), p1] at n4
      rw [pr_5, clAt_nI a24 (by decide), wf_len wf a24 ha] at a5
      rw [pr_5, clAt_nI b24 (by decide), wf_len wf b24 hb] at b5
      rw [pr_5, clAt_nI i24 (by decide), p2, el] at n5
      rw [pr_6] at a6
      rw [pr_6, f1] at n6
      rw [pr_7, clAt_nI b24 (by decide), wf_len wf b24 hb] at b7
      rw [pr_7, clAt_nI i24 (by decide), p2, f2] at n7
      have g1 : ¬ nI (cntI P.1.1 (nI i) + usN P.1.2.1.1 P.1.2.1.2.1 (nI i) 8 16) < 1 := nI_nlt (b := 1) (by omega) (by omega)
      have g2 : ¬ nI (cntI P.1.1 (nI i) + usN P.1.2.1.1 P.1.2.1.2.1 (nI i) 8 16) < nI (cntI P.1.1 (nI i)) := nI_nlt (by omega) (by omega)
      have hp : (0 : Int32) < nI (cntI P.1.1 (nI i)) ↔ 0 < cntI P.1.1 (nI i) := pos_nI (by omega)
      have fin : ∀ (A : Int32), nI (d i) = A + 1 → ∃ l8' l9' lA' lB', xf 98 204 [some (.ref x), some (.int u), some (.int t), some (.int w), some (.int (nI c)), some (.int (nI n)), some (.int (nI e)), some (.int (nI i)), some (.int (nI a)), some (.int (nI b)), lA, lB] [.int A] h = xf 98 366 [some (.ref x), some (.int u), some (.int t), some (.int w), some (.int (nI (c + cntI P.1.1 (nI i) + cnS P.1.1 (i + 1) j))), some (.int (nI (n + (if 0 < cntI P.1.1 (nI i) then 1 else 0) + unlI P.1.1 (i + 1) j))), some (.int (nI (e + 1 + namN P.1.2.1.1 (i + 1) j))), some (.int (nI 24)), l8', l9', lA', lB'] [] h := by
        intro A hA
        rw [hA] at n4
        by_cases h3 : 0 < cntI P.1.1 (nI i)
        · obtain ⟨l8', l9', lA', lB', g⟩ := ih (i + 1) (c + cntI P.1.1 (nI i)) (n + 1) (e + 1) (some (.int (nI a))) (some (.int (nI b))) (some (.int A)) (some (.int 1)) (by omega) (by omega)
          refine ⟨l8', l9', lA', lB', ?_⟩
          rw [if_pos h3, ← g, u_L_areCountsSo_204]
          simp only [u_L_areCountsSo_206, u_L_areCountsSo_207, u_L_areCountsSo_209, u_L_areCountsSo_210, u_L_areCountsSo_213, u_L_areCountsSo_214, u_L_areCountsSo_217, u_L_areCountsSo_218, u_L_areCountsSo_220, u_L_areCountsSo_221, u_L_areCountsSo_224, u_L_areCountsSo_225, u_L_areCountsSo_227, u_L_areCountsSo_228, u_L_areCountsSo_231, u_L_areCountsSo_234, u_L_areCountsSo_235, u_L_areCountsSo_237, u_L_areCountsSo_238, u_L_areCountsSo_241, u_L_areCountsSo_242, u_L_areCountsSo_244, u_L_areCountsSo_245, u_L_areCountsSo_248, u_L_areCountsSo_249, u_L_areCountsSo_251, u_L_areCountsSo_252, u_L_areCountsSo_255, u_L_areCountsSo_256, u_L_areCountsSo_259, u_L_areCountsSo_260, u_L_areCountsSo_264, u_L_areCountsSo_266, u_L_areCountsSo_268, u_L_areCountsSo_271, u_L_areCountsSo_272, u_L_areCountsSo_274, u_L_areCountsSo_275, u_L_areCountsSo_278, u_L_areCountsSo_280, u_L_areCountsSo_281, u_L_areCountsSo_282, u_L_areCountsSo_285, u_L_areCountsSo_286, u_L_areCountsSo_288, u_L_areCountsSo_290, u_L_areCountsSo_293, u_L_areCountsSo_294, u_L_areCountsSo_296, u_L_areCountsSo_298, u_L_areCountsSo_301, u_L_areCountsSo_304, u_L_areCountsSo_305, u_L_areCountsSo_307, u_L_areCountsSo_309, u_L_areCountsSo_312, u_L_areCountsSo_313, u_L_areCountsSo_315, u_L_areCountsSo_317, u_L_areCountsSo_320, u_L_areCountsSo_325, u_L_areCountsSo_328, u_L_areCountsSo_330, u_L_areCountsSo_331, u_L_areCountsSo_333, u_L_areCountsSo_334, u_L_areCountsSo_337, u_L_areCountsSo_338, u_L_areCountsSo_340, u_L_areCountsSo_342, u_L_areCountsSo_343, u_L_areCountsSo_345, u_L_areCountsSo_346, u_L_areCountsSo_349, u_L_areCountsSo_352, u_L_areCountsSo_353, u_L_areCountsSo_357, u_L_areCountsSo_358, u_L_areCountsSo_360, u_L_areCountsSo_363, q.ob, n2, n3, n4, n5, n6, n7, a5, b5, a6, b7, g1, g2, hp.mpr h3, i10, nI_of1, nI_add, eq_self, if_true, if_false, xgo_some, xgo_none, xgoI_none, xcat_n, xcat_i, xcat_r, xcat_z, List.length_nil, List.length_cons, List.getD_cons_zero, List.getD_cons_succ, List.set_cons_zero, List.set_cons_succ, Nat.zero_le, Nat.reduceAdd, Nat.reduceLeDiff, Nat.reduceEqDiff, reduceIte]
        · have h4 : ¬ (0 : Int32) < nI (cntI P.1.1 (nI i)) := fun z => h3 (hp.mp z)
          obtain ⟨l8', l9', lA', lB', g⟩ := ih (i + 1) (c + cntI P.1.1 (nI i)) n (e + 1) (some (.int (nI a))) (some (.int (nI b))) (some (.int A)) (some (.int 1)) (by omega) (by omega)
          refine ⟨l8', l9', lA', lB', ?_⟩
          rw [if_neg h3, Nat.add_zero n, ← g, u_L_areCountsSo_204]
          simp only [u_L_areCountsSo_206, u_L_areCountsSo_207, u_L_areCountsSo_209, u_L_areCountsSo_210, u_L_areCountsSo_213, u_L_areCountsSo_214, u_L_areCountsSo_217, u_L_areCountsSo_218, u_L_areCountsSo_220, u_L_areCountsSo_221, u_L_areCountsSo_224, u_L_areCountsSo_225, u_L_areCountsSo_227, u_L_areCountsSo_228, u_L_areCountsSo_231, u_L_areCountsSo_234, u_L_areCountsSo_235, u_L_areCountsSo_237, u_L_areCountsSo_238, u_L_areCountsSo_241, u_L_areCountsSo_242, u_L_areCountsSo_244, u_L_areCountsSo_245, u_L_areCountsSo_248, u_L_areCountsSo_249, u_L_areCountsSo_251, u_L_areCountsSo_252, u_L_areCountsSo_255, u_L_areCountsSo_256, u_L_areCountsSo_259, u_L_areCountsSo_260, u_L_areCountsSo_264, u_L_areCountsSo_266, u_L_areCountsSo_268, u_L_areCountsSo_271, u_L_areCountsSo_272, u_L_areCountsSo_274, u_L_areCountsSo_275, u_L_areCountsSo_278, u_L_areCountsSo_280, u_L_areCountsSo_281, u_L_areCountsSo_282, u_L_areCountsSo_285, u_L_areCountsSo_286, u_L_areCountsSo_288, u_L_areCountsSo_290, u_L_areCountsSo_293, u_L_areCountsSo_294, u_L_areCountsSo_296, u_L_areCountsSo_298, u_L_areCountsSo_301, u_L_areCountsSo_304, u_L_areCountsSo_305, u_L_areCountsSo_307, u_L_areCountsSo_309, u_L_areCountsSo_312, u_L_areCountsSo_313, u_L_areCountsSo_315, u_L_areCountsSo_317, u_L_areCountsSo_320, u_L_areCountsSo_325, u_L_areCountsSo_328, u_L_areCountsSo_330, u_L_areCountsSo_331, u_L_areCountsSo_333, u_L_areCountsSo_334, u_L_areCountsSo_337, u_L_areCountsSo_338, u_L_areCountsSo_340, u_L_areCountsSo_342, u_L_areCountsSo_343, u_L_areCountsSo_345, u_L_areCountsSo_346, u_L_areCountsSo_349, u_L_areCountsSo_356, u_L_areCountsSo_357, u_L_areCountsSo_358, u_L_areCountsSo_360, u_L_areCountsSo_363, q.ob, n2, n3, n4, n5, n6, n7, a5, b5, a6, b7, g1, g2, h4, i10, nI_of1, nI_add, Int32.add_zero, eq_self, if_true, if_false, xgo_some, xgo_none, xgoI_none, xcat_n, xcat_i, xcat_r, xcat_z, List.length_nil, List.length_cons, List.getD_cons_zero, List.getD_cons_succ, List.set_cons_zero, List.set_cons_succ, Nat.zero_le, Nat.reduceAdd, Nat.reduceLeDiff, Nat.reduceEqDiff, reduceIte]
      rw [if_neg hm]
      by_cases h5 : d b < d a
      · obtain ⟨l8', l9', lA', lB', g⟩ := fin (nI (d a)) (by rw [nI_of1, ed]; exact congrArg nI (by omega))
        refine ⟨l8', l9', lA', lB', ?_⟩
        have h6 : nI (d b) < nI (d a) := nI_lt h5 (by omega)
        rw [← g, u_L_areCountsSo_136]
        simp only [u_L_areCountsSo_138, u_L_areCountsSo_140, u_L_areCountsSo_143, u_L_areCountsSo_144, u_L_areCountsSo_146, u_L_areCountsSo_149, u_L_areCountsSo_152, u_L_areCountsSo_153, u_L_areCountsSo_155, u_L_areCountsSo_156, u_L_areCountsSo_159, u_L_areCountsSo_161, u_L_areCountsSo_162, u_L_areCountsSo_164, u_L_areCountsSo_165, u_L_areCountsSo_168, u_L_areCountsSo_170, u_L_areCountsSo_171, u_L_areCountsSo_173, u_L_areCountsSo_174, u_L_areCountsSo_177, u_L_areCountsSo_178, u_L_areCountsSo_180, u_L_areCountsSo_181, u_L_areCountsSo_184, u_L_areCountsSo_187, u_L_areCountsSo_188, u_L_areCountsSo_190, u_L_areCountsSo_191, u_L_areCountsSo_194, q.ob, h2, qn, c0, c1, a4, b4, h6, i10, if_true, if_false, xgo_some, xgo_none, xgoI_none, xcat_n, xcat_i, xcat_r, xcat_z, List.length_nil, List.length_cons, List.getD_cons_zero, List.getD_cons_succ, List.set_cons_zero, List.set_cons_succ, Nat.zero_le, Nat.reduceAdd, Nat.reduceLeDiff, Nat.reduceEqDiff, reduceIte]
      · obtain ⟨l8', l9', lA', lB', g⟩ := fin (nI (d b)) (by rw [nI_of1, ed]; exact congrArg nI (by omega))
        refine ⟨l8', l9', lA', lB', ?_⟩
        have h6 : ¬ nI (d b) < nI (d a) := nI_nlt (by omega) (by omega)
        rw [← g, u_L_areCountsSo_136]
        simp only [u_L_areCountsSo_138, u_L_areCountsSo_140, u_L_areCountsSo_143, u_L_areCountsSo_144, u_L_areCountsSo_146, u_L_areCountsSo_149, u_L_areCountsSo_152, u_L_areCountsSo_153, u_L_areCountsSo_155, u_L_areCountsSo_156, u_L_areCountsSo_159, u_L_areCountsSo_161, u_L_areCountsSo_162, u_L_areCountsSo_164, u_L_areCountsSo_165, u_L_areCountsSo_168, u_L_areCountsSo_170, u_L_areCountsSo_171, u_L_areCountsSo_173, u_L_areCountsSo_174, u_L_areCountsSo_177, u_L_areCountsSo_178, u_L_areCountsSo_180, u_L_areCountsSo_181, u_L_areCountsSo_184, u_L_areCountsSo_197, u_L_areCountsSo_198, u_L_areCountsSo_200, u_L_areCountsSo_201, q.ob, h2, qn, c0, c1, a4, b4, h6, i10, if_true, if_false, xgo_some, xgo_none, xgoI_none, xcat_n, xcat_i, xcat_r, xcat_z, List.length_nil, List.length_cons, List.getD_cons_zero, List.getD_cons_succ, List.set_cons_zero, List.set_cons_succ, Nat.zero_le, Nat.reduceAdd, Nat.reduceLeDiff, Nat.reduceEqDiff, reduceIte]
/-- the counts are so -/
theorem l_counts (q : isP h x P) (k : okS P.1) : ∃ h', xev 98 [.ref x] h = some (.inl (some (.int 1)), h') ∧ isP h' x P ∧ xFr x (x + 139) h h' := by
  obtain ⟨hl, ⟨d, l, wf⟩, pr, us, ho⟩ := id k
  obtain ⟨l7, e1⟩ := lp_ac1 q k none none none none P.1.1.length 0 0 0 none (by omega)
  rw [List.drop_zero, Int32.zero_add] at e1
  obtain ⟨h', e2, a2, a3⟩ := lp_ac2 (x := x) (u := txF P.1.2.1.2.2.2 P.1.1) (w := gdF P.1.2.1.2.2.1 0 P.1.1) l7 none none none none 8 0 0 0 0 h P (by omega) q k
  have hc8 := cnS_le P.1.1 8 0
  have hu8 := unlI_le P.1.1 8 0
  have et : tmS P.1 0 8 = txF P.1.2.1.2.2.2 P.1.1 := tmS_all (T := P.1.2.2) wf P.1.1 pr
  rw [Int32.zero_add, et, Nat.zero_add, Nat.zero_add] at e2
  obtain ⟨l8, l9, lA, lB, e3⟩ := lp_ac3 (u := txF P.1.2.1.2.2.2 P.1.1) (t := txF P.1.2.1.2.2.2 P.1.1) (w := gdF P.1.2.1.2.2.1 0 P.1.1) a2 k 16 8 (cnS P.1.1 0 8) (unlI P.1.1 0 8) 0 none none none none (by omega) (by omega)
  have s1 := cnS_app P.1.1 8 0 16
  have s2 := unlI_app P.1.1 8 0 16
  rw [Nat.zero_add] at s1 s2
  rw [← s1, ← s2, show 8 + 16 = 24 from rfl, cnS_all P.1.1 pr, Nat.zero_add] at e3
  have k1 := Q_c1 a2
  have k0 := Q_c0 a2
  have k2 := Q_c2 a2
  have k3 := Q_c3 a2
  have k4 := Q_c4 a2
  have k5 := Q_c5 a2
  have em : (2 : Int32) * nI (namN P.1.2.1.1 8 16) = nI (2 * namN P.1.2.1.1 8 16) := pk_mul 2 _
  have qp := Q_part a2 (p := nI P.1.1.length) (nI_pos (by omega))
  rw [clAt_out (Nat.le_refl _) (by omega)] at qp
  obtain ⟨t1, t2⟩ := tx_len k
  have qs := Q_sign a2 (p := txF P.1.2.1.2.2.2 P.1.1) (by rw [t1]; exact nI_pos (by omega))
  have es : sgX P.1 (txF P.1.2.1.2.2.2 P.1.1) = -1 := by
    rw [t1, sg_ex k (by omega), if_neg (by omega)]
  rw [es] at qs
  refine ⟨h', ?_, a2, a3⟩
  rw [e_L_areCountsSo]
  simp only [u_L_areCountsSo_0, u_L_areCountsSo_1, u_L_areCountsSo_2, u_L_areCountsSo_3, u_L_areCountsSo_4, u_L_areCountsSo_5, u_L_areCountsSo_6, u_L_areCountsSo_7, u_L_areCountsSo_9, u_L_areCountsSo_10, u_L_areCountsSo_12, u_L_areCountsSo_13, xgo_some, xgo_none, xgoI_none, xcat_n, xcat_i, xcat_r, xcat_z, List.length_nil, List.length_cons, List.getD_cons_zero, List.getD_cons_succ, List.set_cons_zero, List.set_cons_succ, Nat.zero_le, Nat.reduceAdd, Nat.reduceLeDiff, Nat.reduceEqDiff, reduceIte]
  rw [show (xf 98 15 [some (.ref x), some (.int 0), some (.int 0), some (.int 0), some (.int 0), some (.int 0), some (.int 0), none, none, none, none, none] [] h) = _ from e1, u_L_areCountsSo_72]
  simp only [u_L_areCountsSo_73, xgo_some, xgo_none, xgoI_none, xcat_n, xcat_i, xcat_r, xcat_z, List.length_nil, List.length_cons, List.getD_cons_zero, List.getD_cons_succ, List.set_cons_zero, List.set_cons_succ, Nat.zero_le, Nat.reduceAdd, Nat.reduceLeDiff, Nat.reduceEqDiff, reduceIte]
  rw [show (xf 98 75 [some (.ref x), some (.int (txF P.1.2.1.2.2.2 P.1.1)), some (.int 0), some (.int (gdF P.1.2.1.2.2.1 0 P.1.1)), some (.int 0), some (.int 0), some (.int 0), l7, none, none, none, none] [] h) = _ from e2, u_L_areCountsSo_129]
  simp only [u_L_areCountsSo_130, u_L_areCountsSo_132, u_L_areCountsSo_134, xgo_some, xgo_none, xgoI_none, xcat_n, xcat_i, xcat_r, xcat_z, List.length_nil, List.length_cons, List.getD_cons_zero, List.getD_cons_succ, List.set_cons_zero, List.set_cons_succ, Nat.zero_le, Nat.reduceAdd, Nat.reduceLeDiff, Nat.reduceEqDiff, reduceIte]
  rw [show (xf 98 136 [some (.ref x), some (.int (txF P.1.2.1.2.2.2 P.1.1)), some (.int (txF P.1.2.1.2.2.2 P.1.1)), some (.int (gdF P.1.2.1.2.2.1 0 P.1.1)), some (.int (nI (cnS P.1.1 0 8))), some (.int (nI (unlI P.1.1 0 8))), some (.int 0), some (.int 8), none, none, none, none] [] h') = _ from e3, u_L_areCountsSo_366]
  simp only [u_L_areCountsSo_367, u_L_areCountsSo_368, u_L_areCountsSo_369, u_L_areCountsSo_372, u_L_areCountsSo_375, u_L_areCountsSo_376, u_L_areCountsSo_377, u_L_areCountsSo_380, u_L_areCountsSo_381, u_L_areCountsSo_382, u_L_areCountsSo_383, u_L_areCountsSo_386, u_L_areCountsSo_389, u_L_areCountsSo_391, u_L_areCountsSo_392, u_L_areCountsSo_393, u_L_areCountsSo_396, u_L_areCountsSo_399, u_L_areCountsSo_401, u_L_areCountsSo_402, u_L_areCountsSo_403, u_L_areCountsSo_406, u_L_areCountsSo_409, u_L_areCountsSo_411, u_L_areCountsSo_412, u_L_areCountsSo_413, u_L_areCountsSo_416, u_L_areCountsSo_419, u_L_areCountsSo_420, u_L_areCountsSo_424, u_L_areCountsSo_426, u_L_areCountsSo_428, u_L_areCountsSo_431, u_L_areCountsSo_432, u_L_areCountsSo_433, u_L_areCountsSo_436, u_L_areCountsSo_437, u_L_areCountsSo_438, u_L_areCountsSo_441, u_L_areCountsSo_442, u_L_areCountsSo_444, u_L_areCountsSo_445, u_L_areCountsSo_446, u_L_areCountsSo_449, u_L_areCountsSo_450, u_L_areCountsSo_451, u_L_areCountsSo_452, u_L_areCountsSo_455, u_L_areCountsSo_458, u_L_areCountsSo_459, u_L_areCountsSo_462, u_L_areCountsSo_463, u_L_areCountsSo_464, u_L_areCountsSo_467, u_L_areCountsSo_468, u_L_areCountsSo_471, u_L_areCountsSo_472, u_L_areCountsSo_476, a2.ob, k0, k1, k2, k3, k4, k5, em, qp, qs, nI_add, i10, eq_self, or_true, if_true, if_false, xgo_some, xgo_none, xgoI_none, xcat_n, xcat_i, xcat_r, xcat_z, List.length_nil, List.length_cons, List.getD_cons_zero, List.getD_cons_succ, List.set_cons_zero, List.set_cons_succ, Nat.zero_le, Nat.reduceAdd, Nat.reduceLeDiff, Nat.reduceEqDiff, reduceIte]
end LC
