/-! The model: what is read once all is laid out. -/
section LK
variable {h : xH} {m : Nat} {Z : Nat → Int32} {D : Int64} {A : Nat → Nat → Int32} {X : xS} {d l : Nat → Nat}
/-- every part of the row is there -/
def rPr (L : List Int32) (N : xNs) : Prop := ∀ x ∈ L, ∃ p, p < 24 ∧ x = nI p ∧ hsN N p
theorem rPr_ok {L : List Int32} {N : xNs} (p : rPr L N) : rOk L := by
  intro x hx
  obtain ⟨k, k1, k2, -⟩ := p x hx
  rw [k2, nI_clamp (by omega)]
  exact ⟨rfl, k1⟩
theorem gd_mem {L : List Int32} {i : Nat} (hi : i < L.length) : gd L i ∈ L := by
  unfold gd
  rw [List.getD_eq_getElem?_getD, List.getElem?_eq_getElem hi]
  exact List.getElem_mem hi
theorem rPr_at {L : List Int32} {N : xNs} (p : rPr L N) {i : Nat} (hi : i < L.length) : ∃ k, k < 24 ∧ gd L i = nI k ∧ hsN N k := p _ (gd_mem hi)
theorem lp_txt (q : isMo h m Z D A) (r : rS (A 1) X) (y : lyA X.2.1 A) (pr : rPr X.1 X.2.1) : ∀ (k i : Nat) (u : Int32), i + k = X.1.length → xf 113 4 [some (.ref m), some (.int u), some (.int (nI i))] [] h = some (.inl (some (.int (u + txF X.2.1.2.2.2 (X.1.drop i)))), h) := by
  have hL := r.2.1
  intro k
  induction k with
  | zero =>
    intro i u hk
    have h2 : ¬ nI i < nI X.1.length := nI_nlt (by omega) (by omega)
    rw [u_X8_textLong_4]
    simp only [u_X8_textLong_0, u_X8_textLong_1, u_X8_textLong_2, u_X8_textLong_3, u_X8_textLong_5, u_X8_textLong_6, u_X8_textLong_9, u_X8_textLong_10, u_X8_textLong_11, u_X8_textLong_14, u_X8_textLong_15, u_X8_textLong_16, u_X8_textLong_19, u_X8_textLong_20, u_X8_textLong_23, u_X8_textLong_24, u_X8_textLong_25, u_X8_textLong_26, u_X8_textLong_27, u_X8_textLong_28, u_X8_textLong_29, u_X8_textLong_30, u_X8_textLong_33, u_X8_textLong_36, u_X8_textLong_37, q.ob, q.a1, x0117, c00, r.1, h2, if_false, xgo_some, xgo_none, xgoI_none, xcat_n, xcat_i, xcat_r, xcat_z, List.length_nil, List.length_cons, List.getD_cons_zero, List.getD_cons_succ, List.set_cons_zero, List.set_cons_succ, Nat.zero_le, Nat.reduceAdd, Nat.reduceLeDiff, Nat.reduceEqDiff, reduceIte]
    rw [List.drop_of_length_le (by omega), txF, Int32.add_zero]
  | succ k ih =>
    intro i u hk
    have h2 : nI i < nI X.1.length := nI_lt (by omega) (by omega)
    have hx : xix (nI (1 + i)) 117 := xix_nI (by omega) (by decide)
    have es := r.2.2.1 i (by omega)
    obtain ⟨p, p24, ep, hp⟩ := rPr_at pr (show i < X.1.length by omega)
    rw [ep] at es
    have hxp : xix (nI p) 24 := xix_nI p24 (by decide)
    rw [u_X8_textLong_4, gd_drop (show i < X.1.length by omega), txF, ep, clAt_nI p24 (by decide)]
    simp only [u_X8_textLong_0, u_X8_textLong_1, u_X8_textLong_2, u_X8_textLong_3, u_X8_textLong_5, u_X8_textLong_6, u_X8_textLong_9, u_X8_textLong_10, u_X8_textLong_11, u_X8_textLong_14, u_X8_textLong_15, u_X8_textLong_16, u_X8_textLong_19, u_X8_textLong_20, u_X8_textLong_23, u_X8_textLong_24, u_X8_textLong_25, u_X8_textLong_26, u_X8_textLong_27, u_X8_textLong_28, u_X8_textLong_29, u_X8_textLong_30, u_X8_textLong_33, u_X8_textLong_36, u_X8_textLong_37, q.ob, q.a1, q.a6, x0117, c00, r.1, h2, nI_s1, hx, nI_clamp (show 1 + i < 2 ^ 31 by omega), es, hxp, nI_clamp (show p < 2 ^ 31 by omega), (y p p24 hp).2.1, nI_of1, if_true, xgo_some, xgo_none, xgoI_none, xcat_n, xcat_i, xcat_r, xcat_z, List.length_nil, List.length_cons, List.getD_cons_zero, List.getD_cons_succ, List.set_cons_zero, List.set_cons_succ, Nat.zero_le, Nat.reduceAdd, Nat.reduceLeDiff, Nat.reduceEqDiff, reduceIte]
    rw [ih (i + 1) _ (by omega), Int32.add_assoc]
theorem m_txt (q : isMo h m Z D A) (r : rS (A 1) X) (y : lyA X.2.1 A) (pr : rPr X.1 X.2.1) : xev 113 [.ref m] h = some (.inl (some (.int (txF X.2.1.2.2.2 X.1))), h) := by
  rw [e_X8_textLong]
  simp only [u_X8_textLong_0, u_X8_textLong_1, u_X8_textLong_2, u_X8_textLong_3, u_X8_textLong_5, u_X8_textLong_6, u_X8_textLong_9, u_X8_textLong_10, u_X8_textLong_11, u_X8_textLong_14, u_X8_textLong_15, u_X8_textLong_16, u_X8_textLong_19, u_X8_textLong_20, u_X8_textLong_23, u_X8_textLong_24, u_X8_textLong_25, u_X8_textLong_26, u_X8_textLong_27, u_X8_textLong_28, u_X8_textLong_29, u_X8_textLong_30, u_X8_textLong_33, u_X8_textLong_36, u_X8_textLong_37, xgo_some, xgo_none, xgoI_none, xcat_n, xcat_i, xcat_r, xcat_z, List.length_nil, List.length_cons, List.getD_cons_zero, List.getD_cons_succ, List.set_cons_zero, List.set_cons_succ, Nat.zero_le, Nat.reduceAdd, Nat.reduceLeDiff, Nat.reduceEqDiff, reduceIte]
  have := lp_txt q r y pr _ 0 0 (Nat.zero_add _)
  rw [Int32.zero_add, List.drop_zero] at this
  exact this
theorem lp_deep (q : isMo h m Z D A) (r : rS (A 1) X) (y : lyA X.2.1 A) (pr : rPr X.1 X.2.1) : ∀ (k i : Nat) (u : Int32), i + k = X.1.length → xf 114 4 [some (.ref m), some (.int u), some (.int (nI i))] [] h = some (.inl (some (.int (gdF X.2.1.2.2.1 u (X.1.drop i)))), h) := by
  have hL := r.2.1
  intro k
  induction k with
  | zero =>
    intro i u hk
    have h2 : ¬ nI i < nI X.1.length := nI_nlt (by omega) (by omega)
    rw [u_X8_deepest_4]
    simp only [u_X8_deepest_0, u_X8_deepest_1, u_X8_deepest_2, u_X8_deepest_3, u_X8_deepest_5, u_X8_deepest_6, u_X8_deepest_9, u_X8_deepest_10, u_X8_deepest_11, u_X8_deepest_14, u_X8_deepest_15, u_X8_deepest_18, u_X8_deepest_19, u_X8_deepest_22, u_X8_deepest_23, u_X8_deepest_24, u_X8_deepest_25, u_X8_deepest_26, u_X8_deepest_27, u_X8_deepest_28, u_X8_deepest_31, u_X8_deepest_32, u_X8_deepest_35, u_X8_deepest_36, u_X8_deepest_39, u_X8_deepest_40, u_X8_deepest_41, u_X8_deepest_42, u_X8_deepest_43, u_X8_deepest_44, u_X8_deepest_47, u_X8_deepest_48, u_X8_deepest_49, u_X8_deepest_52, u_X8_deepest_55, u_X8_deepest_56, q.ob, q.a1, x0117, c00, r.1, h2, if_false, xgo_some, xgo_none, xgoI_none, xcat_n, xcat_i, xcat_r, xcat_z, List.length_nil, List.length_cons, List.getD_cons_zero, List.getD_cons_succ, List.set_cons_zero, List.set_cons_succ, Nat.zero_le, Nat.reduceAdd, Nat.reduceLeDiff, Nat.reduceEqDiff, reduceIte]
    rw [List.drop_of_length_le (by omega), gdF]
  | succ k ih =>
    intro i u hk
    have h2 : nI i < nI X.1.length := nI_lt (by omega) (by omega)
    have hx : xix (nI (1 + i)) 117 := xix_nI (by omega) (by decide)
    have es := r.2.2.1 i (by omega)
    obtain ⟨p, p24, ep, hp⟩ := rPr_at pr (show i < X.1.length by omega)
    rw [ep] at es
    have hxp : xix (nI p) 24 := xix_nI p24 (by decide)
    rw [u_X8_deepest_4, gd_drop (show i < X.1.length by omega), gdF, ep, clAt_nI p24 (by decide), xmax]
    by_cases h3 : u < X.2.1.2.2.1 p
    · rw [if_pos h3]
      simp only [u_X8_deepest_0, u_X8_deepest_1, u_X8_deepest_2, u_X8_deepest_3, u_X8_deepest_5, u_X8_deepest_6, u_X8_deepest_9, u_X8_deepest_10, u_X8_deepest_11, u_X8_deepest_14, u_X8_deepest_15, u_X8_deepest_18, u_X8_deepest_19, u_X8_deepest_22, u_X8_deepest_23, u_X8_deepest_24, u_X8_deepest_25, u_X8_deepest_26, u_X8_deepest_27, u_X8_deepest_28, u_X8_deepest_31, u_X8_deepest_32, u_X8_deepest_35, u_X8_deepest_36, u_X8_deepest_39, u_X8_deepest_40, u_X8_deepest_41, u_X8_deepest_42, u_X8_deepest_43, u_X8_deepest_44, u_X8_deepest_47, u_X8_deepest_48, u_X8_deepest_49, u_X8_deepest_52, u_X8_deepest_55, u_X8_deepest_56, q.ob, q.a1, q.a5, x0117, c00, r.1, h2, nI_s1, hx, nI_clamp (show 1 + i < 2 ^ 31 by omega), es, hxp, nI_clamp (show p < 2 ^ 31 by omega), (y p p24 hp).1, h3, nI_of1, if_true, xgo_some, xgo_none, xgoI_none, xcat_n, xcat_i, xcat_r, xcat_z, List.length_nil, List.length_cons, List.getD_cons_zero, List.getD_cons_succ, List.set_cons_zero, List.set_cons_succ, Nat.zero_le, Nat.reduceAdd, Nat.reduceLeDiff, Nat.reduceEqDiff, reduceIte]
      rw [ih (i + 1) _ (by omega)]
    · rw [if_neg h3]
      simp only [u_X8_deepest_0, u_X8_deepest_1, u_X8_deepest_2, u_X8_deepest_3, u_X8_deepest_5, u_X8_deepest_6, u_X8_deepest_9, u_X8_deepest_10, u_X8_deepest_11, u_X8_deepest_14, u_X8_deepest_15, u_X8_deepest_18, u_X8_deepest_19, u_X8_deepest_22, u_X8_deepest_23, u_X8_deepest_24, u_X8_deepest_25, u_X8_deepest_26, u_X8_deepest_27, u_X8_deepest_28, u_X8_deepest_31, u_X8_deepest_32, u_X8_deepest_35, u_X8_deepest_36, u_X8_deepest_39, u_X8_deepest_40, u_X8_deepest_41, u_X8_deepest_42, u_X8_deepest_43, u_X8_deepest_44, u_X8_deepest_47, u_X8_deepest_48, u_X8_deepest_49, u_X8_deepest_52, u_X8_deepest_55, u_X8_deepest_56, q.ob, q.a1, q.a5, x0117, c00, r.1, h2, nI_s1, hx, nI_clamp (show 1 + i < 2 ^ 31 by omega), es, hxp, nI_clamp (show p < 2 ^ 31 by omega), (y p p24 hp).1, h3, nI_of1, if_true, if_false, xgo_some, xgo_none, xgoI_none, xcat_n, xcat_i, xcat_r, xcat_z, List.length_nil, List.length_cons, List.getD_cons_zero, List.getD_cons_succ, List.set_cons_zero, List.set_cons_succ, Nat.zero_le, Nat.reduceAdd, Nat.reduceLeDiff, Nat.reduceEqDiff, reduceIte]
      rw [ih (i + 1) _ (by omega)]
theorem m_deep (q : isMo h m Z D A) (r : rS (A 1) X) (y : lyA X.2.1 A) (pr : rPr X.1 X.2.1) : xev 114 [.ref m] h = some (.inl (some (.int (gdF X.2.1.2.2.1 0 X.1))), h) := by
  rw [e_X8_deepest]
  simp only [u_X8_deepest_0, u_X8_deepest_1, u_X8_deepest_2, u_X8_deepest_3, u_X8_deepest_5, u_X8_deepest_6, u_X8_deepest_9, u_X8_deepest_10, u_X8_deepest_11, u_X8_deepest_14, u_X8_deepest_15, u_X8_deepest_18, u_X8_deepest_19, u_X8_deepest_22, u_X8_deepest_23, u_X8_deepest_24, u_X8_deepest_25, u_X8_deepest_26, u_X8_deepest_27, u_X8_deepest_28, u_X8_deepest_31, u_X8_deepest_32, u_X8_deepest_35, u_X8_deepest_36, u_X8_deepest_39, u_X8_deepest_40, u_X8_deepest_41, u_X8_deepest_42, u_X8_deepest_43, u_X8_deepest_44, u_X8_deepest_47, u_X8_deepest_48, u_X8_deepest_49, u_X8_deepest_52, u_X8_deepest_55, u_X8_deepest_56, xgo_some, xgo_none, xgoI_none, xcat_n, xcat_i, xcat_r, xcat_z, List.length_nil, List.length_cons, List.getD_cons_zero, List.getD_cons_succ, List.set_cons_zero, List.set_cons_succ, Nat.zero_le, Nat.reduceAdd, Nat.reduceLeDiff, Nat.reduceEqDiff, reduceIte]
  have := lp_deep q r y pr _ 0 0 (Nat.zero_add _)
  rw [List.drop_zero] at this
  exact this
theorem lp_tms (q : isMo h m Z D A) (r : rS (A 1) X) (y : lyA X.2.1 A) (pr : rPr X.1 X.2.1) {s : Nat} (hs : s < 8) : ∀ (k i : Nat) (u : Int32), i + k = X.1.length → xf 147 4 [some (.ref m), some (.int (nI s)), some (.int u), some (.int (nI i))] [] h = some (.inl (some (.int (u + tmF (ti0 X.2.1 s) (X.1.drop i)))), h) := by
  have hL := r.2.1
  intro k
  induction k with
  | zero =>
    intro i u hk
    have h2 : ¬ nI i < nI X.1.length := nI_nlt (by omega) (by omega)
    rw [u_X8_timesOf_4]
    simp only [u_X8_timesOf_0, u_X8_timesOf_1, u_X8_timesOf_2, u_X8_timesOf_3, u_X8_timesOf_5, u_X8_timesOf_6, u_X8_timesOf_9, u_X8_timesOf_10, u_X8_timesOf_11, u_X8_timesOf_14, u_X8_timesOf_15, u_X8_timesOf_16, u_X8_timesOf_19, u_X8_timesOf_21, u_X8_timesOf_22, u_X8_timesOf_25, u_X8_timesOf_26, u_X8_timesOf_27, u_X8_timesOf_28, u_X8_timesOf_29, u_X8_timesOf_30, u_X8_timesOf_31, u_X8_timesOf_32, u_X8_timesOf_33, u_X8_timesOf_34, u_X8_timesOf_35, u_X8_timesOf_38, u_X8_timesOf_41, u_X8_timesOf_42, q.ob, q.a1, x0117, c00, r.1, h2, if_false, xgo_some, xgo_none, xgoI_none, xcat_n, xcat_i, xcat_r, xcat_z, List.length_nil, List.length_cons, List.getD_cons_zero, List.getD_cons_succ, List.set_cons_zero, List.set_cons_succ, Nat.zero_le, Nat.reduceAdd, Nat.reduceLeDiff, Nat.reduceEqDiff, reduceIte]
    rw [List.drop_of_length_le (by omega), tmF, Int32.add_zero]
  | succ k ih =>
    intro i u hk
    have h2 : nI i < nI X.1.length := nI_lt (by omega) (by omega)
    have hx : xix (nI (1 + i)) 117 := xix_nI (by omega) (by decide)
    have es := r.2.2.1 i (by omega)
    obtain ⟨p, p24, ep, hp⟩ := rPr_at pr (show i < X.1.length by omega)
    rw [ep] at es
    have hxp : xix (nI (8 * p + s)) 192 := xix_nI (by omega) (by decide)
    rw [u_X8_timesOf_4, gd_drop (show i < X.1.length by omega), tmF, ep, clAt_nI p24 (by decide)]
    simp only [u_X8_timesOf_0, u_X8_timesOf_1, u_X8_timesOf_2, u_X8_timesOf_3, u_X8_timesOf_5, u_X8_timesOf_6, u_X8_timesOf_9, u_X8_timesOf_10, u_X8_timesOf_11, u_X8_timesOf_14, u_X8_timesOf_15, u_X8_timesOf_16, u_X8_timesOf_19, u_X8_timesOf_21, u_X8_timesOf_22, u_X8_timesOf_25, u_X8_timesOf_26, u_X8_timesOf_27, u_X8_timesOf_28, u_X8_timesOf_29, u_X8_timesOf_30, u_X8_timesOf_31, u_X8_timesOf_32, u_X8_timesOf_33, u_X8_timesOf_34, u_X8_timesOf_35, u_X8_timesOf_38, u_X8_timesOf_41, u_X8_timesOf_42, q.ob, q.a1, q.a9, x0117, c00, r.1, h2, nI_s1, hx, nI_clamp (show 1 + i < 2 ^ 31 by omega), es, nI_8, hxp, nI_clamp (show 8 * p + s < 2 ^ 31 by omega), (y p p24 hp).2.2.2.2 s hs, nI_of1, if_true, xgo_some, xgo_none, xgoI_none, xcat_n, xcat_i, xcat_r, xcat_z, List.length_nil, List.length_cons, List.getD_cons_zero, List.getD_cons_succ, List.set_cons_zero, List.set_cons_succ, Nat.zero_le, Nat.reduceAdd, Nat.reduceLeDiff, Nat.reduceEqDiff, reduceIte]
    rw [ih (i + 1) _ (by omega), Int32.add_assoc]
theorem m_tms (q : isMo h m Z D A) (r : rS (A 1) X) (y : lyA X.2.1 A) (pr : rPr X.1 X.2.1) {s : Nat} (hs : s < 8) : xev 147 [.ref m, .int (nI s)] h = some (.inl (some (.int (tmF (ti0 X.2.1 s) X.1))), h) := by
  rw [e_X8_timesOf]
  simp only [u_X8_timesOf_0, u_X8_timesOf_1, u_X8_timesOf_2, u_X8_timesOf_3, u_X8_timesOf_5, u_X8_timesOf_6, u_X8_timesOf_9, u_X8_timesOf_10, u_X8_timesOf_11, u_X8_timesOf_14, u_X8_timesOf_15, u_X8_timesOf_16, u_X8_timesOf_19, u_X8_timesOf_21, u_X8_timesOf_22, u_X8_timesOf_25, u_X8_timesOf_26, u_X8_timesOf_27, u_X8_timesOf_28, u_X8_timesOf_29, u_X8_timesOf_30, u_X8_timesOf_31, u_X8_timesOf_32, u_X8_timesOf_33, u_X8_timesOf_34, u_X8_timesOf_35, u_X8_timesOf_38, u_X8_timesOf_41, u_X8_timesOf_42, xgo_some, xgo_none, xgoI_none, xcat_n, xcat_i, xcat_r, xcat_z, List.length_nil, List.length_cons, List.getD_cons_zero, List.getD_cons_succ, List.set_cons_zero, List.set_cons_succ, Nat.zero_le, Nat.reduceAdd, Nat.reduceLeDiff, Nat.reduceEqDiff, reduceIte]
  have := lp_tms q r y pr hs _ 0 0 (Nat.zero_add _)
  rw [Int32.zero_add, List.drop_zero] at this
  exact this
theorem lp_sgI (q : isMo h m Z D A) (r : rS (A 1) X) (w : wfN X.2.1 d l) (y : lyA X.2.1 A) (p0 k0 : Int32) : ∀ (n p : Nat) (v : Int32) (l5 : Option Value), p < 24 → hsN X.2.1 p → d p ≤ n → xf 115 75 [some (.ref m), some (.int p0), some (.int v), some (.int k0), some (.int (nI p)), l5] [] h = some (.inl (some (.int (sgN X.2.1.1 X.2.1.2.1 X.2.1.2.2.2 16 (nI p) v))), h) := by
  intro n
  induction n with
  | zero =>
    intro p v l5 h24 hs hd
    by_cases h8 : p < 8
    · have c8 : nI p < 8 := nI_lt (b := 8) h8 (by decide)
      rw [u_X8_signAt_75, sgN_8 _ _ _ h8]
      simp only [u_X8_signAt_77, u_X8_signAt_79, u_X8_signAt_152, u_X8_signAt_154, c8, if_true, xgo_some, xgo_none, xgoI_none, xcat_n, xcat_i, xcat_r, xcat_z, List.length_nil, List.length_cons, List.getD_cons_zero, List.getD_cons_succ, List.set_cons_zero, List.set_cons_succ, Nat.zero_le, Nat.reduceAdd, Nat.reduceLeDiff, Nat.reduceEqDiff, reduceIte]
    · obtain ⟨p1, p2, a, b, a24, b24, ea, eb, ha, hb, e, hl⟩ := wf_pr w h24 hs (by omega)
      omega
  | succ n ih =>
    intro p v l5 h24 hs hd
    by_cases h8 : p < 8
    · have c8 : nI p < 8 := nI_lt (b := 8) h8 (by decide)
      rw [u_X8_signAt_75, sgN_8 _ _ _ h8]
      simp only [u_X8_signAt_77, u_X8_signAt_79, u_X8_signAt_152, u_X8_signAt_154, c8, if_true, xgo_some, xgo_none, xgoI_none, xcat_n, xcat_i, xcat_r, xcat_z, List.length_nil, List.length_cons, List.getD_cons_zero, List.getD_cons_succ, List.set_cons_zero, List.set_cons_succ, Nat.zero_le, Nat.reduceAdd, Nat.reduceLeDiff, Nat.reduceEqDiff, reduceIte]
    · obtain ⟨p1, p2, a, b, a24, b24, ea, eb, ha, hb, e, hl⟩ := wf_pr w h24 hs (by omega)
      have c8 : ¬ nI p < 8 := nI_nlt (b := 8) (by omega) (by omega)
      have hn : X.2.1.1 p ≠ -1 := hs.elim (fun z => absurd z h8) id
      have f1 := m_first q r (show 8 ≤ p by omega) h24 hn
      have f2 := m_second q r (show 8 ≤ p by omega) h24 hn
      rw [ea] at f1
      rw [eb] at f2
      have hxa : xix (nI a) 24 := xix_nI a24 (by decide)
      have ca := nI_clamp (show a < 2 ^ 31 by omega)
      have la : A 6 a = nI (l a) := (y a a24 ha).2.1.trans (wf_len w a24 ha)
      rw [u_X8_signAt_75, sgN_st w h24 (by omega) a24 b24 ea eb ha hb e (wf_d16 w h24 hs)]
      by_cases h3 : v < nI (l a)
      · rw [if_pos h3]
        simp only [u_X8_signAt_0, u_X8_signAt_1, u_X8_signAt_2, u_X8_signAt_3, u_X8_signAt_5, u_X8_signAt_6, u_X8_signAt_9, u_X8_signAt_10, u_X8_signAt_11, u_X8_signAt_14, u_X8_signAt_15, u_X8_signAt_16, u_X8_signAt_19, u_X8_signAt_20, u_X8_signAt_23, u_X8_signAt_24, u_X8_signAt_25, u_X8_signAt_26, u_X8_signAt_27, u_X8_signAt_28, u_X8_signAt_31, u_X8_signAt_32, u_X8_signAt_33, u_X8_signAt_36, u_X8_signAt_37, u_X8_signAt_40, u_X8_signAt_41, u_X8_signAt_42, u_X8_signAt_43, u_X8_signAt_44, u_X8_signAt_45, u_X8_signAt_46, u_X8_signAt_47, u_X8_signAt_50, u_X8_signAt_53, u_X8_signAt_54, u_X8_signAt_55, u_X8_signAt_58, u_X8_signAt_59, u_X8_signAt_60, u_X8_signAt_63, u_X8_signAt_64, u_X8_signAt_65, u_X8_signAt_66, u_X8_signAt_69, u_X8_signAt_70, u_X8_signAt_71, u_X8_signAt_72, u_X8_signAt_73, u_X8_signAt_77, u_X8_signAt_79, u_X8_signAt_82, u_X8_signAt_83, u_X8_signAt_84, u_X8_signAt_87, u_X8_signAt_88, u_X8_signAt_90, u_X8_signAt_93, u_X8_signAt_94, u_X8_signAt_97, u_X8_signAt_98, u_X8_signAt_101, u_X8_signAt_102, u_X8_signAt_104, u_X8_signAt_105, u_X8_signAt_107, u_X8_signAt_110, u_X8_signAt_111, u_X8_signAt_114, u_X8_signAt_115, u_X8_signAt_118, u_X8_signAt_119, u_X8_signAt_121, u_X8_signAt_124, u_X8_signAt_125, u_X8_signAt_126, u_X8_signAt_127, u_X8_signAt_129, u_X8_signAt_132, u_X8_signAt_133, u_X8_signAt_135, u_X8_signAt_138, u_X8_signAt_141, u_X8_signAt_142, u_X8_signAt_144, u_X8_signAt_147, u_X8_signAt_149, u_X8_signAt_152, u_X8_signAt_154, c8, q.ob, f1, q.a6, hxa, ca, la, h3, i10, Int32.sub_zero, if_true, if_false, xgo_some, xgo_none, xgoI_none, xcat_n, xcat_i, xcat_r, xcat_z, List.length_nil, List.length_cons, List.getD_cons_zero, List.getD_cons_succ, List.set_cons_zero, List.set_cons_succ, Nat.zero_le, Nat.reduceAdd, Nat.reduceLeDiff, Nat.reduceEqDiff, reduceIte]
        exact ih a v _ a24 ha (by omega)
      · rw [if_neg h3]
        simp only [u_X8_signAt_0, u_X8_signAt_1, u_X8_signAt_2, u_X8_signAt_3, u_X8_signAt_5, u_X8_signAt_6, u_X8_signAt_9, u_X8_signAt_10, u_X8_signAt_11, u_X8_signAt_14, u_X8_signAt_15, u_X8_signAt_16, u_X8_signAt_19, u_X8_signAt_20, u_X8_signAt_23, u_X8_signAt_24, u_X8_signAt_25, u_X8_signAt_26, u_X8_signAt_27, u_X8_signAt_28, u_X8_signAt_31, u_X8_signAt_32, u_X8_signAt_33, u_X8_signAt_36, u_X8_signAt_37, u_X8_signAt_40, u_X8_signAt_41, u_X8_signAt_42, u_X8_signAt_43, u_X8_signAt_44, u_X8_signAt_45, u_X8_signAt_46, u_X8_signAt_47, u_X8_signAt_50, u_X8_signAt_53, u_X8_signAt_54, u_X8_signAt_55, u_X8_signAt_58, u_X8_signAt_59, u_X8_signAt_60, u_X8_signAt_63, u_X8_signAt_64, u_X8_signAt_65, u_X8_signAt_66, u_X8_signAt_69, u_X8_signAt_70, u_X8_signAt_71, u_X8_signAt_72, u_X8_signAt_73, u_X8_signAt_77, u_X8_signAt_79, u_X8_signAt_82, u_X8_signAt_83, u_X8_signAt_84, u_X8_signAt_87, u_X8_signAt_88, u_X8_signAt_90, u_X8_signAt_93, u_X8_signAt_94, u_X8_signAt_97, u_X8_signAt_98, u_X8_signAt_101, u_X8_signAt_102, u_X8_signAt_104, u_X8_signAt_105, u_X8_signAt_107, u_X8_signAt_110, u_X8_signAt_111, u_X8_signAt_114, u_X8_signAt_115, u_X8_signAt_118, u_X8_signAt_119, u_X8_signAt_121, u_X8_signAt_124, u_X8_signAt_125, u_X8_signAt_126, u_X8_signAt_127, u_X8_signAt_129, u_X8_signAt_132, u_X8_signAt_133, u_X8_signAt_135, u_X8_signAt_138, u_X8_signAt_141, u_X8_signAt_142, u_X8_signAt_144, u_X8_signAt_147, u_X8_signAt_149, u_X8_signAt_152, u_X8_signAt_154, c8, q.ob, f1, f2, q.a6, hxa, ca, la, h3, if_true, if_false, xgo_some, xgo_none, xgoI_none, xcat_n, xcat_i, xcat_r, xcat_z, List.length_nil, List.length_cons, List.getD_cons_zero, List.getD_cons_succ, List.set_cons_zero, List.set_cons_succ, Nat.zero_le, Nat.reduceAdd, Nat.reduceLeDiff, Nat.reduceEqDiff, reduceIte]
        exact ih b _ _ b24 hb (by omega)
theorem lp_sg (q : isMo h m Z D A) (r : rS (A 1) X) (w : wfN X.2.1 d l) (y : lyA X.2.1 A) (pr : rPr X.1 X.2.1) (p0 : Int32) (l4 l5 : Option Value) : ∀ (k i : Nat) (v : Int32), i + k = X.1.length → xf 115 4 [some (.ref m), some (.int p0), some (.int v), some (.int (nI i)), l4, l5] [] h = some (.inl (some (.int (sgR X.2.1.1 X.2.1.2.1 X.2.1.2.2.2 (X.1.drop i) v))), h) := by
  have hL := r.2.1
  intro k
  induction k with
  | zero =>
    intro i v hk
    have h2 : ¬ nI i < nI X.1.length := nI_nlt (by omega) (by omega)
    have h3 : nI i = nI X.1.length := by rw [show i = X.1.length by omega]
    rw [u_X8_signAt_4]
    simp only [u_X8_signAt_0, u_X8_signAt_1, u_X8_signAt_2, u_X8_signAt_3, u_X8_signAt_5, u_X8_signAt_6, u_X8_signAt_9, u_X8_signAt_10, u_X8_signAt_11, u_X8_signAt_14, u_X8_signAt_15, u_X8_signAt_16, u_X8_signAt_19, u_X8_signAt_20, u_X8_signAt_23, u_X8_signAt_24, u_X8_signAt_25, u_X8_signAt_26, u_X8_signAt_27, u_X8_signAt_28, u_X8_signAt_31, u_X8_signAt_32, u_X8_signAt_33, u_X8_signAt_36, u_X8_signAt_37, u_X8_signAt_40, u_X8_signAt_41, u_X8_signAt_42, u_X8_signAt_43, u_X8_signAt_44, u_X8_signAt_45, u_X8_signAt_46, u_X8_signAt_47, u_X8_signAt_50, u_X8_signAt_53, u_X8_signAt_54, u_X8_signAt_55, u_X8_signAt_58, u_X8_signAt_59, u_X8_signAt_60, u_X8_signAt_63, u_X8_signAt_64, u_X8_signAt_65, u_X8_signAt_66, u_X8_signAt_69, u_X8_signAt_70, u_X8_signAt_71, u_X8_signAt_72, u_X8_signAt_73, u_X8_signAt_77, u_X8_signAt_79, u_X8_signAt_82, u_X8_signAt_83, u_X8_signAt_84, u_X8_signAt_87, u_X8_signAt_88, u_X8_signAt_90, u_X8_signAt_93, u_X8_signAt_94, u_X8_signAt_97, u_X8_signAt_98, u_X8_signAt_101, u_X8_signAt_102, u_X8_signAt_104, u_X8_signAt_105, u_X8_signAt_107, u_X8_signAt_110, u_X8_signAt_111, u_X8_signAt_114, u_X8_signAt_115, u_X8_signAt_118, u_X8_signAt_119, u_X8_signAt_121, u_X8_signAt_124, u_X8_signAt_125, u_X8_signAt_126, u_X8_signAt_127, u_X8_signAt_129, u_X8_signAt_132, u_X8_signAt_133, u_X8_signAt_135, u_X8_signAt_138, u_X8_signAt_141, u_X8_signAt_142, u_X8_signAt_144, u_X8_signAt_147, u_X8_signAt_149, u_X8_signAt_152, u_X8_signAt_154, q.ob, q.a1, x0117, c00, r.1, h2, if_false, xgo_some, xgo_none, xgoI_none, xcat_n, xcat_i, xcat_r, xcat_z, List.length_nil, List.length_cons, List.getD_cons_zero, List.getD_cons_succ, List.set_cons_zero, List.set_cons_succ, Nat.zero_le, Nat.reduceAdd, Nat.reduceLeDiff, Nat.reduceEqDiff, reduceIte]
    rw [if_pos h3, List.drop_of_length_le (by omega), sgR]
  | succ k ih =>
    intro i v hk
    have h2 : nI i < nI X.1.length := nI_lt (by omega) (by omega)
    have h3 : ¬ nI i = nI X.1.length := fun z => by
      have := (nI_eq (by omega) (by omega)).mp z
      omega
    have hx : xix (nI (1 + i)) 117 := xix_nI (by omega) (by decide)
    have es := r.2.2.1 i (by omega)
    obtain ⟨p, p24, ep, hp⟩ := rPr_at pr (show i < X.1.length by omega)
    rw [ep] at es
    have hxp : xix (nI p) 24 := xix_nI p24 (by decide)
    have cp := nI_clamp (show p < 2 ^ 31 by omega)
    rw [u_X8_signAt_4, gd_drop (show i < X.1.length by omega), sgR, ep, clAt_nI p24 (by decide)]
    by_cases h4 : v < X.2.1.2.2.2 p
    · rw [if_pos h4]
      simp only [u_X8_signAt_0, u_X8_signAt_1, u_X8_signAt_2, u_X8_signAt_3, u_X8_signAt_5, u_X8_signAt_6, u_X8_signAt_9, u_X8_signAt_10, u_X8_signAt_11, u_X8_signAt_14, u_X8_signAt_15, u_X8_signAt_16, u_X8_signAt_19, u_X8_signAt_20, u_X8_signAt_23, u_X8_signAt_24, u_X8_signAt_25, u_X8_signAt_26, u_X8_signAt_27, u_X8_signAt_28, u_X8_signAt_31, u_X8_signAt_32, u_X8_signAt_33, u_X8_signAt_36, u_X8_signAt_37, u_X8_signAt_40, u_X8_signAt_41, u_X8_signAt_42, u_X8_signAt_43, u_X8_signAt_44, u_X8_signAt_45, u_X8_signAt_46, u_X8_signAt_47, u_X8_signAt_50, u_X8_signAt_53, u_X8_signAt_54, u_X8_signAt_55, u_X8_signAt_58, u_X8_signAt_59, u_X8_signAt_60, u_X8_signAt_63, u_X8_signAt_64, u_X8_signAt_65, u_X8_signAt_66, u_X8_signAt_69, u_X8_signAt_70, u_X8_signAt_71, u_X8_signAt_72, u_X8_signAt_73, u_X8_signAt_77, u_X8_signAt_79, u_X8_signAt_82, u_X8_signAt_83, u_X8_signAt_84, u_X8_signAt_87, u_X8_signAt_88, u_X8_signAt_90, u_X8_signAt_93, u_X8_signAt_94, u_X8_signAt_97, u_X8_signAt_98, u_X8_signAt_101, u_X8_signAt_102, u_X8_signAt_104, u_X8_signAt_105, u_X8_signAt_107, u_X8_signAt_110, u_X8_signAt_111, u_X8_signAt_114, u_X8_signAt_115, u_X8_signAt_118, u_X8_signAt_119, u_X8_signAt_121, u_X8_signAt_124, u_X8_signAt_125, u_X8_signAt_126, u_X8_signAt_127, u_X8_signAt_129, u_X8_signAt_132, u_X8_signAt_133, u_X8_signAt_135, u_X8_signAt_138, u_X8_signAt_141, u_X8_signAt_142, u_X8_signAt_144, u_X8_signAt_147, u_X8_signAt_149, u_X8_signAt_152, u_X8_signAt_154, q.ob, q.a1, q.a6, x0117, c00, r.1, h2, h3, nI_s1, hx, nI_clamp (show 1 + i < 2 ^ 31 by omega), es, hxp, cp, (y p p24 hp).2.1, h4, if_true, if_false, xgo_some, xgo_none, xgoI_none, xcat_n, xcat_i, xcat_r, xcat_z, List.length_nil, List.length_cons, List.getD_cons_zero, List.getD_cons_succ, List.set_cons_zero, List.set_cons_succ, Nat.zero_le, Nat.reduceAdd, Nat.reduceLeDiff, Nat.reduceEqDiff, reduceIte]
      exact lp_sgI q r w y p0 (nI i) (d p) p v l5 p24 hp (Nat.le_refl _)
    · rw [if_neg h4]
      simp only [u_X8_signAt_0, u_X8_signAt_1, u_X8_signAt_2, u_X8_signAt_3, u_X8_signAt_5, u_X8_signAt_6, u_X8_signAt_9, u_X8_signAt_10, u_X8_signAt_11, u_X8_signAt_14, u_X8_signAt_15, u_X8_signAt_16, u_X8_signAt_19, u_X8_signAt_20, u_X8_signAt_23, u_X8_signAt_24, u_X8_signAt_25, u_X8_signAt_26, u_X8_signAt_27, u_X8_signAt_28, u_X8_signAt_31, u_X8_signAt_32, u_X8_signAt_33, u_X8_signAt_36, u_X8_signAt_37, u_X8_signAt_40, u_X8_signAt_41, u_X8_signAt_42, u_X8_signAt_43, u_X8_signAt_44, u_X8_signAt_45, u_X8_signAt_46, u_X8_signAt_47, u_X8_signAt_50, u_X8_signAt_53, u_X8_signAt_54, u_X8_signAt_55, u_X8_signAt_58, u_X8_signAt_59, u_X8_signAt_60, u_X8_signAt_63, u_X8_signAt_64, u_X8_signAt_65, u_X8_signAt_66, u_X8_signAt_69, u_X8_signAt_70, u_X8_signAt_71, u_X8_signAt_72, u_X8_signAt_73, u_X8_signAt_77, u_X8_signAt_79, u_X8_signAt_82, u_X8_signAt_83, u_X8_signAt_84, u_X8_signAt_87, u_X8_signAt_88, u_X8_signAt_90, u_X8_signAt_93, u_X8_signAt_94, u_X8_signAt_97, u_X8_signAt_98, u_X8_signAt_101, u_X8_signAt_102, u_X8_signAt_104, u_X8_signAt_105, u_X8_signAt_107, u_X8_signAt_110, u_X8_signAt_111, u_X8_signAt_114, u_X8_signAt_115, u_X8_signAt_118, u_X8_signAt_119, u_X8_signAt_121, u_X8_signAt_124, u_X8_signAt_125, u_X8_signAt_126, u_X8_signAt_127, u_X8_signAt_129, u_X8_signAt_132, u_X8_signAt_133, u_X8_signAt_135, u_X8_signAt_138, u_X8_signAt_141, u_X8_signAt_142, u_X8_signAt_144, u_X8_signAt_147, u_X8_signAt_149, u_X8_signAt_152, u_X8_signAt_154, q.ob, q.a1, q.a6, x0117, c00, r.1, h2, nI_s1, hx, nI_clamp (show 1 + i < 2 ^ 31 by omega), es, hxp, cp, (y p p24 hp).2.1, h4, nI_of1, if_true, if_false, xgo_some, xgo_none, xgoI_none, xcat_n, xcat_i, xcat_r, xcat_z, List.length_nil, List.length_cons, List.getD_cons_zero, List.getD_cons_succ, List.set_cons_zero, List.set_cons_succ, Nat.zero_le, Nat.reduceAdd, Nat.reduceLeDiff, Nat.reduceEqDiff, reduceIte]
      exact ih (i + 1) _ (by omega)
theorem m_sg (q : isMo h m Z D A) (r : rS (A 1) X) (w : wfN X.2.1 d l) (y : lyA X.2.1 A) (pr : rPr X.1 X.2.1) (v : Int32) : xev 115 [.ref m, .int v] h = some (.inl (some (.int (sgX X v))), h) := by
  rw [e_X8_signAt]
  simp only [u_X8_signAt_0, u_X8_signAt_1, u_X8_signAt_2, u_X8_signAt_3, xgo_some, xgo_none, xgoI_none, xcat_n, xcat_i, xcat_r, xcat_z, List.length_nil, List.length_cons, List.getD_cons_zero, List.getD_cons_succ, List.set_cons_zero, List.set_cons_succ, Nat.zero_le, Nat.reduceAdd, Nat.reduceLeDiff, Nat.reduceEqDiff, reduceIte]
  have := lp_sg q r w y pr v none none _ 0 v (Nat.zero_add _)
  rw [List.drop_zero] at this
  exact this
theorem lp_unl (q : isMo h m Z D A) (r : rS (A 1) X) : ∀ (k i u : Nat), i + k = 24 → xf 144 4 [some (.ref m), some (.int (nI u)), some (.int (nI i))] [] h = some (.inl (some (.int (nI (u + unlI X.1 i k)))), h) := by
  have hL := r.2.1
  intro k
  induction k with
  | zero =>
    intro i u hk
    have h2 : ¬ nI i < 24 := nI_nlt (b := 24) (by omega) (by omega)
    rw [u_X8_unlike_4]
    simp only [u_X8_unlike_0, u_X8_unlike_1, u_X8_unlike_2, u_X8_unlike_3, u_X8_unlike_5, u_X8_unlike_7, u_X8_unlike_10, u_X8_unlike_11, u_X8_unlike_12, u_X8_unlike_13, u_X8_unlike_16, u_X8_unlike_19, u_X8_unlike_20, u_X8_unlike_23, u_X8_unlike_24, u_X8_unlike_25, u_X8_unlike_26, u_X8_unlike_29, u_X8_unlike_32, u_X8_unlike_33, h2, if_false, xgo_some, xgo_none, xgoI_none, xcat_n, xcat_i, xcat_r, xcat_z, List.length_nil, List.length_cons, List.getD_cons_zero, List.getD_cons_succ, List.set_cons_zero, List.set_cons_succ, Nat.zero_le, Nat.reduceAdd, Nat.reduceLeDiff, Nat.reduceEqDiff, reduceIte]
    rfl
  | succ k ih =>
    intro i u hk
    have h2 : nI i < 24 := nI_lt (b := 24) (by omega) (by omega)
    have hc : cntI X.1 (nI i) < 2 ^ 31 := by have := cntI_le X.1 (nI i); omega
    rw [u_X8_unlike_4, unlI]
    by_cases h3 : 0 < cntI X.1 (nI i)
    · have h4 : (0 : Int32) < nI (cntI X.1 (nI i)) := nI_lt (a := 0) h3 hc
      rw [if_pos h3]
      simp only [u_X8_unlike_0, u_X8_unlike_1, u_X8_unlike_2, u_X8_unlike_3, u_X8_unlike_5, u_X8_unlike_7, u_X8_unlike_10, u_X8_unlike_11, u_X8_unlike_12, u_X8_unlike_13, u_X8_unlike_16, u_X8_unlike_19, u_X8_unlike_20, u_X8_unlike_23, u_X8_unlike_24, u_X8_unlike_25, u_X8_unlike_26, u_X8_unlike_29, u_X8_unlike_32, u_X8_unlike_33, h2, q.ob, m_inRow q r, h4, nI_of1, if_true, xgo_some, xgo_none, xgoI_none, xcat_n, xcat_i, xcat_r, xcat_z, List.length_nil, List.length_cons, List.getD_cons_zero, List.getD_cons_succ, List.set_cons_zero, List.set_cons_succ, Nat.zero_le, Nat.reduceAdd, Nat.reduceLeDiff, Nat.reduceEqDiff, reduceIte]
      rw [ih (i + 1) _ (by omega), Nat.add_assoc]
    · have h4 : ¬ (0 : Int32) < nI (cntI X.1 (nI i)) := nI_nlt (a := 0) (by omega) (by omega)
      rw [if_neg h3]
      simp only [u_X8_unlike_0, u_X8_unlike_1, u_X8_unlike_2, u_X8_unlike_3, u_X8_unlike_5, u_X8_unlike_7, u_X8_unlike_10, u_X8_unlike_11, u_X8_unlike_12, u_X8_unlike_13, u_X8_unlike_16, u_X8_unlike_19, u_X8_unlike_20, u_X8_unlike_23, u_X8_unlike_24, u_X8_unlike_25, u_X8_unlike_26, u_X8_unlike_29, u_X8_unlike_32, u_X8_unlike_33, h2, q.ob, m_inRow q r, h4, nI_of1, Int32.add_zero, if_true, if_false, xgo_some, xgo_none, xgoI_none, xcat_n, xcat_i, xcat_r, xcat_z, List.length_nil, List.length_cons, List.getD_cons_zero, List.getD_cons_succ, List.set_cons_zero, List.set_cons_succ, Nat.zero_le, Nat.reduceAdd, Nat.reduceLeDiff, Nat.reduceEqDiff, reduceIte]
      rw [ih (i + 1) _ (by omega), Nat.zero_add]
theorem m_unl (q : isMo h m Z D A) (r : rS (A 1) X) : xev 144 [.ref m] h = some (.inl (some (.int (nI (unlI X.1 0 24)))), h) := by
  rw [e_X8_unlike]
  simp only [u_X8_unlike_0, u_X8_unlike_1, u_X8_unlike_2, u_X8_unlike_3, u_X8_unlike_5, u_X8_unlike_7, u_X8_unlike_10, u_X8_unlike_11, u_X8_unlike_12, u_X8_unlike_13, u_X8_unlike_16, u_X8_unlike_19, u_X8_unlike_20, u_X8_unlike_23, u_X8_unlike_24, u_X8_unlike_25, u_X8_unlike_26, u_X8_unlike_29, u_X8_unlike_32, u_X8_unlike_33, xgo_some, xgo_none, xgoI_none, xcat_n, xcat_i, xcat_r, xcat_z, List.length_nil, List.length_cons, List.getD_cons_zero, List.getD_cons_succ, List.set_cons_zero, List.set_cons_succ, Nat.zero_le, Nat.reduceAdd, Nat.reduceLeDiff, Nat.reduceEqDiff, reduceIte]
  have := lp_unl q r 24 0 0 (by omega)
  rw [Nat.zero_add] at this
  exact this
theorem le_8 {v : Int32} (h0 : ¬ v < 0) (h8 : ¬ (8 : Int32) < v) : v = 0 ∨ v = 1 ∨ v = 2 ∨ v = 3 ∨ v = 4 ∨ v = 5 ∨ v = 6 ∨ v = 7 ∨ v = 8 := by
  obtain ⟨k, k1, k2⟩ := nI_of h0
  have k3 : k ≤ 8 := by
    apply Nat.le_of_not_lt
    intro z
    exact h8 (by rw [k2]; exact nI_lt (a := 8) z k1)
  subst k2
  match k, k3 with
  | 0, _ => exact Or.inl rfl
  | 1, _ => exact Or.inr (Or.inl rfl)
  | 2, _ => exact Or.inr (Or.inr (Or.inl rfl))
  | 3, _ => exact Or.inr (Or.inr (Or.inr (Or.inl rfl)))
  | 4, _ => exact Or.inr (Or.inr (Or.inr (Or.inr (Or.inl rfl))))
  | 5, _ => exact Or.inr (Or.inr (Or.inr (Or.inr (Or.inr (Or.inl rfl)))))
  | 6, _ => exact Or.inr (Or.inr (Or.inr (Or.inr (Or.inr (Or.inr (Or.inl rfl))))))
  | 7, _ => exact Or.inr (Or.inr (Or.inr (Or.inr (Or.inr (Or.inr (Or.inr (Or.inl rfl)))))))
  | 8, _ => exact Or.inr (Or.inr (Or.inr (Or.inr (Or.inr (Or.inr (Or.inr (Or.inr rfl)))))))
  | k + 9, k3 => exact absurd k3 (by omega)
theorem x115' : xix ((115 : Int32) + 6 - 6) 117 := ⟨by decide, by decide⟩
theorem c115' : ((115 : Int32) + 6 - 6).toNatClampNeg = 115 := by decide
theorem x115'' : xix ((115 : Int32) + 7 - 6) 117 := ⟨by decide, by decide⟩
theorem c115'' : ((115 : Int32) + 7 - 6).toNatClampNeg = 116 := by decide
theorem m_cou (q : isMo h m Z D A) (r : rS (A 1) X) (y : lyA X.2.1 A) (pr : rPr X.1 X.2.1) {n : Nat} (hZ : Z 4 = nI n) {v : Int32} (h0 : ¬ v < 0) (h8 : ¬ (8 : Int32) < v) : xev 145 [.ref m, .int v] h = some (.inl (some (.int (if v = 8 then nI n else toX X v))), h) := by
  have s5 := r.2.2.2.2.2.2.1
  have s6 := r.2.2.2.2.2.2.2
  rw [e_X8_counted]
  unfold toX
  rcases le_8 h0 h8 with e | e | e | e | e | e | e | e | e <;> subst e
  · simp only [u_X8_counted_0, u_X8_counted_1, u_X8_counted_48, u_X8_counted_49, u_X8_counted_52, u_X8_counted_53, u_X8_counted_54, u_X8_counted_55, u_X8_counted_56, u_X8_counted_59, u_X8_counted_60, u_X8_counted_61, u_X8_counted_64, u_X8_counted_65, u_X8_counted_66, u_X8_counted_69, u_X8_counted_70, u_X8_counted_71, u_X8_counted_74, u_X8_counted_75, u_X8_counted_76, u_X8_counted_79, u_X8_counted_80, u_X8_counted_81, u_X8_counted_84, u_X8_counted_86, u_X8_counted_87, u_X8_counted_88, u_X8_counted_90, u_X8_counted_91, u_X8_counted_92, u_X8_counted_93, u_X8_counted_94, u_X8_counted_97, q.ob, q.a1, x0117, c00, r.1, show ¬ (0 : Int32) = 8 by decide, if_true, if_false, xgo_some, xgo_none, xgoI_none, xcat_n, xcat_i, xcat_r, xcat_z, List.length_nil, List.length_cons, List.getD_cons_zero, List.getD_cons_succ, List.set_cons_zero, List.set_cons_succ, Nat.zero_le, Nat.reduceAdd, Nat.reduceLeDiff, Nat.reduceEqDiff, reduceIte]
  · simp only [u_X8_counted_0, u_X8_counted_1, u_X8_counted_48, u_X8_counted_49, u_X8_counted_52, u_X8_counted_53, u_X8_counted_54, u_X8_counted_55, u_X8_counted_56, u_X8_counted_59, u_X8_counted_60, u_X8_counted_61, u_X8_counted_64, u_X8_counted_65, u_X8_counted_66, u_X8_counted_69, u_X8_counted_70, u_X8_counted_71, u_X8_counted_74, u_X8_counted_75, u_X8_counted_76, u_X8_counted_79, u_X8_counted_80, u_X8_counted_81, u_X8_counted_84, u_X8_counted_86, u_X8_counted_87, u_X8_counted_88, u_X8_counted_90, u_X8_counted_91, u_X8_counted_92, u_X8_counted_93, u_X8_counted_94, u_X8_counted_97, q.ob, m_names q r, show ¬ (1 : Int32) = 0 by decide, show ¬ (1 : Int32) = 8 by decide, if_true, if_false, xgo_some, xgo_none, xgoI_none, xcat_n, xcat_i, xcat_r, xcat_z, List.length_nil, List.length_cons, List.getD_cons_zero, List.getD_cons_succ, List.set_cons_zero, List.set_cons_succ, Nat.zero_le, Nat.reduceAdd, Nat.reduceLeDiff, Nat.reduceEqDiff, reduceIte]
  · simp only [u_X8_counted_0, u_X8_counted_1, u_X8_counted_48, u_X8_counted_49, u_X8_counted_52, u_X8_counted_53, u_X8_counted_54, u_X8_counted_55, u_X8_counted_56, u_X8_counted_59, u_X8_counted_60, u_X8_counted_61, u_X8_counted_64, u_X8_counted_65, u_X8_counted_66, u_X8_counted_69, u_X8_counted_70, u_X8_counted_71, u_X8_counted_74, u_X8_counted_75, u_X8_counted_76, u_X8_counted_79, u_X8_counted_80, u_X8_counted_81, u_X8_counted_84, u_X8_counted_86, u_X8_counted_87, u_X8_counted_88, u_X8_counted_90, u_X8_counted_91, u_X8_counted_92, u_X8_counted_93, u_X8_counted_94, u_X8_counted_97, q.ob, m_txt q r y pr, show ¬ (2 : Int32) = 0 by decide, show ¬ (2 : Int32) = 1 by decide, show ¬ (2 : Int32) = 8 by decide, if_true, if_false, xgo_some, xgo_none, xgoI_none, xcat_n, xcat_i, xcat_r, xcat_z, List.length_nil, List.length_cons, List.getD_cons_zero, List.getD_cons_succ, List.set_cons_zero, List.set_cons_succ, Nat.zero_le, Nat.reduceAdd, Nat.reduceLeDiff, Nat.reduceEqDiff, reduceIte]
  · simp only [u_X8_counted_0, u_X8_counted_1, u_X8_counted_48, u_X8_counted_49, u_X8_counted_52, u_X8_counted_53, u_X8_counted_54, u_X8_counted_55, u_X8_counted_56, u_X8_counted_59, u_X8_counted_60, u_X8_counted_61, u_X8_counted_64, u_X8_counted_65, u_X8_counted_66, u_X8_counted_69, u_X8_counted_70, u_X8_counted_71, u_X8_counted_74, u_X8_counted_75, u_X8_counted_76, u_X8_counted_79, u_X8_counted_80, u_X8_counted_81, u_X8_counted_84, u_X8_counted_86, u_X8_counted_87, u_X8_counted_88, u_X8_counted_90, u_X8_counted_91, u_X8_counted_92, u_X8_counted_93, u_X8_counted_94, u_X8_counted_97, q.ob, m_unl q r, show ¬ (3 : Int32) = 0 by decide, show ¬ (3 : Int32) = 1 by decide, show ¬ (3 : Int32) = 2 by decide, show ¬ (3 : Int32) = 8 by decide, if_true, if_false, xgo_some, xgo_none, xgoI_none, xcat_n, xcat_i, xcat_r, xcat_z, List.length_nil, List.length_cons, List.getD_cons_zero, List.getD_cons_succ, List.set_cons_zero, List.set_cons_succ, Nat.zero_le, Nat.reduceAdd, Nat.reduceLeDiff, Nat.reduceEqDiff, reduceIte]
  · simp only [u_X8_counted_0, u_X8_counted_1, u_X8_counted_48, u_X8_counted_49, u_X8_counted_52, u_X8_counted_53, u_X8_counted_54, u_X8_counted_55, u_X8_counted_56, u_X8_counted_59, u_X8_counted_60, u_X8_counted_61, u_X8_counted_64, u_X8_counted_65, u_X8_counted_66, u_X8_counted_69, u_X8_counted_70, u_X8_counted_71, u_X8_counted_74, u_X8_counted_75, u_X8_counted_76, u_X8_counted_79, u_X8_counted_80, u_X8_counted_81, u_X8_counted_84, u_X8_counted_86, u_X8_counted_87, u_X8_counted_88, u_X8_counted_90, u_X8_counted_91, u_X8_counted_92, u_X8_counted_93, u_X8_counted_94, u_X8_counted_97, q.ob, m_deep q r y pr, show ¬ (4 : Int32) = 0 by decide, show ¬ (4 : Int32) = 1 by decide, show ¬ (4 : Int32) = 2 by decide, show ¬ (4 : Int32) = 3 by decide, show ¬ (4 : Int32) = 8 by decide, if_true, if_false, xgo_some, xgo_none, xgoI_none, xcat_n, xcat_i, xcat_r, xcat_z, List.length_nil, List.length_cons, List.getD_cons_zero, List.getD_cons_succ, List.set_cons_zero, List.set_cons_succ, Nat.zero_le, Nat.reduceAdd, Nat.reduceLeDiff, Nat.reduceEqDiff, reduceIte]
  · simp only [u_X8_counted_0, u_X8_counted_1, u_X8_counted_48, u_X8_counted_49, u_X8_counted_52, u_X8_counted_53, u_X8_counted_54, u_X8_counted_55, u_X8_counted_56, u_X8_counted_59, u_X8_counted_60, u_X8_counted_61, u_X8_counted_64, u_X8_counted_65, u_X8_counted_66, u_X8_counted_69, u_X8_counted_70, u_X8_counted_71, u_X8_counted_74, u_X8_counted_75, u_X8_counted_76, u_X8_counted_79, u_X8_counted_80, u_X8_counted_81, u_X8_counted_84, u_X8_counted_86, u_X8_counted_87, u_X8_counted_88, u_X8_counted_90, u_X8_counted_91, u_X8_counted_92, u_X8_counted_93, u_X8_counted_94, u_X8_counted_97, q.ob, m_size q r, show ¬ (5 : Int32) = 0 by decide, show ¬ (5 : Int32) = 1 by decide, show ¬ (5 : Int32) = 2 by decide, show ¬ (5 : Int32) = 3 by decide, show ¬ (5 : Int32) = 4 by decide, show ¬ (5 : Int32) = 8 by decide, if_true, if_false, xgo_some, xgo_none, xgoI_none, xcat_n, xcat_i, xcat_r, xcat_z, List.length_nil, List.length_cons, List.getD_cons_zero, List.getD_cons_succ, List.set_cons_zero, List.set_cons_succ, Nat.zero_le, Nat.reduceAdd, Nat.reduceLeDiff, Nat.reduceEqDiff, reduceIte]
    rfl
  · simp only [u_X8_counted_0, u_X8_counted_1, u_X8_counted_48, u_X8_counted_49, u_X8_counted_52, u_X8_counted_53, u_X8_counted_54, u_X8_counted_55, u_X8_counted_56, u_X8_counted_59, u_X8_counted_60, u_X8_counted_61, u_X8_counted_64, u_X8_counted_65, u_X8_counted_66, u_X8_counted_69, u_X8_counted_70, u_X8_counted_71, u_X8_counted_74, u_X8_counted_75, u_X8_counted_76, u_X8_counted_79, u_X8_counted_80, u_X8_counted_81, u_X8_counted_84, u_X8_counted_86, u_X8_counted_87, u_X8_counted_88, u_X8_counted_90, u_X8_counted_91, u_X8_counted_92, u_X8_counted_93, u_X8_counted_94, u_X8_counted_97, q.ob, q.a1, x115', c115', s5, show ¬ (6 : Int32) = 0 by decide, show ¬ (6 : Int32) = 1 by decide, show ¬ (6 : Int32) = 2 by decide, show ¬ (6 : Int32) = 3 by decide, show ¬ (6 : Int32) = 4 by decide, show ¬ (6 : Int32) = 5 by decide, show ¬ (6 : Int32) = 8 by decide, if_true, if_false, xgo_some, xgo_none, xgoI_none, xcat_n, xcat_i, xcat_r, xcat_z, List.length_nil, List.length_cons, List.getD_cons_zero, List.getD_cons_succ, List.set_cons_zero, List.set_cons_succ, Nat.zero_le, Nat.reduceAdd, Nat.reduceLeDiff, Nat.reduceEqDiff, reduceIte]
  · simp only [u_X8_counted_0, u_X8_counted_1, u_X8_counted_48, u_X8_counted_49, u_X8_counted_52, u_X8_counted_53, u_X8_counted_54, u_X8_counted_55, u_X8_counted_56, u_X8_counted_59, u_X8_counted_60, u_X8_counted_61, u_X8_counted_64, u_X8_counted_65, u_X8_counted_66, u_X8_counted_69, u_X8_counted_70, u_X8_counted_71, u_X8_counted_74, u_X8_counted_75, u_X8_counted_76, u_X8_counted_79, u_X8_counted_80, u_X8_counted_81, u_X8_counted_84, u_X8_counted_86, u_X8_counted_87, u_X8_counted_88, u_X8_counted_90, u_X8_counted_91, u_X8_counted_92, u_X8_counted_93, u_X8_counted_94, u_X8_counted_97, q.ob, q.a1, x115'', c115'', s6, show ¬ (7 : Int32) = 0 by decide, show ¬ (7 : Int32) = 1 by decide, show ¬ (7 : Int32) = 2 by decide, show ¬ (7 : Int32) = 3 by decide, show ¬ (7 : Int32) = 4 by decide, show ¬ (7 : Int32) = 5 by decide, show ¬ (7 : Int32) = 6 by decide, show ¬ (7 : Int32) = 8 by decide, if_true, if_false, xgo_some, xgo_none, xgoI_none, xcat_n, xcat_i, xcat_r, xcat_z, List.length_nil, List.length_cons, List.getD_cons_zero, List.getD_cons_succ, List.set_cons_zero, List.set_cons_succ, Nat.zero_le, Nat.reduceAdd, Nat.reduceLeDiff, Nat.reduceEqDiff, reduceIte]
  · simp only [u_X8_counted_0, u_X8_counted_1, u_X8_counted_48, u_X8_counted_49, u_X8_counted_52, u_X8_counted_53, u_X8_counted_54, u_X8_counted_55, u_X8_counted_56, u_X8_counted_59, u_X8_counted_60, u_X8_counted_61, u_X8_counted_64, u_X8_counted_65, u_X8_counted_66, u_X8_counted_69, u_X8_counted_70, u_X8_counted_71, u_X8_counted_74, u_X8_counted_75, u_X8_counted_76, u_X8_counted_79, u_X8_counted_80, u_X8_counted_81, u_X8_counted_84, u_X8_counted_86, u_X8_counted_87, u_X8_counted_88, u_X8_counted_90, u_X8_counted_91, u_X8_counted_92, u_X8_counted_93, u_X8_counted_94, u_X8_counted_97, q.ob, hZ, show ¬ (8 : Int32) = 0 by decide, show ¬ (8 : Int32) = 1 by decide, show ¬ (8 : Int32) = 2 by decide, show ¬ (8 : Int32) = 3 by decide, show ¬ (8 : Int32) = 4 by decide, show ¬ (8 : Int32) = 5 by decide, show ¬ (8 : Int32) = 6 by decide, show ¬ (8 : Int32) = 7 by decide, if_true, if_false, xgo_some, xgo_none, xgoI_none, xcat_n, xcat_i, xcat_r, xcat_z, List.length_nil, List.length_cons, List.getD_cons_zero, List.getD_cons_succ, List.set_cons_zero, List.set_cons_succ, Nat.zero_le, Nat.reduceAdd, Nat.reduceLeDiff, Nat.reduceEqDiff, reduceIte]
theorem m_abo (q : isMo h m Z D A) (r : rS (A 1) X) (w : wfN X.2.1 d l) (y : lyA X.2.1 A) {p : Nat} (h24 : p < 24) (hs : hsN X.2.1 p) (v : Int32) : xev 139 [.ref m, .int (nI p), .int v] h = some (.inl (some (.int (prX X (nI p) v))), h) := by
  have hx : xix (nI p) 24 := xix_nI h24 (by decide)
  have cp := nI_clamp (show p < 2 ^ 31 by omega)
  have p1 := m_inRow q r (nI p)
  have p2 := m_inPairs q r (okQ_B w.1) (nI p) (nI_nm1 (by omega))
  obtain ⟨y1, y2, y3, y4, -⟩ := y p h24 hs
  rw [e_X8_aboutOf]
  unfold prX
  rw [clAt_nI h24 (by decide), clAt_nI h24 (by decide), clAt_nI h24 (by decide), clAt_nI h24 (by decide)]
  by_cases h8 : p < 8
  · have c8 : nI p < 8 := nI_lt (b := 8) h8 (by decide)
    obtain ⟨w1, w2, -⟩ := w.2.1 p h8
    simp only [u_X8_aboutOf_0, u_X8_aboutOf_1, u_X8_aboutOf_44, u_X8_aboutOf_45, u_X8_aboutOf_47, u_X8_aboutOf_50, u_X8_aboutOf_51, u_X8_aboutOf_54, u_X8_aboutOf_55, u_X8_aboutOf_56, u_X8_aboutOf_59, u_X8_aboutOf_60, u_X8_aboutOf_61, u_X8_aboutOf_63, u_X8_aboutOf_66, u_X8_aboutOf_67, u_X8_aboutOf_70, u_X8_aboutOf_71, u_X8_aboutOf_72, u_X8_aboutOf_75, u_X8_aboutOf_76, u_X8_aboutOf_77, u_X8_aboutOf_78, u_X8_aboutOf_81, u_X8_aboutOf_82, u_X8_aboutOf_83, u_X8_aboutOf_86, u_X8_aboutOf_87, u_X8_aboutOf_88, u_X8_aboutOf_89, u_X8_aboutOf_90, u_X8_aboutOf_93, u_X8_aboutOf_94, u_X8_aboutOf_95, u_X8_aboutOf_98, u_X8_aboutOf_99, u_X8_aboutOf_100, u_X8_aboutOf_101, u_X8_aboutOf_102, u_X8_aboutOf_105, u_X8_aboutOf_106, u_X8_aboutOf_107, u_X8_aboutOf_108, u_X8_aboutOf_109, u_X8_aboutOf_112, u_X8_aboutOf_113, u_X8_aboutOf_114, u_X8_aboutOf_115, u_X8_aboutOf_116, u_X8_aboutOf_119, u_X8_aboutOf_120, u_X8_aboutOf_121, q.ob, q.a5, q.a6, q.a7, q.a8, c8, hx, cp, p1, p2, y1, y2, y3, y4, w1, w2, nI_add, if_true, xgo_some, xgo_none, xgoI_none, xcat_n, xcat_i, xcat_r, xcat_z, List.length_nil, List.length_cons, List.getD_cons_zero, List.getD_cons_succ, List.set_cons_zero, List.set_cons_succ, Nat.zero_le, Nat.reduceAdd, Nat.reduceLeDiff, Nat.reduceEqDiff, reduceIte]
    repeat' split
    all_goals rfl
  · have c8 : ¬ nI p < 8 := nI_nlt (b := 8) (by omega) (by omega)
    have hn : X.2.1.1 p ≠ -1 := hs.elim (fun z => absurd z h8) id
    have f1 := m_first q r (show 8 ≤ p by omega) h24 hn
    have f2 := m_second q r (show 8 ≤ p by omega) h24 hn
    simp only [u_X8_aboutOf_0, u_X8_aboutOf_1, u_X8_aboutOf_44, u_X8_aboutOf_45, u_X8_aboutOf_47, u_X8_aboutOf_50, u_X8_aboutOf_51, u_X8_aboutOf_54, u_X8_aboutOf_55, u_X8_aboutOf_56, u_X8_aboutOf_59, u_X8_aboutOf_60, u_X8_aboutOf_61, u_X8_aboutOf_63, u_X8_aboutOf_66, u_X8_aboutOf_67, u_X8_aboutOf_70, u_X8_aboutOf_71, u_X8_aboutOf_72, u_X8_aboutOf_75, u_X8_aboutOf_76, u_X8_aboutOf_77, u_X8_aboutOf_78, u_X8_aboutOf_81, u_X8_aboutOf_82, u_X8_aboutOf_83, u_X8_aboutOf_86, u_X8_aboutOf_87, u_X8_aboutOf_88, u_X8_aboutOf_89, u_X8_aboutOf_90, u_X8_aboutOf_93, u_X8_aboutOf_94, u_X8_aboutOf_95, u_X8_aboutOf_98, u_X8_aboutOf_99, u_X8_aboutOf_100, u_X8_aboutOf_101, u_X8_aboutOf_102, u_X8_aboutOf_105, u_X8_aboutOf_106, u_X8_aboutOf_107, u_X8_aboutOf_108, u_X8_aboutOf_109, u_X8_aboutOf_112, u_X8_aboutOf_113, u_X8_aboutOf_114, u_X8_aboutOf_115, u_X8_aboutOf_116, u_X8_aboutOf_119, u_X8_aboutOf_120, u_X8_aboutOf_121, q.ob, q.a5, q.a6, q.a7, q.a8, c8, hx, cp, p1, p2, f1, f2, y1, y2, y3, y4, nI_add, if_true, if_false, xgo_some, xgo_none, xgoI_none, xcat_n, xcat_i, xcat_r, xcat_z, List.length_nil, List.length_cons, List.getD_cons_zero, List.getD_cons_succ, List.set_cons_zero, List.set_cons_succ, Nat.zero_le, Nat.reduceAdd, Nat.reduceLeDiff, Nat.reduceEqDiff, reduceIte]
    repeat' split
    all_goals rfl
end LK
