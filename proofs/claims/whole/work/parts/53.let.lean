/-! The model: may a name go. -/
section LG
variable {h : xH} {m : Nat} {Z : Nat → Int32} {D : Int64} {A : Nat → Nat → Int32} {X : xS}
theorem x114 : xix 114 117 := ⟨by decide, by decide⟩
theorem c114 : (114 : Int32).toNatClampNeg = 114 := by decide
def mgB (X : xS) (v : Nat) : Bool := hasP X.2.1.1 (nI v) && (decide (nI (cntI X.1 (nI v)) < X.2.2.2.1) && decide (usN X.2.1.1 X.2.1.2.1 (nI v) 8 16 = 0) && decide (X.1.length + cntI X.1 (nI v) ≤ 64))
theorem m_mayGo (q : isMo h m Z D A) (r : rS (A 1) X) (o : okQ X.2.1) {v : Nat} (hv : v < 24) : xev 129 [.ref m, .int (nI v)] h = some (.inl (some (.int (b32 (mgB X v)))), h) := by
  have p1 := m_inRow q r (nI v)
  have p2 := m_isPart q r (nI v)
  have p3 := m_inPairs q r o (nI v) (nI_nm1 (by omega))
  have hc := cntI_le X.1 (nI v)
  have hl := r.2.1
  have hu := usN_le X.2.1.1 X.2.1.2.1 (nI v) 16 8
  have e6 := r.2.2.2.2.2.1
  rw [e_X8_mayGo]
  unfold mgB
  cases h1 : hasP X.2.1.1 (nI v) with
  | false =>
    rw [h1] at p2
    simp only [u_X8_mayGo_0, u_X8_mayGo_1, u_X8_mayGo_2, u_X8_mayGo_5, u_X8_mayGo_6, u_X8_mayGo_7, u_X8_mayGo_8, u_X8_mayGo_11, u_X8_mayGo_14, u_X8_mayGo_15, u_X8_mayGo_16, u_X8_mayGo_19, u_X8_mayGo_22, u_X8_mayGo_23, u_X8_mayGo_24, u_X8_mayGo_27, u_X8_mayGo_29, u_X8_mayGo_30, u_X8_mayGo_33, u_X8_mayGo_34, u_X8_mayGo_37, u_X8_mayGo_38, u_X8_mayGo_39, u_X8_mayGo_40, u_X8_mayGo_41, u_X8_mayGo_43, u_X8_mayGo_46, u_X8_mayGo_47, u_X8_mayGo_50, u_X8_mayGo_51, q.ob, p1, p2, b32_f, if_true, true_or, Bool.false_and, xgo_some, xgo_none, xgoI_none, xcat_n, xcat_i, xcat_r, xcat_z, List.length_nil, List.length_cons, List.getD_cons_zero, List.getD_cons_succ, List.set_cons_zero, List.set_cons_succ, Nat.zero_le, Nat.reduceAdd, Nat.reduceLeDiff, Nat.reduceEqDiff, reduceIte]
  | true =>
    rw [h1] at p2
    by_cases h2 : usN X.2.1.1 X.2.1.2.1 (nI v) 8 16 = 0
    · rw [h2, nI_0] at p3
      by_cases h3 : nI (cntI X.1 (nI v)) < X.2.2.2.1
      · by_cases h4 : X.1.length + cntI X.1 (nI v) ≤ 64
        · have h5 : ¬ (64 : Int32) < nI (X.1.length + cntI X.1 (nI v)) := nI_nlt (b := X.1.length + cntI X.1 (nI v)) (a := 64) (by omega) (by omega)
          simp only [u_X8_mayGo_0, u_X8_mayGo_1, u_X8_mayGo_2, u_X8_mayGo_5, u_X8_mayGo_6, u_X8_mayGo_7, u_X8_mayGo_8, u_X8_mayGo_11, u_X8_mayGo_14, u_X8_mayGo_15, u_X8_mayGo_16, u_X8_mayGo_19, u_X8_mayGo_22, u_X8_mayGo_23, u_X8_mayGo_24, u_X8_mayGo_27, u_X8_mayGo_29, u_X8_mayGo_30, u_X8_mayGo_33, u_X8_mayGo_34, u_X8_mayGo_37, u_X8_mayGo_38, u_X8_mayGo_39, u_X8_mayGo_40, u_X8_mayGo_41, u_X8_mayGo_43, u_X8_mayGo_46, u_X8_mayGo_47, u_X8_mayGo_50, u_X8_mayGo_51, q.ob, q.a1, p1, p2, p3, x114, c114, x0117, c00, e6, r.1, nI_add, h2, h3, h4, h5, b32_t, i10, if_true, if_false, or_true, Bool.true_and, decide_true, Bool.and_self, xgo_some, xgo_none, xgoI_none, xcat_n, xcat_i, xcat_r, xcat_z, List.length_nil, List.length_cons, List.getD_cons_zero, List.getD_cons_succ, List.set_cons_zero, List.set_cons_succ, Nat.zero_le, Nat.reduceAdd, Nat.reduceLeDiff, Nat.reduceEqDiff, reduceIte]
        · have h5 : (64 : Int32) < nI (X.1.length + cntI X.1 (nI v)) := nI_lt (b := X.1.length + cntI X.1 (nI v)) (a := 64) (by omega) (by omega)
          simp only [u_X8_mayGo_0, u_X8_mayGo_1, u_X8_mayGo_2, u_X8_mayGo_5, u_X8_mayGo_6, u_X8_mayGo_7, u_X8_mayGo_8, u_X8_mayGo_11, u_X8_mayGo_14, u_X8_mayGo_15, u_X8_mayGo_16, u_X8_mayGo_19, u_X8_mayGo_22, u_X8_mayGo_23, u_X8_mayGo_24, u_X8_mayGo_27, u_X8_mayGo_29, u_X8_mayGo_30, u_X8_mayGo_33, u_X8_mayGo_34, u_X8_mayGo_37, u_X8_mayGo_38, u_X8_mayGo_39, u_X8_mayGo_40, u_X8_mayGo_41, u_X8_mayGo_43, u_X8_mayGo_46, u_X8_mayGo_47, u_X8_mayGo_50, u_X8_mayGo_51, q.ob, q.a1, p1, p2, p3, x114, c114, x0117, c00, e6, r.1, nI_add, h2, h3, h4, h5, b32_t, b32_f, i10, if_true, if_false, true_or, Bool.true_and, decide_true, decide_false, Bool.and_false, xgo_some, xgo_none, xgoI_none, xcat_n, xcat_i, xcat_r, xcat_z, List.length_nil, List.length_cons, List.getD_cons_zero, List.getD_cons_succ, List.set_cons_zero, List.set_cons_succ, Nat.zero_le, Nat.reduceAdd, Nat.reduceLeDiff, Nat.reduceEqDiff, reduceIte]
      · simp only [u_X8_mayGo_0, u_X8_mayGo_1, u_X8_mayGo_2, u_X8_mayGo_5, u_X8_mayGo_6, u_X8_mayGo_7, u_X8_mayGo_8, u_X8_mayGo_11, u_X8_mayGo_14, u_X8_mayGo_15, u_X8_mayGo_16, u_X8_mayGo_19, u_X8_mayGo_22, u_X8_mayGo_23, u_X8_mayGo_24, u_X8_mayGo_27, u_X8_mayGo_29, u_X8_mayGo_30, u_X8_mayGo_33, u_X8_mayGo_34, u_X8_mayGo_37, u_X8_mayGo_38, u_X8_mayGo_39, u_X8_mayGo_40, u_X8_mayGo_41, u_X8_mayGo_43, u_X8_mayGo_46, u_X8_mayGo_47, u_X8_mayGo_50, u_X8_mayGo_51, q.ob, q.a1, p1, p2, p3, x114, c114, e6, h2, h3, b32_t, b32_f, i10, if_true, if_false, true_or, Bool.true_and, decide_true, decide_false, Bool.false_and, Bool.and_false, xgo_some, xgo_none, xgoI_none, xcat_n, xcat_i, xcat_r, xcat_z, List.length_nil, List.length_cons, List.getD_cons_zero, List.getD_cons_succ, List.set_cons_zero, List.set_cons_succ, Nat.zero_le, Nat.reduceAdd, Nat.reduceLeDiff, Nat.reduceEqDiff, reduceIte]
    · have h3 : ¬ nI (usN X.2.1.1 X.2.1.2.1 (nI v) 8 16) = 0 := nI_ne0 (by omega) (by omega)
      simp only [u_X8_mayGo_0, u_X8_mayGo_1, u_X8_mayGo_2, u_X8_mayGo_5, u_X8_mayGo_6, u_X8_mayGo_7, u_X8_mayGo_8, u_X8_mayGo_11, u_X8_mayGo_14, u_X8_mayGo_15, u_X8_mayGo_16, u_X8_mayGo_19, u_X8_mayGo_22, u_X8_mayGo_23, u_X8_mayGo_24, u_X8_mayGo_27, u_X8_mayGo_29, u_X8_mayGo_30, u_X8_mayGo_33, u_X8_mayGo_34, u_X8_mayGo_37, u_X8_mayGo_38, u_X8_mayGo_39, u_X8_mayGo_40, u_X8_mayGo_41, u_X8_mayGo_43, u_X8_mayGo_46, u_X8_mayGo_47, u_X8_mayGo_50, u_X8_mayGo_51, q.ob, p1, p2, p3, h2, h3, b32_t, b32_f, i10, if_true, if_false, true_or, Bool.true_and, decide_false, Bool.false_and, Bool.and_false, xgo_some, xgo_none, xgoI_none, xcat_n, xcat_i, xcat_r, xcat_z, List.length_nil, List.length_cons, List.getD_cons_zero, List.getD_cons_succ, List.set_cons_zero, List.set_cons_succ, Nat.zero_le, Nat.reduceAdd, Nat.reduceLeDiff, Nat.reduceEqDiff, reduceIte]
end LG
