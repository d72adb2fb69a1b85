/-! The buffer. -/
section BF
variable {h : xH} {b n : Nat} {f : Nat → Int32}
def isBf (h : xH) (b n : Nat) (f : Nat → Int32) : Prop := h.1 b = some (.inr (0, [.ref (b + 1), .int (nI n)])) ∧ isCl h (b + 1) 60 f ∧ n ≤ 60
theorem isBf.ob (q : isBf h b n f) : xob h b = (0, [.ref (b + 1), .int (nI n)]) := by
  unfold xob
  rw [q.1]
  rfl
theorem d60 : 0 < 60 ∧ 60 < 2 ^ 31 := by decide
theorem isBf_fr {h' : xH} {lo hi : Nat} (q : isBf h b n f) (a : xFr lo hi h h') (hc : b + 3 ≤ lo ∨ hi ≤ b) : isBf h' b n f := ⟨by rw [a.2 b (by omega)]; exact q.1, isCl_fr q.2.1 a (by omega), q.2.2⟩
def bfAt (n : Nat) (f : Nat → Int32) (i : Int32) : Int32 := if i < nI n then clAt 60 f i else -1
def ltC (c : Int32) : Bool := decide (¬ c < 97) && decide (¬ (104 : Int32) < c)
def nuC (c : Int32) : Bool := decide (¬ c < 50) && decide (¬ (57 : Int32) < c)
theorem m_Buf_at (q : isBf h b n f) (i : Int32) : xev 1 [.ref b, .int i] h = some (.inl (some (.int (bfAt n f i))), h) := by
  rw [e_X0_at]
  unfold bfAt
  by_cases h2 : i < nI n
  · simp only [u_X0_at_0, u_X0_at_1, u_X0_at_2, u_X0_at_5, u_X0_at_8, u_X0_at_9, u_X0_at_12, u_X0_at_13, u_X0_at_16, u_X0_at_19, u_X0_at_20, q.ob, q.2.1.ob, h2, if_true, m_Cells_at q.2.1 d60, xgo_some, xgo_none, xgoI_none, xcat_n, xcat_i, xcat_r, xcat_z, List.length_nil, List.length_cons, List.getD_cons_zero, List.getD_cons_succ, List.set_cons_zero, List.set_cons_succ, Nat.zero_le, Nat.reduceAdd, Nat.reduceLeDiff, Nat.reduceEqDiff, reduceIte]
  · simp only [u_X0_at_0, u_X0_at_1, u_X0_at_2, u_X0_at_5, u_X0_at_8, u_X0_at_9, u_X0_at_12, u_X0_at_13, u_X0_at_16, u_X0_at_19, u_X0_at_20, q.ob, h2, if_false, true_or, or_true, xgo_some, xgo_none, xgoI_none, xcat_n, xcat_i, xcat_r, xcat_z, List.length_nil, List.length_cons, List.getD_cons_zero, List.getD_cons_succ, List.set_cons_zero, List.set_cons_succ, Nat.zero_le, Nat.reduceAdd, Nat.reduceLeDiff, Nat.reduceEqDiff, reduceIte]
theorem m_Buf_let (q : isBf h b n f) (i : Int32) : xev 4 [.ref b, .int i] h = some (.inl (some (.int (b32 (ltC (bfAt n f i))))), h) := by
  rw [e_X0_isLetter]
  by_cases h2 : bfAt n f i < 97
  · simp only [u_X0_isLetter_0, u_X0_isLetter_1, u_X0_isLetter_2, u_X0_isLetter_5, u_X0_isLetter_7, u_X0_isLetter_10, u_X0_isLetter_11, u_X0_isLetter_12, u_X0_isLetter_15, u_X0_isLetter_17, u_X0_isLetter_20, u_X0_isLetter_21, u_X0_isLetter_24, u_X0_isLetter_25, q.ob, m_Buf_at q, h2, if_true, true_or, or_true, xgo_some, xgo_none, xgoI_none, xcat_n, xcat_i, xcat_r, xcat_z, List.length_nil, List.length_cons, List.getD_cons_zero, List.getD_cons_succ, List.set_cons_zero, List.set_cons_succ, Nat.zero_le, Nat.reduceAdd, Nat.reduceLeDiff, Nat.reduceEqDiff, reduceIte]
    simp [ltC, h2, b32]
  · by_cases h3 : (104 : Int32) < bfAt n f i
    · simp only [u_X0_isLetter_0, u_X0_isLetter_1, u_X0_isLetter_2, u_X0_isLetter_5, u_X0_isLetter_7, u_X0_isLetter_10, u_X0_isLetter_11, u_X0_isLetter_12, u_X0_isLetter_15, u_X0_isLetter_17, u_X0_isLetter_20, u_X0_isLetter_21, u_X0_isLetter_24, u_X0_isLetter_25, q.ob, m_Buf_at q, h2, h3, if_true, if_false, true_or, or_true, xgo_some, xgo_none, xgoI_none, xcat_n, xcat_i, xcat_r, xcat_z, List.length_nil, List.length_cons, List.getD_cons_zero, List.getD_cons_succ, List.set_cons_zero, List.set_cons_succ, Nat.zero_le, Nat.reduceAdd, Nat.reduceLeDiff, Nat.reduceEqDiff, reduceIte]
      simp [ltC, h3, b32]
    · simp only [u_X0_isLetter_0, u_X0_isLetter_1, u_X0_isLetter_2, u_X0_isLetter_5, u_X0_isLetter_7, u_X0_isLetter_10, u_X0_isLetter_11, u_X0_isLetter_12, u_X0_isLetter_15, u_X0_isLetter_17, u_X0_isLetter_20, u_X0_isLetter_21, u_X0_isLetter_24, u_X0_isLetter_25, q.ob, m_Buf_at q, h2, h3, if_false, true_or, or_true, xgo_some, xgo_none, xgoI_none, xcat_n, xcat_i, xcat_r, xcat_z, List.length_nil, List.length_cons, List.getD_cons_zero, List.getD_cons_succ, List.set_cons_zero, List.set_cons_succ, Nat.zero_le, Nat.reduceAdd, Nat.reduceLeDiff, Nat.reduceEqDiff, reduceIte]
      simp only [ltC, h2, h3, b32, not_false_eq_true, decide_true, Bool.and_self, if_true]
theorem m_Buf_num (q : isBf h b n f) (i : Int32) : xev 5 [.ref b, .int i] h = some (.inl (some (.int (b32 (nuC (bfAt n f i))))), h) := by
  rw [e_X0_isNumber]
  by_cases h2 : bfAt n f i < 50
  · simp only [u_X0_isNumber_0, u_X0_isNumber_1, u_X0_isNumber_2, u_X0_isNumber_5, u_X0_isNumber_7, u_X0_isNumber_10, u_X0_isNumber_11, u_X0_isNumber_12, u_X0_isNumber_15, u_X0_isNumber_17, u_X0_isNumber_20, u_X0_isNumber_21, u_X0_isNumber_24, u_X0_isNumber_25, q.ob, m_Buf_at q, h2, if_true, true_or, or_true, xgo_some, xgo_none, xgoI_none, xcat_n, xcat_i, xcat_r, xcat_z, List.length_nil, List.length_cons, List.getD_cons_zero, List.getD_cons_succ, List.set_cons_zero, List.set_cons_succ, Nat.zero_le, Nat.reduceAdd, Nat.reduceLeDiff, Nat.reduceEqDiff, reduceIte]
    simp [nuC, h2, b32]
  · by_cases h3 : (57 : Int32) < bfAt n f i
    · simp only [u_X0_isNumber_0, u_X0_isNumber_1, u_X0_isNumber_2, u_X0_isNumber_5, u_X0_isNumber_7, u_X0_isNumber_10, u_X0_isNumber_11, u_X0_isNumber_12, u_X0_isNumber_15, u_X0_isNumber_17, u_X0_isNumber_20, u_X0_isNumber_21, u_X0_isNumber_24, u_X0_isNumber_25, q.ob, m_Buf_at q, h2, h3, if_true, if_false, true_or, or_true, xgo_some, xgo_none, xgoI_none, xcat_n, xcat_i, xcat_r, xcat_z, List.length_nil, List.length_cons, List.getD_cons_zero, List.getD_cons_succ, List.set_cons_zero, List.set_cons_succ, Nat.zero_le, Nat.reduceAdd, Nat.reduceLeDiff, Nat.reduceEqDiff, reduceIte]
      simp [nuC, h3, b32]
    · simp only [u_X0_isNumber_0, u_X0_isNumber_1, u_X0_isNumber_2, u_X0_isNumber_5, u_X0_isNumber_7, u_X0_isNumber_10, u_X0_isNumber_11, u_X0_isNumber_12, u_X0_isNumber_15, u_X0_isNumber_17, u_X0_isNumber_20, u_X0_isNumber_21, u_X0_isNumber_24, u_X0_isNumber_25, q.ob, m_Buf_at q, h2, h3, if_false, true_or, or_true, xgo_some, xgo_none, xgoI_none, xcat_n, xcat_i, xcat_r, xcat_z, List.length_nil, List.length_cons, List.getD_cons_zero, List.getD_cons_succ, List.set_cons_zero, List.set_cons_succ, Nat.zero_le, Nat.reduceAdd, Nat.reduceLeDiff, Nat.reduceEqDiff, reduceIte]
      simp only [nuC, h2, h3, b32, not_false_eq_true, decide_true, Bool.and_self, if_true]
def tmA (n : Nat) (f : Nat → Int32) (i : Int32) : Int32 := if ltC (bfAt n f i) = true then (if nuC (bfAt n f (i + 1)) = true then bfAt n f (i + 1) - 48 else 1) else 0
theorem b32_t : b32 true = 1 := rfl
theorem b32_f : b32 false = 0 := rfl
theorem i10 : ¬ (1 : Int32) = 0 := by decide
theorem m_Buf_times (q : isBf h b n f) (i : Int32) : xev 8 [.ref b, .int i] h = some (.inl (some (.int (tmA n f i))), h) := by
  rw [e_X0_timesAt]
  unfold tmA
  cases e2 : ltC (bfAt n f i) with
  | false => simp only [u_X0_timesAt_0, u_X0_timesAt_1, u_X0_timesAt_2, u_X0_timesAt_5, u_X0_timesAt_8, u_X0_timesAt_9, u_X0_timesAt_10, u_X0_timesAt_11, u_X0_timesAt_12, u_X0_timesAt_13, u_X0_timesAt_14, u_X0_timesAt_17, u_X0_timesAt_20, u_X0_timesAt_21, u_X0_timesAt_22, u_X0_timesAt_23, u_X0_timesAt_24, u_X0_timesAt_27, u_X0_timesAt_29, u_X0_timesAt_30, u_X0_timesAt_33, u_X0_timesAt_34, q.ob, m_Buf_let q, e2, b32_f, i10, if_true, if_false, not_true, ne_eq, Bool.false_eq_true, xgo_some, xgo_none, xgoI_none, xcat_n, xcat_i, xcat_r, xcat_z, List.length_nil, List.length_cons, List.getD_cons_zero, List.getD_cons_succ, List.set_cons_zero, List.set_cons_succ, Nat.zero_le, Nat.reduceAdd, Nat.reduceLeDiff, Nat.reduceEqDiff, reduceIte]
  | true =>
    cases e3 : nuC (bfAt n f (i + 1)) with
    | false => simp only [u_X0_timesAt_0, u_X0_timesAt_1, u_X0_timesAt_2, u_X0_timesAt_5, u_X0_timesAt_8, u_X0_timesAt_9, u_X0_timesAt_10, u_X0_timesAt_11, u_X0_timesAt_12, u_X0_timesAt_13, u_X0_timesAt_14, u_X0_timesAt_17, u_X0_timesAt_20, u_X0_timesAt_21, u_X0_timesAt_22, u_X0_timesAt_23, u_X0_timesAt_24, u_X0_timesAt_27, u_X0_timesAt_29, u_X0_timesAt_30, u_X0_timesAt_33, u_X0_timesAt_34, q.ob, m_Buf_let q, m_Buf_num q, e2, e3, b32_f, b32_t, i10, if_true, if_false, not_true, not_false_eq_true, ne_eq, Bool.false_eq_true, xgo_some, xgo_none, xgoI_none, xcat_n, xcat_i, xcat_r, xcat_z, List.length_nil, List.length_cons, List.getD_cons_zero, List.getD_cons_succ, List.set_cons_zero, List.set_cons_succ, Nat.zero_le, Nat.reduceAdd, Nat.reduceLeDiff, Nat.reduceEqDiff, reduceIte]
    | true => simp only [u_X0_timesAt_0, u_X0_timesAt_1, u_X0_timesAt_2, u_X0_timesAt_5, u_X0_timesAt_8, u_X0_timesAt_9, u_X0_timesAt_10, u_X0_timesAt_11, u_X0_timesAt_12, u_X0_timesAt_13, u_X0_timesAt_14, u_X0_timesAt_17, u_X0_timesAt_20, u_X0_timesAt_21, u_X0_timesAt_22, u_X0_timesAt_23, u_X0_timesAt_24, u_X0_timesAt_27, u_X0_timesAt_29, u_X0_timesAt_30, u_X0_timesAt_33, u_X0_timesAt_34, q.ob, m_Buf_let q, m_Buf_num q, m_Buf_at q, e2, e3, b32_f, b32_t, i10, if_true, if_false, not_true, not_false_eq_true, ne_eq, Bool.false_eq_true, xgo_some, xgo_none, xgoI_none, xcat_n, xcat_i, xcat_r, xcat_z, List.length_nil, List.length_cons, List.getD_cons_zero, List.getD_cons_succ, List.set_cons_zero, List.set_cons_succ, Nat.zero_le, Nat.reduceAdd, Nat.reduceLeDiff, Nat.reduceEqDiff, reduceIte]
def fwF (n : Nat) (f : Nat → Int32) : Nat → Nat → Nat
  | m, 0 => m
  | m, k + 1 => if ltC (bfAt n f (nI m)) = true ∨ (nuC (bfAt n f (nI m)) = true ∧ ltC (bfAt n f (nI m - 1)) = true) then fwF n f (m + 1) k else m
theorem lp_Buf_fw (q : isBf h b n f) : ∀ (k m : Nat), m + k = n → xf 6 2 [some (.ref b), some (.int (nI m))] [] h = some (.inl (some (.int (nI (fwF n f m k)))), h) := by
  have hn := q.2.2
  intro k
  induction k with
  | zero =>
    intro m hk
    have h2 : ¬ nI m < nI n := nI_nlt (by omega) (by omega)
    rw [u_X0_firstWrong_2]
    simp only [u_X0_firstWrong_0, u_X0_firstWrong_1, u_X0_firstWrong_3, u_X0_firstWrong_4, u_X0_firstWrong_7, u_X0_firstWrong_10, u_X0_firstWrong_11, u_X0_firstWrong_12, u_X0_firstWrong_15, u_X0_firstWrong_18, u_X0_firstWrong_19, u_X0_firstWrong_20, u_X0_firstWrong_23, u_X0_firstWrong_26, u_X0_firstWrong_27, u_X0_firstWrong_28, u_X0_firstWrong_29, u_X0_firstWrong_30, u_X0_firstWrong_33, u_X0_firstWrong_36, u_X0_firstWrong_37, u_X0_firstWrong_38, u_X0_firstWrong_41, u_X0_firstWrong_44, u_X0_firstWrong_45, u_X0_firstWrong_48, q.ob, h2, if_false, true_or, or_true, xgo_some, xgo_none, xgoI_none, xcat_n, xcat_i, xcat_r, xcat_z, List.length_nil, List.length_cons, List.getD_cons_zero, List.getD_cons_succ, List.set_cons_zero, List.set_cons_succ, Nat.zero_le, Nat.reduceAdd, Nat.reduceLeDiff, Nat.reduceEqDiff, reduceIte]
    rw [fwF, show m = n by omega]
  | succ k ih =>
    intro m hk
    have h2 : nI m < nI n := nI_lt (by omega) (by omega)
    rw [u_X0_firstWrong_2, fwF]
    cases e2 : ltC (bfAt n f (nI m)) with
    | true =>
      simp only [u_X0_firstWrong_0, u_X0_firstWrong_1, u_X0_firstWrong_3, u_X0_firstWrong_4, u_X0_firstWrong_7, u_X0_firstWrong_10, u_X0_firstWrong_11, u_X0_firstWrong_12, u_X0_firstWrong_15, u_X0_firstWrong_18, u_X0_firstWrong_19, u_X0_firstWrong_20, u_X0_firstWrong_23, u_X0_firstWrong_26, u_X0_firstWrong_27, u_X0_firstWrong_28, u_X0_firstWrong_29, u_X0_firstWrong_30, u_X0_firstWrong_33, u_X0_firstWrong_36, u_X0_firstWrong_37, u_X0_firstWrong_38, u_X0_firstWrong_41, u_X0_firstWrong_44, u_X0_firstWrong_45, u_X0_firstWrong_48, q.ob, m_Buf_let q, h2, e2, b32_f, b32_t, i10, if_true, if_false, not_false_eq_true, ne_eq, true_or, nI_of1, xgo_some, xgo_none, xgoI_none, xcat_n, xcat_i, xcat_r, xcat_z, List.length_nil, List.length_cons, List.getD_cons_zero, List.getD_cons_succ, List.set_cons_zero, List.set_cons_succ, Nat.zero_le, Nat.reduceAdd, Nat.reduceLeDiff, Nat.reduceEqDiff, reduceIte]
      exact ih (m + 1) (by omega)
    | false =>
      cases e3 : nuC (bfAt n f (nI m)) with
      | false => simp only [u_X0_firstWrong_0, u_X0_firstWrong_1, u_X0_firstWrong_3, u_X0_firstWrong_4, u_X0_firstWrong_7, u_X0_firstWrong_10, u_X0_firstWrong_11, u_X0_firstWrong_12, u_X0_firstWrong_15, u_X0_firstWrong_18, u_X0_firstWrong_19, u_X0_firstWrong_20, u_X0_firstWrong_23, u_X0_firstWrong_26, u_X0_firstWrong_27, u_X0_firstWrong_28, u_X0_firstWrong_29, u_X0_firstWrong_30, u_X0_firstWrong_33, u_X0_firstWrong_36, u_X0_firstWrong_37, u_X0_firstWrong_38, u_X0_firstWrong_41, u_X0_firstWrong_44, u_X0_firstWrong_45, u_X0_firstWrong_48, q.ob, m_Buf_let q, m_Buf_num q, h2, e2, e3, b32_f, i10, if_true, if_false, not_true, ne_eq, Bool.false_eq_true, false_and, or_false, xgo_some, xgo_none, xgoI_none, xcat_n, xcat_i, xcat_r, xcat_z, List.length_nil, List.length_cons, List.getD_cons_zero, List.getD_cons_succ, List.set_cons_zero, List.set_cons_succ, Nat.zero_le, Nat.reduceAdd, Nat.reduceLeDiff, Nat.reduceEqDiff, reduceIte]
      | true =>
        cases e4 : ltC (bfAt n f (nI m - 1)) with
        | false => simp only [u_X0_firstWrong_0, u_X0_firstWrong_1, u_X0_firstWrong_3, u_X0_firstWrong_4, u_X0_firstWrong_7, u_X0_firstWrong_10, u_X0_firstWrong_11, u_X0_firstWrong_12, u_X0_firstWrong_15, u_X0_firstWrong_18, u_X0_firstWrong_19, u_X0_firstWrong_20, u_X0_firstWrong_23, u_X0_firstWrong_26, u_X0_firstWrong_27, u_X0_firstWrong_28, u_X0_firstWrong_29, u_X0_firstWrong_30, u_X0_firstWrong_33, u_X0_firstWrong_36, u_X0_firstWrong_37, u_X0_firstWrong_38, u_X0_firstWrong_41, u_X0_firstWrong_44, u_X0_firstWrong_45, u_X0_firstWrong_48, q.ob, m_Buf_let q, m_Buf_num q, h2, e2, e3, e4, b32_f, b32_t, i10, if_true, if_false, not_true, ne_eq, Bool.false_eq_true, and_false, or_false, xgo_some, xgo_none, xgoI_none, xcat_n, xcat_i, xcat_r, xcat_z, List.length_nil, List.length_cons, List.getD_cons_zero, List.getD_cons_succ, List.set_cons_zero, List.set_cons_succ, Nat.zero_le, Nat.reduceAdd, Nat.reduceLeDiff, Nat.reduceEqDiff, reduceIte]
        | true =>
          simp only [u_X0_firstWrong_0, u_X0_firstWrong_1, u_X0_firstWrong_3, u_X0_firstWrong_4, u_X0_firstWrong_7, u_X0_firstWrong_10, u_X0_firstWrong_11, u_X0_firstWrong_12, u_X0_firstWrong_15, u_X0_firstWrong_18, u_X0_firstWrong_19, u_X0_firstWrong_20, u_X0_firstWrong_23, u_X0_firstWrong_26, u_X0_firstWrong_27, u_X0_firstWrong_28, u_X0_firstWrong_29, u_X0_firstWrong_30, u_X0_firstWrong_33, u_X0_firstWrong_36, u_X0_firstWrong_37, u_X0_firstWrong_38, u_X0_firstWrong_41, u_X0_firstWrong_44, u_X0_firstWrong_45, u_X0_firstWrong_48, q.ob, m_Buf_let q, m_Buf_num q, h2, e2, e3, e4, b32_f, b32_t, i10, if_true, if_false, not_true, not_false_eq_true, ne_eq, Bool.false_eq_true, and_true, or_true, nI_of1, xgo_some, xgo_none, xgoI_none, xcat_n, xcat_i, xcat_r, xcat_z, List.length_nil, List.length_cons, List.getD_cons_zero, List.getD_cons_succ, List.set_cons_zero, List.set_cons_succ, Nat.zero_le, Nat.reduceAdd, Nat.reduceLeDiff, Nat.reduceEqDiff, reduceIte]
          exact ih (m + 1) (by omega)
theorem fwF_le (n : Nat) (f : Nat → Int32) : ∀ (k m : Nat), fwF n f m k ≤ m + k := by
  intro k
  induction k with
  | zero => intro m; exact Nat.le_refl _
  | succ k ih => intro m; have := ih (m + 1); rw [fwF]; split <;> omega
theorem m_Buf_fw (q : isBf h b n f) : xev 6 [.ref b] h = some (.inl (some (.int (nI (fwF n f 0 n)))), h) := by
  rw [e_X0_firstWrong]
  simp only [u_X0_firstWrong_0, u_X0_firstWrong_1, u_X0_firstWrong_3, u_X0_firstWrong_4, u_X0_firstWrong_7, u_X0_firstWrong_10, u_X0_firstWrong_11, u_X0_firstWrong_12, u_X0_firstWrong_15, u_X0_firstWrong_18, u_X0_firstWrong_19, u_X0_firstWrong_20, u_X0_firstWrong_23, u_X0_firstWrong_26, u_X0_firstWrong_27, u_X0_firstWrong_28, u_X0_firstWrong_29, u_X0_firstWrong_30, u_X0_firstWrong_33, u_X0_firstWrong_36, u_X0_firstWrong_37, u_X0_firstWrong_38, u_X0_firstWrong_41, u_X0_firstWrong_44, u_X0_firstWrong_45, u_X0_firstWrong_48, xgo_some, xgo_none, xgoI_none, xcat_n, xcat_i, xcat_r, xcat_z, List.length_nil, List.length_cons, List.getD_cons_zero, List.getD_cons_succ, List.set_cons_zero, List.set_cons_succ, Nat.zero_le, Nat.reduceAdd, Nat.reduceLeDiff, Nat.reduceEqDiff, reduceIte]
  exact lp_Buf_fw q n 0 (by omega)
theorem m_Buf_isText (q : isBf h b n f) : xev 7 [.ref b] h = some (.inl (some (.int (if n ≠ 0 ∧ fwF n f 0 n = n then 1 else 0))), h) := by
  have hn := q.2.2
  have hf := fwF_le n f n 0
  rw [e_X0_isText]
  by_cases h1 : n = 0
  · subst h1
    simp only [u_X0_isText_0, u_X0_isText_1, u_X0_isText_4, u_X0_isText_7, u_X0_isText_8, u_X0_isText_11, u_X0_isText_12, u_X0_isText_15, u_X0_isText_18, u_X0_isText_19, u_X0_isText_22, u_X0_isText_23, q.ob, nI_0, Int32.lt_irrefl, if_true, ne_eq, not_true, false_and, if_false, true_or, or_true, xgo_some, xgo_none, xgoI_none, xcat_n, xcat_i, xcat_r, xcat_z, List.length_nil, List.length_cons, List.getD_cons_zero, List.getD_cons_succ, List.set_cons_zero, List.set_cons_succ, Nat.zero_le, Nat.reduceAdd, Nat.reduceLeDiff, Nat.reduceEqDiff, reduceIte]
  · have h2 : (0 : Int32) < nI n := by rw [← nI_0]; exact nI_lt (by omega) (by omega)
    by_cases h3 : fwF n f 0 n = n
    · simp only [u_X0_isText_0, u_X0_isText_1, u_X0_isText_4, u_X0_isText_7, u_X0_isText_8, u_X0_isText_11, u_X0_isText_12, u_X0_isText_15, u_X0_isText_18, u_X0_isText_19, u_X0_isText_22, u_X0_isText_23, q.ob, m_Buf_fw q, h1, h2, h3, if_true, if_false, ne_eq, not_true, not_false_eq_true, true_and, or_true, xgo_some, xgo_none, xgoI_none, xcat_n, xcat_i, xcat_r, xcat_z, List.length_nil, List.length_cons, List.getD_cons_zero, List.getD_cons_succ, List.set_cons_zero, List.set_cons_succ, Nat.zero_le, Nat.reduceAdd, Nat.reduceLeDiff, Nat.reduceEqDiff, reduceIte]
    · have h4 : ¬ nI (fwF n f 0 n) = nI n := fun z => h3 ((nI_eq (by omega) (by omega)).mp z)
      simp only [u_X0_isText_0, u_X0_isText_1, u_X0_isText_4, u_X0_isText_7, u_X0_isText_8, u_X0_isText_11, u_X0_isText_12, u_X0_isText_15, u_X0_isText_18, u_X0_isText_19, u_X0_isText_22, u_X0_isText_23, q.ob, m_Buf_fw q, h1, h2, h3, h4, if_true, if_false, ne_eq, not_false_eq_true, and_false, true_or, xgo_some, xgo_none, xgoI_none, xcat_n, xcat_i, xcat_r, xcat_z, List.length_nil, List.length_cons, List.getD_cons_zero, List.getD_cons_succ, List.set_cons_zero, List.set_cons_succ, Nat.zero_le, Nat.reduceAdd, Nat.reduceLeDiff, Nat.reduceEqDiff, reduceIte]
def saF (n : Nat) (f : Nat → Int32) : Nat → Nat → Int32
  | _, 0 => 0
  | m, k + 1 => tmA n f (nI m) + saF n f (m + 1) k
theorem lp_Buf_sa (q : isBf h b n f) : ∀ (k m : Nat) (u : Int32), m + k = n → xf 9 4 [some (.ref b), some (.int u), some (.int (nI m))] [] h = some (.inl (some (.int (u + saF n f m k))), h) := by
  have hn := q.2.2
  intro k
  induction k with
  | zero =>
    intro m u hk
    have h2 : ¬ nI m < nI n := nI_nlt (by omega) (by omega)
    rw [u_X0_signAmount_4]
    simp only [u_X0_signAmount_0, u_X0_signAmount_1, u_X0_signAmount_2, u_X0_signAmount_3, u_X0_signAmount_5, u_X0_signAmount_6, u_X0_signAmount_9, u_X0_signAmount_12, u_X0_signAmount_13, u_X0_signAmount_14, u_X0_signAmount_15, u_X0_signAmount_18, u_X0_signAmount_19, u_X0_signAmount_20, u_X0_signAmount_23, u_X0_signAmount_26, u_X0_signAmount_27, q.ob, h2, if_false, saF, Int32.add_zero, xgo_some, xgo_none, xgoI_none, xcat_n, xcat_i, xcat_r, xcat_z, List.length_nil, List.length_cons, List.getD_cons_zero, List.getD_cons_succ, List.set_cons_zero, List.set_cons_succ, Nat.zero_le, Nat.reduceAdd, Nat.reduceLeDiff, Nat.reduceEqDiff, reduceIte]
  | succ k ih =>
    intro m u hk
    have h2 : nI m < nI n := nI_lt (by omega) (by omega)
    rw [u_X0_signAmount_4]
    simp only [u_X0_signAmount_0, u_X0_signAmount_1, u_X0_signAmount_2, u_X0_signAmount_3, u_X0_signAmount_5, u_X0_signAmount_6, u_X0_signAmount_9, u_X0_signAmount_12, u_X0_signAmount_13, u_X0_signAmount_14, u_X0_signAmount_15, u_X0_signAmount_18, u_X0_signAmount_19, u_X0_signAmount_20, u_X0_signAmount_23, u_X0_signAmount_26, u_X0_signAmount_27, q.ob, m_Buf_times q, h2, if_true, nI_of1, xgo_some, xgo_none, xgoI_none, xcat_n, xcat_i, xcat_r, xcat_z, List.length_nil, List.length_cons, List.getD_cons_zero, List.getD_cons_succ, List.set_cons_zero, List.set_cons_succ, Nat.zero_le, Nat.reduceAdd, Nat.reduceLeDiff, Nat.reduceEqDiff, reduceIte]
    rw [ih (m + 1) _ (by omega), saF, Int32.add_assoc]
theorem m_Buf_sa (q : isBf h b n f) : xev 9 [.ref b] h = some (.inl (some (.int (saF n f 0 n))), h) := by
  rw [e_X0_signAmount]
  simp only [u_X0_signAmount_0, u_X0_signAmount_1, u_X0_signAmount_2, u_X0_signAmount_3, u_X0_signAmount_5, u_X0_signAmount_6, u_X0_signAmount_9, u_X0_signAmount_12, u_X0_signAmount_13, u_X0_signAmount_14, u_X0_signAmount_15, u_X0_signAmount_18, u_X0_signAmount_19, u_X0_signAmount_20, u_X0_signAmount_23, u_X0_signAmount_26, u_X0_signAmount_27, xgo_some, xgo_none, xgoI_none, xcat_n, xcat_i, xcat_r, xcat_z, List.length_nil, List.length_cons, List.getD_cons_zero, List.getD_cons_succ, List.set_cons_zero, List.set_cons_succ, Nat.zero_le, Nat.reduceAdd, Nat.reduceLeDiff, Nat.reduceEqDiff, reduceIte]
  rw [show (0 : Int32) = nI 0 from rfl, lp_Buf_sa q n 0 _ (by omega), nI_0, Int32.zero_add]
theorem m_Buf_empty (q : isBf h b n f) : ∃ h', xev 3 [.ref b] h = some (.inl none, h') ∧ isBf h' b 0 f ∧ xFr b (b + 3) h h' := by
  refine ⟨xup h b (.inr (0, [.ref (b + 1), .int (nI 0)])), ?_, ⟨xup_at _ _ _, ?_, by omega⟩, xFr.wd xFr_up (by omega) (by omega)⟩
  · rw [e_X0_empty]
    simp only [u_X0_empty_0, u_X0_empty_1, u_X0_empty_2, u_X0_empty_5, q.ob, xso, xgo_some, xgo_none, xgoI_none, xcat_n, xcat_i, xcat_r, xcat_z, List.length_nil, List.length_cons, List.getD_cons_zero, List.getD_cons_succ, List.set_cons_zero, List.set_cons_succ, Nat.zero_le, Nat.reduceAdd, Nat.reduceLeDiff, Nat.reduceEqDiff, reduceIte]
    rfl
  · exact isCl_fr q.2.1 (xFr_up (a := b)) (by omega)
theorem m_Buf_push (q : isBf h b n f) (c : Int32) (hn : n < 60) : ∃ h', xev 2 [.ref b, .int c] h = some (.inl none, h') ∧ isBf h' b (n + 1) (va_up f n c) ∧ xFr b (b + 3) h h' := by
  have h2 : nI n < 60 := nI_lt (b := 60) hn (by omega)
  have p1 := m_Cells_put_nI q.2.1 d60.2 hn c
  have q1 : isBf (setCl h (b + 1) 60 (va_up f n c)) b n (va_up f n c) := ⟨by rw [setCl_ne (by omega)]; exact q.1, setCl_is q.2.1, q.2.2⟩
  refine ⟨xup (setCl h (b + 1) 60 (va_up f n c)) b (.inr (0, [.ref (b + 1), .int (nI (n + 1))])), ?_, ⟨xup_at _ _ _, ?_, by omega⟩, (xFr.wd xFr_cl (by omega) (by omega)).tr (xFr.wd xFr_up (by omega) (by omega))⟩
  · rw [e_X0_push]
    simp only [u_X0_push_0, u_X0_push_1, u_X0_push_4, u_X0_push_6, u_X0_push_9, u_X0_push_10, u_X0_push_13, u_X0_push_14, u_X0_push_17, u_X0_push_18, u_X0_push_21, u_X0_push_22, u_X0_push_23, u_X0_push_26, u_X0_push_27, u_X0_push_28, u_X0_push_31, q.ob, q1.ob, q.2.1.ob, p1, h2, xso, if_true, nI_of1, xgo_some, xgo_none, xgoI_none, xcat_n, xcat_i, xcat_r, xcat_z, List.length_nil, List.length_cons, List.getD_cons_zero, List.getD_cons_succ, List.set_cons_zero, List.set_cons_succ, Nat.zero_le, Nat.reduceAdd, Nat.reduceLeDiff, Nat.reduceEqDiff, reduceIte]
  · exact isCl_fr q1.2.1 (xFr_up (a := b)) (by omega)
end BF
