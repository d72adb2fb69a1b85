/-! Cells and rows. -/
theorem m_Cells_put {h : xH} {c n : Nat} {f : Nat → Int32} (q : isCl h c n f) (hn : 0 < n ∧ n < 2 ^ 31) (i v : Int32) : xev 13 [.ref c, .int i, .int v] h = some (.inl none, if ¬ i < 0 ∧ i < nI n then setCl h c n (va_up f i.toNatClampNeg v) else h) := by
  have ho := q.ob
  have ha := q.ai
  rw [e_X1_put]
  by_cases h1 : i < 0
  · simp only [u_X1_put_0, u_X1_put_1, u_X1_put_4, u_X1_put_5, u_X1_put_6, u_X1_put_9, u_X1_put_10, u_X1_put_13, u_X1_put_14, u_X1_put_17, u_X1_put_18, u_X1_put_19, u_X1_put_20, h1, not_true, false_and, if_true, if_false, xgo_some, xgo_none, xgoI_none, xcat_n, xcat_i, xcat_r, xcat_z, List.length_nil, List.length_cons, List.getD_cons_zero, List.getD_cons_succ, List.set_cons_zero, List.set_cons_succ, Nat.zero_le, Nat.reduceAdd, Nat.reduceLeDiff, Nat.reduceEqDiff, reduceIte]
  · by_cases h2 : i < nI n
    · have hx := xix_of h1 h2 hn.2
      have h2' : i < Int32.ofNat n := h2
      simp only [u_X1_put_0, u_X1_put_1, u_X1_put_4, u_X1_put_5, u_X1_put_6, u_X1_put_9, u_X1_put_10, u_X1_put_13, u_X1_put_14, u_X1_put_17, u_X1_put_18, u_X1_put_19, u_X1_put_20, h1, h2, h2', not_false_iff, and_self, if_true, if_false, ho, ha, hx, hn.1, xsi_cl q, xgo_some, xgo_none, xgoI_none, xcat_n, xcat_i, xcat_r, xcat_z, List.length_nil, List.length_cons, List.getD_cons_zero, List.getD_cons_succ, List.set_cons_zero, List.set_cons_succ, Nat.zero_le, Nat.reduceAdd, Nat.reduceLeDiff, Nat.reduceEqDiff, reduceIte]
    · have h2' : ¬ i < Int32.ofNat n := h2
      simp only [u_X1_put_0, u_X1_put_1, u_X1_put_4, u_X1_put_5, u_X1_put_6, u_X1_put_9, u_X1_put_10, u_X1_put_13, u_X1_put_14, u_X1_put_17, u_X1_put_18, u_X1_put_19, u_X1_put_20, h1, h2, h2', and_false, if_true, if_false, ho, ha, hn.1, xgo_some, xgo_none, xgoI_none, xcat_n, xcat_i, xcat_r, xcat_z, List.length_nil, List.length_cons, List.getD_cons_zero, List.getD_cons_succ, List.set_cons_zero, List.set_cons_succ, Nat.zero_le, Nat.reduceAdd, Nat.reduceLeDiff, Nat.reduceEqDiff, reduceIte]
theorem m_Cells_put_nI {h : xH} {c n : Nat} {f : Nat → Int32} (q : isCl h c n f) (hn : n < 2 ^ 31) {k : Nat} (hk : k < n) (v : Int32) : xev 13 [.ref c, .int (nI k), .int v] h = some (.inl none, setCl h c n (va_up f k v)) := by
  rw [m_Cells_put q ⟨by omega, hn⟩, if_pos ⟨nI_pos (by omega), nI_lt hk hn⟩, nI_clamp (by omega)]
theorem nI_of1 (k : Nat) : nI k + 1 = nI (k + 1) := nI_1 k
theorem lp_Cells_fill {c n : Nat} (hn : 0 < n ∧ n < 2 ^ 31) (v : Int32) : ∀ (k m : Nat) (h : xH) (f : Nat → Int32), k + m = n → isCl h c n f → xf 14 2 [some (.ref c), some (.int v), some (.int (nI m))] [] h = some (.inl none, setCl h c n (fun i => if m ≤ i ∧ i < n then v else f i)) := by
  intro k
  induction k with
  | zero =>
    intro m h f hk q
    have ho := q.ob
    have ha := q.ai
    have h2 : ¬ nI m < Int32.ofNat n := nI_nlt (by omega) (by omega)
    rw [u_X1_fill_2]
    simp only [u_X1_fill_0, u_X1_fill_1, u_X1_fill_3, u_X1_fill_4, u_X1_fill_7, u_X1_fill_8, u_X1_fill_11, u_X1_fill_12, u_X1_fill_15, u_X1_fill_16, u_X1_fill_17, u_X1_fill_18, u_X1_fill_21, u_X1_fill_24, h2, if_true, if_false, ho, ha, hn.1, xgo_some, xgo_none, xgoI_none, xcat_n, xcat_i, xcat_r, xcat_z, List.length_nil, List.length_cons, List.getD_cons_zero, List.getD_cons_succ, List.set_cons_zero, List.set_cons_succ, Nat.zero_le, Nat.reduceAdd, Nat.reduceLeDiff, Nat.reduceEqDiff, reduceIte]
    have : (fun i => if m ≤ i ∧ i < n then v else f i) = f := by
      funext i
      rw [if_neg (by omega)]
    rw [this, setCl_self q]
  | succ k ih =>
    intro m h f hk q
    have ho := q.ob
    have ha := q.ai
    have hm : m < n := by omega
    have h2 : nI m < Int32.ofNat n := nI_lt hm hn.2
    have hx := xix_nI hm hn.2
    rw [u_X1_fill_2]
    simp only [u_X1_fill_0, u_X1_fill_1, u_X1_fill_3, u_X1_fill_4, u_X1_fill_7, u_X1_fill_8, u_X1_fill_11, u_X1_fill_12, u_X1_fill_15, u_X1_fill_16, u_X1_fill_17, u_X1_fill_18, u_X1_fill_21, u_X1_fill_24, h2, if_true, if_false, ho, ha, hx, hn.1, xsi_cl q, nI_clamp (show m < 2 ^ 31 by omega), nI_of1, xgo_some, xgo_none, xgoI_none, xcat_n, xcat_i, xcat_r, xcat_z, List.length_nil, List.length_cons, List.getD_cons_zero, List.getD_cons_succ, List.set_cons_zero, List.set_cons_succ, Nat.zero_le, Nat.reduceAdd, Nat.reduceLeDiff, Nat.reduceEqDiff, reduceIte]
    rw [ih (m + 1) _ _ (by omega) (setCl_is q), setCl_set]
    congr 3
    funext i
    unfold va_up
    by_cases hi : i = m
    · subst hi
      rw [if_neg (by omega), if_pos rfl, if_pos ⟨by omega, hm⟩]
    · by_cases h3 : m + 1 ≤ i ∧ i < n
      · rw [if_pos h3, if_pos ⟨by omega, h3.2⟩]
      · rw [if_neg h3, if_neg hi, if_neg (by omega)]
theorem m_Cells_fill {h : xH} {c n : Nat} {f : Nat → Int32} (q : isCl h c n f) (hn : 0 < n ∧ n < 2 ^ 31) (v : Int32) : xev 14 [.ref c, .int v] h = some (.inl none, setCl h c n (fun i => if i < n then v else f i)) := by
  rw [e_X1_fill]
  simp only [u_X1_fill_0, u_X1_fill_1, u_X1_fill_3, u_X1_fill_4, u_X1_fill_7, u_X1_fill_8, u_X1_fill_11, u_X1_fill_12, u_X1_fill_15, u_X1_fill_16, u_X1_fill_17, u_X1_fill_18, u_X1_fill_21, u_X1_fill_24, xgo_some, xgo_none, xgoI_none, xcat_n, xcat_i, xcat_r, xcat_z, List.length_nil, List.length_cons, List.getD_cons_zero, List.getD_cons_succ, List.set_cons_zero, List.set_cons_succ, Nat.zero_le, Nat.reduceAdd, Nat.reduceLeDiff, Nat.reduceEqDiff, reduceIte]
  have := lp_Cells_fill hn v n 0 h f rfl q
  rw [show (nI 0 : Int32) = 0 from rfl] at this
  rw [this]
  simp only [Nat.zero_le, true_and]
theorem setCl_ne {h : xH} {c n : Nat} {f : Nat → Int32} {b : Nat} (hb : b ≠ c + 1) : (setCl h c n f).1 b = h.1 b := xup_ne _ _ hb
theorem isCl_ne {h : xH} {c n d m : Nat} {f g : Nat → Int32} (q : isCl h d m g) (h1 : d ≠ c + 1) (h2 : d ≠ c) : isCl (setCl h c n f) d m g := ⟨by rw [setCl_ne h1]; exact q.1, by rw [setCl_ne (by omega)]; exact q.2⟩
theorem lp_Cells_copy {c d n : Nat} {g : Nat → Int32} (hn : 0 < n ∧ n < 2 ^ 31) (h1 : d ≠ c + 1) (h2 : d ≠ c) : ∀ (k m : Nat) (h : xH) (f : Nat → Int32), k + m = n → isCl h c n f → isCl h d n g → xf 15 2 [some (.ref c), some (.ref d), some (.int (nI m))] [] h = some (.inl none, setCl h c n (fun i => if m ≤ i ∧ i < n then g i else f i)) := by
  intro k
  induction k with
  | zero =>
    intro m h f hk q qd
    have ho := q.ob
    have ha := q.ai
    have h2 : ¬ nI m < Int32.ofNat n := nI_nlt (by omega) (by omega)
    rw [u_X1_copyFrom_2]
    simp only [u_X1_copyFrom_0, u_X1_copyFrom_1, u_X1_copyFrom_3, u_X1_copyFrom_4, u_X1_copyFrom_7, u_X1_copyFrom_8, u_X1_copyFrom_11, u_X1_copyFrom_12, u_X1_copyFrom_13, u_X1_copyFrom_16, u_X1_copyFrom_17, u_X1_copyFrom_20, u_X1_copyFrom_21, u_X1_copyFrom_24, u_X1_copyFrom_25, u_X1_copyFrom_26, u_X1_copyFrom_29, u_X1_copyFrom_30, u_X1_copyFrom_31, u_X1_copyFrom_32, u_X1_copyFrom_35, u_X1_copyFrom_38, h2, if_true, if_false, ho, ha, hn.1, xgo_some, xgo_none, xgoI_none, xcat_n, xcat_i, xcat_r, xcat_z, List.length_nil, List.length_cons, List.getD_cons_zero, List.getD_cons_succ, List.set_cons_zero, List.set_cons_succ, Nat.zero_le, Nat.reduceAdd, Nat.reduceLeDiff, Nat.reduceEqDiff, reduceIte]
    have : (fun i => if m ≤ i ∧ i < n then g i else f i) = f := by
      funext i
      rw [if_neg (by omega)]
    rw [this, setCl_self q]
  | succ k ih =>
    intro m h f hk q qd
    have ho := q.ob
    have ha := q.ai
    have hod := qd.ob
    have had := qd.ai
    have hm : m < n := by omega
    have h3 : nI m < Int32.ofNat n := nI_lt hm hn.2
    have hx := xix_nI hm hn.2
    rw [u_X1_copyFrom_2]
    simp only [u_X1_copyFrom_0, u_X1_copyFrom_1, u_X1_copyFrom_3, u_X1_copyFrom_4, u_X1_copyFrom_7, u_X1_copyFrom_8, u_X1_copyFrom_11, u_X1_copyFrom_12, u_X1_copyFrom_13, u_X1_copyFrom_16, u_X1_copyFrom_17, u_X1_copyFrom_20, u_X1_copyFrom_21, u_X1_copyFrom_24, u_X1_copyFrom_25, u_X1_copyFrom_26, u_X1_copyFrom_29, u_X1_copyFrom_30, u_X1_copyFrom_31, u_X1_copyFrom_32, u_X1_copyFrom_35, u_X1_copyFrom_38, h3, if_true, if_false, ho, ha, hod, had, hx, hn.1, xsi_cl q, nI_clamp (show m < 2 ^ 31 by omega), nI_of1, xgo_some, xgo_none, xgoI_none, xcat_n, xcat_i, xcat_r, xcat_z, List.length_nil, List.length_cons, List.getD_cons_zero, List.getD_cons_succ, List.set_cons_zero, List.set_cons_succ, Nat.zero_le, Nat.reduceAdd, Nat.reduceLeDiff, Nat.reduceEqDiff, reduceIte]
    rw [ih (m + 1) _ _ (by omega) (setCl_is q) (isCl_ne qd h1 h2), setCl_set]
    congr 3
    funext i
    unfold va_up
    by_cases hi : i = m
    · subst hi
      rw [if_neg (by omega), if_pos rfl, if_pos ⟨by omega, hm⟩]
    · by_cases h3 : m + 1 ≤ i ∧ i < n
      · rw [if_pos h3, if_pos ⟨by omega, h3.2⟩]
      · rw [if_neg h3, if_neg hi, if_neg (by omega)]
theorem m_Cells_copy {h : xH} {c d n : Nat} {f g : Nat → Int32} (q : isCl h c n f) (qd : isCl h d n g) (hn : 0 < n ∧ n < 2 ^ 31) (h1 : d ≠ c + 1) (h2 : d ≠ c) : xev 15 [.ref c, .ref d] h = some (.inl none, setCl h c n (fun i => if i < n then g i else f i)) := by
  rw [e_X1_copyFrom]
  simp only [u_X1_copyFrom_0, u_X1_copyFrom_1, u_X1_copyFrom_3, u_X1_copyFrom_4, u_X1_copyFrom_7, u_X1_copyFrom_8, u_X1_copyFrom_11, u_X1_copyFrom_12, u_X1_copyFrom_13, u_X1_copyFrom_16, u_X1_copyFrom_17, u_X1_copyFrom_20, u_X1_copyFrom_21, u_X1_copyFrom_24, u_X1_copyFrom_25, u_X1_copyFrom_26, u_X1_copyFrom_29, u_X1_copyFrom_30, u_X1_copyFrom_31, u_X1_copyFrom_32, u_X1_copyFrom_35, u_X1_copyFrom_38, xgo_some, xgo_none, xgoI_none, xcat_n, xcat_i, xcat_r, xcat_z, List.length_nil, List.length_cons, List.getD_cons_zero, List.getD_cons_succ, List.set_cons_zero, List.set_cons_succ, Nat.zero_le, Nat.reduceAdd, Nat.reduceLeDiff, Nat.reduceEqDiff, reduceIte]
  have := lp_Cells_copy hn h1 h2 n 0 h f rfl q qd
  rw [show (nI 0 : Int32) = 0 from rfl] at this
  rw [this]
  simp only [Nat.zero_le, true_and]
/-- a row at r, its array behind it: n parts, f the array -/
def isRow (h : xH) (r n : Nat) (f : Nat → Int32) : Prop := h.1 r = some (.inr (5, [.ref (r + 1), .int (nI n)])) ∧ h.1 (r + 1) = some (.inl (0, 64, .inl f)) ∧ n ≤ 64
def setRow (h : xH) (r n : Nat) (f : Nat → Int32) : xH := xup (xup h (r + 1) (.inl (0, 64, .inl f))) r (.inr (5, [.ref (r + 1), .int (nI n)]))
theorem isRow.ob {h : xH} {r n : Nat} {f : Nat → Int32} (q : isRow h r n f) : xob h r = (5, [.ref (r + 1), .int (nI n)]) := by
  unfold xob
  rw [q.1]
  rfl
theorem isRow.ai {h : xH} {r n : Nat} {f : Nat → Int32} (q : isRow h r n f) : xai h (r + 1) = (64, f) := by
  unfold xai
  simp only [q.2.1]
theorem setRow_is {h : xH} {r m : Nat} {g : Nat → Int32} (hm : m ≤ 64) : isRow (setRow h r m g) r m g := ⟨xup_at _ _ _, by unfold setRow; rw [xup_ne _ _ (by omega)]; exact xup_at _ _ _, hm⟩
theorem setRow_self {h : xH} {r n : Nat} {f : Nat → Int32} (q : isRow h r n f) : setRow h r n f = h := by
  unfold setRow
  rw [xup_self h _ _ q.2.1, xup_self h _ _ q.1]
theorem setRow_set (h : xH) (r n m : Nat) (f g : Nat → Int32) : setRow (setRow h r n f) r m g = setRow h r m g := by
  unfold setRow
  rw [xup_comm (xup h (r + 1) _) _ _ (show r ≠ r + 1 by omega), xup_up, xup_up]
theorem setRow_ne {h : xH} {r n : Nat} {f : Nat → Int32} {b : Nat} (h1 : b ≠ r) (h2 : b ≠ r + 1) : (setRow h r n f).1 b = h.1 b := by
  unfold setRow
  rw [xup_ne _ _ h1, xup_ne _ _ h2]
theorem isRow_ne {h : xH} {r n o m : Nat} {f g : Nat → Int32} (q : isRow h o m g) (h1 : o ≠ r) (h2 : o ≠ r + 1) (h3 : r ≠ o + 1) : isRow (setRow h r n f) o m g := ⟨by rw [setRow_ne h1 h2]; exact q.1, by rw [setRow_ne (fun q => h3 q.symm) (by omega)]; exact q.2.1, q.2.2⟩
/-- a store into the array, into the length -/
theorem xsi_row {h : xH} {r n : Nat} {f : Nat → Int32} (q : isRow h r n f) (k : Nat) (v : Int32) : xsi h (r + 1) k v = setRow h r n (va_up f k v) := by
  unfold xsi setRow
  rw [q.ai, xup_comm _ _ _ (show r + 1 ≠ r by omega), xup_self h r _ q.1]
theorem xso_row {h : xH} {r n m : Nat} {f : Nat → Int32} (q : isRow h r n f) : xso h r 1 (.int (nI m)) = setRow h r m f := by
  unfold xso setRow
  rw [q.ob, xup_self h _ _ q.2.1]
  rfl
theorem m_Row_at {h : xH} {r n : Nat} {f : Nat → Int32} (q : isRow h r n f) (i : Int32) : xev 36 [.ref r, .int i] h = some (.inl (some (.int (clAt n f i))), h) := by
  have ho := q.ob
  have ha := q.ai
  rw [e_X5_at]
  unfold clAt
  by_cases h1 : i < 0
  · simp only [u_X5_at_0, u_X5_at_1, u_X5_at_4, u_X5_at_5, u_X5_at_6, u_X5_at_9, u_X5_at_12, u_X5_at_13, u_X5_at_14, u_X5_at_17, u_X5_at_18, u_X5_at_21, u_X5_at_22, u_X5_at_25, u_X5_at_26, u_X5_at_27, u_X5_at_30, u_X5_at_31, h1, if_true, xgo_some, xgo_none, xgoI_none, xcat_n, xcat_i, xcat_r, xcat_z, List.length_nil, List.length_cons, List.getD_cons_zero, List.getD_cons_succ, List.set_cons_zero, List.set_cons_succ, Nat.zero_le, Nat.reduceAdd, Nat.reduceLeDiff, Nat.reduceEqDiff, reduceIte]
  · by_cases h2 : i < nI n
    · obtain ⟨k, hk, rfl⟩ := xi_nat h1
      have hkn : k < n := (nI_ltI hk (by have := q.2.2; omega)).mp h2
      have hx := xix_nI (show k < 64 by have := q.2.2; omega) (by decide)
      have h3 : nI k < Int32.ofNat 64 := nI_lt (by have := q.2.2; omega) (by decide)
      simp only [u_X5_at_0, u_X5_at_1, u_X5_at_4, u_X5_at_5, u_X5_at_6, u_X5_at_9, u_X5_at_12, u_X5_at_13, u_X5_at_14, u_X5_at_17, u_X5_at_18, u_X5_at_21, u_X5_at_22, u_X5_at_25, u_X5_at_26, u_X5_at_27, u_X5_at_30, u_X5_at_31, h1, h2, h3, hx, if_true, if_false, ho, ha, show 0 < 64 by decide, xgo_some, xgo_none, xgoI_none, xcat_n, xcat_i, xcat_r, xcat_z, List.length_nil, List.length_cons, List.getD_cons_zero, List.getD_cons_succ, List.set_cons_zero, List.set_cons_succ, Nat.zero_le, Nat.reduceAdd, Nat.reduceLeDiff, Nat.reduceEqDiff, reduceIte]
    · simp only [u_X5_at_0, u_X5_at_1, u_X5_at_4, u_X5_at_5, u_X5_at_6, u_X5_at_9, u_X5_at_12, u_X5_at_13, u_X5_at_14, u_X5_at_17, u_X5_at_18, u_X5_at_21, u_X5_at_22, u_X5_at_25, u_X5_at_26, u_X5_at_27, u_X5_at_30, u_X5_at_31, h1, h2, if_true, if_false, ho, ha, xgo_some, xgo_none, xgoI_none, xcat_n, xcat_i, xcat_r, xcat_z, List.length_nil, List.length_cons, List.getD_cons_zero, List.getD_cons_succ, List.set_cons_zero, List.set_cons_succ, Nat.zero_le, Nat.reduceAdd, Nat.reduceLeDiff, Nat.reduceEqDiff, reduceIte]
theorem m_Row_takes {h : xH} {r n : Nat} {f : Nat → Int32} (q : isRow h r n f) (x : Int32) : xev 37 [.ref r, .int x] h = some (.inl (some (.int (if 64 - nI n < x then 0 else 1))), h) := by
  have ho := q.ob
  rw [e_X5_takes]
  by_cases h1 : 64 - nI n < x
  · simp only [u_X5_takes_0, u_X5_takes_1, u_X5_takes_3, u_X5_takes_4, u_X5_takes_7, u_X5_takes_8, u_X5_takes_11, u_X5_takes_12, u_X5_takes_15, u_X5_takes_16, h1, if_true, if_false, true_or, ho, xgo_some, xgo_none, xgoI_none, xcat_n, xcat_i, xcat_r, xcat_z, List.length_nil, List.length_cons, List.getD_cons_zero, List.getD_cons_succ, List.set_cons_zero, List.set_cons_succ, Nat.zero_le, Nat.reduceAdd, Nat.reduceLeDiff, Nat.reduceEqDiff, reduceIte]
  · simp only [u_X5_takes_0, u_X5_takes_1, u_X5_takes_3, u_X5_takes_4, u_X5_takes_7, u_X5_takes_8, u_X5_takes_11, u_X5_takes_12, u_X5_takes_15, u_X5_takes_16, h1, if_true, if_false, or_true, ho, xgo_some, xgo_none, xgoI_none, xcat_n, xcat_i, xcat_r, xcat_z, List.length_nil, List.length_cons, List.getD_cons_zero, List.getD_cons_succ, List.set_cons_zero, List.set_cons_succ, Nat.zero_le, Nat.reduceAdd, Nat.reduceLeDiff, Nat.reduceEqDiff, reduceIte]
theorem nI_sub {a b : Nat} (h : b ≤ a) : nI a - nI b = nI (a - b) := by
  have : nI a = nI (a - b) + nI b := by rw [nI_add]; congr 1; omega
  rw [this]
  exact Int32.add_sub_cancel _ _
theorem m_Row_takes_nI {h : xH} {r n : Nat} {f : Nat → Int32} (q : isRow h r n f) {x : Nat} (hx : x < 2 ^ 31) : xev 37 [.ref r, .int (nI x)] h = some (.inl (some (.int (if n + x ≤ 64 then 1 else 0))), h) := by
  rw [m_Row_takes q, show (64 : Int32) = nI 64 from rfl, nI_sub q.2.2]
  have hn := q.2.2
  by_cases h1 : n + x ≤ 64
  · rw [if_neg (nI_nlt (by omega) (by omega)), if_pos h1]
  · rw [if_pos (nI_lt (by omega) hx), if_neg h1]
theorem m_Row_push {h : xH} {r n : Nat} {f : Nat → Int32} (q : isRow h r n f) (v : Int32) : xev 38 [.ref r, .int v] h = some (.inl none, if n < 64 then setRow h r (n + 1) (va_up f n v) else h) := by
  have ho := q.ob
  have ha := q.ai
  have hn := q.2.2
  have h1 : ¬ nI n < 0 := nI_pos (by omega)
  rw [e_X5_push]
  by_cases h2 : n < 64
  · have h3 : nI n < Int32.ofNat 64 := nI_lt h2 (by decide)
    have hx := xix_nI h2 (by decide)
    have q2 : isRow (setRow h r n (va_up f n v)) r n (va_up f n v) := setRow_is hn
    have ho2 := q2.ob
    simp only [u_X5_push_0, u_X5_push_1, u_X5_push_4, u_X5_push_7, u_X5_push_8, u_X5_push_11, u_X5_push_12, u_X5_push_15, u_X5_push_16, u_X5_push_19, u_X5_push_20, u_X5_push_23, u_X5_push_24, u_X5_push_27, u_X5_push_28, u_X5_push_29, u_X5_push_30, u_X5_push_31, u_X5_push_34, u_X5_push_35, u_X5_push_36, u_X5_push_39, h1, h2, h3, hx, if_true, if_false, ho, ha, show 0 < 64 by decide, xsi_row q, nI_clamp (show n < 2 ^ 31 by omega), nI_of1, ho2, xso_row q2, setRow_set, xgo_some, xgo_none, xgoI_none, xcat_n, xcat_i, xcat_r, xcat_z, List.length_nil, List.length_cons, List.getD_cons_zero, List.getD_cons_succ, List.set_cons_zero, List.set_cons_succ, Nat.zero_le, Nat.reduceAdd, Nat.reduceLeDiff, Nat.reduceEqDiff, reduceIte]
  · have h3 : ¬ nI n < Int32.ofNat 64 := nI_nlt (by omega) (by omega)
    simp only [u_X5_push_0, u_X5_push_1, u_X5_push_4, u_X5_push_7, u_X5_push_8, u_X5_push_11, u_X5_push_12, u_X5_push_15, u_X5_push_16, u_X5_push_19, u_X5_push_20, u_X5_push_23, u_X5_push_24, u_X5_push_27, u_X5_push_28, u_X5_push_29, u_X5_push_30, u_X5_push_31, u_X5_push_34, u_X5_push_35, u_X5_push_36, u_X5_push_39, h1, h2, h3, if_true, if_false, ho, ha, show 0 < 64 by decide, xgo_some, xgo_none, xgoI_none, xcat_n, xcat_i, xcat_r, xcat_z, List.length_nil, List.length_cons, List.getD_cons_zero, List.getD_cons_succ, List.set_cons_zero, List.set_cons_succ, Nat.zero_le, Nat.reduceAdd, Nat.reduceLeDiff, Nat.reduceEqDiff, reduceIte]
theorem m_Row_shorten {h : xH} {r n : Nat} {f : Nat → Int32} (q : isRow h r n f) {k : Nat} (hk : k ≤ n) : xev 39 [.ref r, .int (nI k)] h = some (.inl none, setRow h r k f) := by
  have ho := q.ob
  have hn := q.2.2
  have h1 : ¬ nI k < 0 := nI_pos (by omega)
  rw [e_X5_shorten]
  by_cases h2 : k < n
  · have h3 : nI k < nI n := nI_lt h2 (by omega)
    simp only [u_X5_shorten_0, u_X5_shorten_1, u_X5_shorten_4, u_X5_shorten_5, u_X5_shorten_6, u_X5_shorten_9, u_X5_shorten_12, u_X5_shorten_13, u_X5_shorten_14, u_X5_shorten_17, h1, h3, if_true, if_false, ho, xso_row q, xgo_some, xgo_none, xgoI_none, xcat_n, xcat_i, xcat_r, xcat_z, List.length_nil, List.length_cons, List.getD_cons_zero, List.getD_cons_succ, List.set_cons_zero, List.set_cons_succ, Nat.zero_le, Nat.reduceAdd, Nat.reduceLeDiff, Nat.reduceEqDiff, reduceIte]
  · have h3 : ¬ nI k < nI n := nI_nlt (by omega) (by omega)
    simp only [u_X5_shorten_0, u_X5_shorten_1, u_X5_shorten_4, u_X5_shorten_5, u_X5_shorten_6, u_X5_shorten_9, u_X5_shorten_12, u_X5_shorten_13, u_X5_shorten_14, u_X5_shorten_17, h1, h3, if_true, if_false, ho, xgo_some, xgo_none, xgoI_none, xcat_n, xcat_i, xcat_r, xcat_z, List.length_nil, List.length_cons, List.getD_cons_zero, List.getD_cons_succ, List.set_cons_zero, List.set_cons_succ, Nat.zero_le, Nat.reduceAdd, Nat.reduceLeDiff, Nat.reduceEqDiff, reduceIte]
    have : k = n := by omega
    subst this
    rw [setRow_self q]
theorem m_Row_put {h : xH} {r n : Nat} {f : Nat → Int32} (q : isRow h r n f) {k : Nat} (hk : k < n) (v : Int32) : xev 41 [.ref r, .int (nI k), .int v] h = some (.inl none, setRow h r n (va_up f k v)) := by
  have ho := q.ob
  have ha := q.ai
  have hn := q.2.2
  have h1 : ¬ nI k < 0 := nI_pos (by omega)
  have h2 : nI k < nI n := nI_lt hk (by omega)
  have h3 : nI k < Int32.ofNat 64 := nI_lt (by omega) (by decide)
  have hx := xix_nI (show k < 64 by omega) (by decide)
  rw [e_X5_put]
  simp only [u_X5_put_0, u_X5_put_1, u_X5_put_4, u_X5_put_5, u_X5_put_6, u_X5_put_9, u_X5_put_12, u_X5_put_13, u_X5_put_14, u_X5_put_17, u_X5_put_18, u_X5_put_21, u_X5_put_22, u_X5_put_25, u_X5_put_26, u_X5_put_27, u_X5_put_28, h1, h2, h3, hx, if_true, if_false, ho, ha, show 0 < 64 by decide, xsi_row q, nI_clamp (show k < 2 ^ 31 by omega), xgo_some, xgo_none, xgoI_none, xcat_n, xcat_i, xcat_r, xcat_z, List.length_nil, List.length_cons, List.getD_cons_zero, List.getD_cons_succ, List.set_cons_zero, List.set_cons_succ, Nat.zero_le, Nat.reduceAdd, Nat.reduceLeDiff, Nat.reduceEqDiff, reduceIte]
