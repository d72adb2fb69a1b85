/-! Rows: what walks over them. -/
def seg (f : Nat → Int32) : Nat → Nat → List Int32
  | _, 0 => []
  | i, k + 1 => f i :: seg f (i + 1) k
def cntI : List Int32 → Int32 → Nat
  | [], _ => 0
  | x :: t, p => (if x = p then 1 else 0) + cntI t p
def occI (a b : Int32) : List Int32 → Nat
  | x :: y :: t => if x = a ∧ y = b then 1 + occI a b t else occI a b (y :: t)
  | _ => 0
def repI (a b c : Int32) : List Int32 → List Int32
  | x :: y :: t => if x = a ∧ y = b then c :: repI a b c t else x :: repI a b c (y :: t)
  | [x] => [x]
  | [] => []
def unlI (L : List Int32) : Nat → Nat → Nat
  | _, 0 => 0
  | i, k + 1 => (if 0 < cntI L (nI i) then 1 else 0) + unlI L (i + 1) k
def ovl (L : List Int32) (f : Nat → Int32) : Nat → Int32 := fun i => if i < L.length then L.getD i 0 else f i
theorem seg_len : ∀ (k i : Nat) (f : Nat → Int32), (seg f i k).length = k := by
  intro k
  induction k with
  | zero => intro i f; rfl
  | succ k ih => intro i f; simp [seg, ih]
theorem cntI_le : ∀ (L : List Int32) (p : Int32), cntI L p ≤ L.length := by
  intro L p
  induction L with
  | nil => exact Nat.le_refl _
  | cons x t ih =>
    simp only [cntI, List.length_cons]
    split <;> omega
theorem occI_le (a b : Int32) : ∀ (n : Nat) (L : List Int32), L.length ≤ n → occI a b L ≤ L.length := by
  intro n
  induction n with
  | zero => intro L h; cases L <;> simp_all [occI]
  | succ n ih =>
    intro L h
    match L, h with
    | [], _ => exact Nat.le_refl _
    | [x], _ => exact Nat.zero_le _
    | x :: y :: t, h =>
      simp only [List.length_cons] at h
      unfold occI
      split
      · have := ih t (by omega)
        simp only [List.length_cons]; omega
      · have := ih (y :: t) (by simp only [List.length_cons]; omega)
        simp only [List.length_cons] at this ⊢; omega
theorem repI_le (a b c : Int32) : ∀ (n : Nat) (L : List Int32), L.length ≤ n → (repI a b c L).length ≤ L.length := by
  intro n
  induction n with
  | zero => intro L h; cases L <;> simp_all [repI]
  | succ n ih =>
    intro L h
    match L, h with
    | [], _ => exact Nat.le_refl _
    | [x], _ => exact Nat.le_refl _
    | x :: y :: t, h =>
      simp only [List.length_cons] at h
      unfold repI
      split
      · have := ih t (by omega)
        simp only [List.length_cons]; omega
      · have := ih (y :: t) (by simp only [List.length_cons]; omega)
        simp only [List.length_cons] at this ⊢; omega
theorem unlI_le (L : List Int32) : ∀ (k i : Nat), unlI L i k ≤ k := by
  intro k
  induction k with
  | zero => intro i; exact Nat.le_refl _
  | succ k ih =>
    intro i
    have := ih (i + 1)
    unfold unlI
    split <;> omega
theorem clAt_lt {n : Nat} {f : Nat → Int32} {k : Nat} (h : k < n) (hn : n ≤ 64) : clAt n f (nI k) = f k := clAt_nI h (by omega)
theorem clAt_out {n : Nat} {f : Nat → Int32} {k : Nat} (h : n ≤ k) (hk : k < 2 ^ 31) : clAt n f (nI k) = -1 := by
  unfold clAt
  rw [if_neg (nI_pos hk), if_neg (nI_nlt h hk)]
theorem lp_Row_usesOf {h : xH} {r n : Nat} {f : Nat → Int32} (q : isRow h r n f) (p : Int32) : ∀ (k m u : Nat), m + k = n → xf 45 4 [some (.ref r), some (.int p), some (.int (nI u)), some (.int (nI m))] [] h = some (.inl (some (.int (nI (u + cntI (seg f m k) p)))), h) := by
  have ho := q.ob
  have hn := q.2.2
  intro k
  induction k with
  | zero =>
    intro m u hk
    have h2 : ¬ nI m < nI n := nI_nlt (by omega) (by omega)
    rw [u_X5_usesOf_4]
    simp only [u_X5_usesOf_0, u_X5_usesOf_1, u_X5_usesOf_2, u_X5_usesOf_3, u_X5_usesOf_5, u_X5_usesOf_6, u_X5_usesOf_9, u_X5_usesOf_12, u_X5_usesOf_13, u_X5_usesOf_14, u_X5_usesOf_17, u_X5_usesOf_18, u_X5_usesOf_21, u_X5_usesOf_24, u_X5_usesOf_27, u_X5_usesOf_30, u_X5_usesOf_31, h2, if_false, ho, xgo_some, xgo_none, xgoI_none, xcat_n, xcat_i, xcat_r, xcat_z, List.length_nil, List.length_cons, List.getD_cons_zero, List.getD_cons_succ, List.set_cons_zero, List.set_cons_succ, Nat.zero_le, Nat.reduceAdd, Nat.reduceLeDiff, Nat.reduceEqDiff, reduceIte]
    rfl
  | succ k ih =>
    intro m u hk
    have h2 : nI m < nI n := nI_lt (by omega) (by omega)
    rw [u_X5_usesOf_4]
    simp only [u_X5_usesOf_0, u_X5_usesOf_1, u_X5_usesOf_2, u_X5_usesOf_3, u_X5_usesOf_5, u_X5_usesOf_6, u_X5_usesOf_9, u_X5_usesOf_12, u_X5_usesOf_13, u_X5_usesOf_14, u_X5_usesOf_17, u_X5_usesOf_18, u_X5_usesOf_21, u_X5_usesOf_24, u_X5_usesOf_27, u_X5_usesOf_30, u_X5_usesOf_31, h2, if_true, ho, m_Row_at q, clAt_lt (show m < n by omega) hn, nI_of1, xgo_some, xgo_none, xgoI_none, xcat_n, xcat_i, xcat_r, xcat_z, List.length_nil, List.length_cons, List.getD_cons_zero, List.getD_cons_succ, List.set_cons_zero, List.set_cons_succ, Nat.zero_le, Nat.reduceAdd, Nat.reduceLeDiff, Nat.reduceEqDiff, reduceIte]
    rw [ih (m + 1) _ (by omega), ih (m + 1) _ (by omega)]
    simp only [seg, cntI]
    split
    · rw [Nat.add_assoc]
    · rw [Nat.zero_add]
theorem m_Row_usesOf {h : xH} {r n : Nat} {f : Nat → Int32} (q : isRow h r n f) (p : Int32) : xev 45 [.ref r, .int p] h = some (.inl (some (.int (nI (cntI (seg f 0 n) p)))), h) := by
  rw [e_X5_usesOf]
  simp only [u_X5_usesOf_0, u_X5_usesOf_1, u_X5_usesOf_2, u_X5_usesOf_3, u_X5_usesOf_5, u_X5_usesOf_6, u_X5_usesOf_9, u_X5_usesOf_12, u_X5_usesOf_13, u_X5_usesOf_14, u_X5_usesOf_17, u_X5_usesOf_18, u_X5_usesOf_21, u_X5_usesOf_24, u_X5_usesOf_27, u_X5_usesOf_30, u_X5_usesOf_31, xgo_some, xgo_none, xgoI_none, xcat_n, xcat_i, xcat_r, xcat_z, List.length_nil, List.length_cons, List.getD_cons_zero, List.getD_cons_succ, List.set_cons_zero, List.set_cons_succ, Nat.zero_le, Nat.reduceAdd, Nat.reduceLeDiff, Nat.reduceEqDiff, reduceIte]
  have := lp_Row_usesOf q p n 0 0 (by omega)
  rw [Nat.zero_add] at this
  exact this
theorem lp_Row_occ {h : xH} {r n : Nat} {f : Nat → Int32} (q : isRow h r n f) (a b : Int32) : ∀ (j k m u : Nat), k ≤ j → m + k = n → xf 44 5 [some (.ref r), some (.int a), some (.int b), some (.int (nI u)), some (.int (nI m))] [] h = some (.inl (some (.int (nI (u + occI a b (seg f m k))))), h) := by
  have ho := q.ob
  have hn := q.2.2
  intro j
  induction j with
  | zero =>
    intro k m u hj hk
    have h2 : ¬ nI (m + 1) < nI n := nI_nlt (by omega) (by omega)
    rw [u_X5_occurrences_5]
    simp only [u_X5_occurrences_0, u_X5_occurrences_1, u_X5_occurrences_2, u_X5_occurrences_3, u_X5_occurrences_7, u_X5_occurrences_8, u_X5_occurrences_9, u_X5_occurrences_10, u_X5_occurrences_13, u_X5_occurrences_16, u_X5_occurrences_17, u_X5_occurrences_19, u_X5_occurrences_22, u_X5_occurrences_23, u_X5_occurrences_26, u_X5_occurrences_27, u_X5_occurrences_29, u_X5_occurrences_30, u_X5_occurrences_31, u_X5_occurrences_34, u_X5_occurrences_35, u_X5_occurrences_38, u_X5_occurrences_41, u_X5_occurrences_44, u_X5_occurrences_47, u_X5_occurrences_50, u_X5_occurrences_51, nI_of1, h2, if_false, ho, xgo_some, xgo_none, xgoI_none, xcat_n, xcat_i, xcat_r, xcat_z, List.length_nil, List.length_cons, List.getD_cons_zero, List.getD_cons_succ, List.set_cons_zero, List.set_cons_succ, Nat.zero_le, Nat.reduceAdd, Nat.reduceLeDiff, Nat.reduceEqDiff, reduceIte]
    rw [show k = 0 by omega]
    rfl
  | succ j ih =>
    intro k m u hj hk
    by_cases hm : m + 1 < n
    · have h2 : nI (m + 1) < nI n := nI_lt hm (by omega)
      obtain ⟨k', rfl⟩ : ∃ k', k = k' + 2 := ⟨k - 2, by omega⟩
      rw [u_X5_occurrences_5]
      simp only [u_X5_occurrences_0, u_X5_occurrences_1, u_X5_occurrences_2, u_X5_occurrences_3, u_X5_occurrences_7, u_X5_occurrences_8, u_X5_occurrences_9, u_X5_occurrences_10, u_X5_occurrences_13, u_X5_occurrences_16, u_X5_occurrences_17, u_X5_occurrences_19, u_X5_occurrences_22, u_X5_occurrences_23, u_X5_occurrences_26, u_X5_occurrences_27, u_X5_occurrences_29, u_X5_occurrences_30, u_X5_occurrences_31, u_X5_occurrences_34, u_X5_occurrences_35, u_X5_occurrences_38, u_X5_occurrences_41, u_X5_occurrences_44, u_X5_occurrences_47, u_X5_occurrences_50, u_X5_occurrences_51, nI_of1, h2, if_true, ho, m_Row_at q, clAt_lt (show m < n by omega) hn, clAt_lt hm hn, xgo_some, xgo_none, xgoI_none, xcat_n, xcat_i, xcat_r, xcat_z, List.length_nil, List.length_cons, List.getD_cons_zero, List.getD_cons_succ, List.set_cons_zero, List.set_cons_succ, Nat.zero_le, Nat.reduceAdd, Nat.reduceLeDiff, Nat.reduceEqDiff, reduceIte]
      simp only [seg, occI]
      by_cases h3 : f m = a
      · by_cases h4 : f (m + 1) = b
        · rw [if_pos h3, if_pos h4, if_pos ⟨h3, h4⟩, ih k' (m + 2) (u + 1) (by omega) (by omega), Nat.add_assoc]
        · rw [if_pos h3, if_neg h4, if_neg (fun z => h4 z.2), ih (k' + 1) (m + 1) u (by omega) (by omega)]
          rfl
      · rw [if_neg h3, if_neg (fun z => h3 z.1), ih (k' + 1) (m + 1) u (by omega) (by omega)]
        rfl
    · have h2 : ¬ nI (m + 1) < nI n := nI_nlt (by omega) (by omega)
      rw [u_X5_occurrences_5]
      simp only [u_X5_occurrences_0, u_X5_occurrences_1, u_X5_occurrences_2, u_X5_occurrences_3, u_X5_occurrences_7, u_X5_occurrences_8, u_X5_occurrences_9, u_X5_occurrences_10, u_X5_occurrences_13, u_X5_occurrences_16, u_X5_occurrences_17, u_X5_occurrences_19, u_X5_occurrences_22, u_X5_occurrences_23, u_X5_occurrences_26, u_X5_occurrences_27, u_X5_occurrences_29, u_X5_occurrences_30, u_X5_occurrences_31, u_X5_occurrences_34, u_X5_occurrences_35, u_X5_occurrences_38, u_X5_occurrences_41, u_X5_occurrences_44, u_X5_occurrences_47, u_X5_occurrences_50, u_X5_occurrences_51, nI_of1, h2, if_false, ho, xgo_some, xgo_none, xgoI_none, xcat_n, xcat_i, xcat_r, xcat_z, List.length_nil, List.length_cons, List.getD_cons_zero, List.getD_cons_succ, List.set_cons_zero, List.set_cons_succ, Nat.zero_le, Nat.reduceAdd, Nat.reduceLeDiff, Nat.reduceEqDiff, reduceIte]
      have : k = 0 ∨ k = 1 := by omega
      rcases this with rfl | rfl <;> rfl
theorem m_Row_occ {h : xH} {r n : Nat} {f : Nat → Int32} (q : isRow h r n f) (a b : Int32) : xev 44 [.ref r, .int a, .int b] h = some (.inl (some (.int (nI (occI a b (seg f 0 n))))), h) := by
  rw [e_X5_occurrences]
  simp only [u_X5_occurrences_0, u_X5_occurrences_1, u_X5_occurrences_2, u_X5_occurrences_3, u_X5_occurrences_7, u_X5_occurrences_8, u_X5_occurrences_9, u_X5_occurrences_10, u_X5_occurrences_13, u_X5_occurrences_16, u_X5_occurrences_17, u_X5_occurrences_19, u_X5_occurrences_22, u_X5_occurrences_23, u_X5_occurrences_26, u_X5_occurrences_27, u_X5_occurrences_29, u_X5_occurrences_30, u_X5_occurrences_31, u_X5_occurrences_34, u_X5_occurrences_35, u_X5_occurrences_38, u_X5_occurrences_41, u_X5_occurrences_44, u_X5_occurrences_47, u_X5_occurrences_50, u_X5_occurrences_51, xgo_some, xgo_none, xgoI_none, xcat_n, xcat_i, xcat_r, xcat_z, List.length_nil, List.length_cons, List.getD_cons_zero, List.getD_cons_succ, List.set_cons_zero, List.set_cons_succ, Nat.zero_le, Nat.reduceAdd, Nat.reduceLeDiff, Nat.reduceEqDiff, reduceIte]
  have := lp_Row_occ q a b n n 0 0 (Nat.le_refl _) (by omega)
  rw [Nat.zero_add] at this
  exact this
theorem lp_Row_unlike {h : xH} {r n : Nat} {f : Nat → Int32} (q : isRow h r n f) : ∀ (k m u : Nat), m + k = 24 → xf 46 4 [some (.ref r), some (.int (nI u)), some (.int (nI m))] [] h = some (.inl (some (.int (nI (u + unlI (seg f 0 n) m k)))), h) := by
  have hn := q.2.2
  have ho := q.ob
  intro k
  induction k with
  | zero =>
    intro m u hk
    have h2 : ¬ nI m < 24 := nI_nlt (b := 24) (by omega) (by omega)
    rw [u_X5_unlikeParts_4]
    simp only [u_X5_unlikeParts_0, u_X5_unlikeParts_1, u_X5_unlikeParts_2, u_X5_unlikeParts_3, u_X5_unlikeParts_5, u_X5_unlikeParts_7, u_X5_unlikeParts_10, u_X5_unlikeParts_11, u_X5_unlikeParts_12, u_X5_unlikeParts_15, u_X5_unlikeParts_18, u_X5_unlikeParts_21, u_X5_unlikeParts_24, u_X5_unlikeParts_27, u_X5_unlikeParts_28, h2, if_false, xgo_some, xgo_none, xgoI_none, xcat_n, xcat_i, xcat_r, xcat_z, List.length_nil, List.length_cons, List.getD_cons_zero, List.getD_cons_succ, List.set_cons_zero, List.set_cons_succ, Nat.zero_le, Nat.reduceAdd, Nat.reduceLeDiff, Nat.reduceEqDiff, reduceIte]
    rfl
  | succ k ih =>
    intro m u hk
    have h2 : nI m < 24 := nI_lt (b := 24) (by omega) (by omega)
    have hc : cntI (seg f 0 n) (nI m) < 2 ^ 31 := by have := cntI_le (seg f 0 n) (nI m); rw [seg_len] at this; omega
    rw [u_X5_unlikeParts_4]
    simp only [u_X5_unlikeParts_0, u_X5_unlikeParts_1, u_X5_unlikeParts_2, u_X5_unlikeParts_3, u_X5_unlikeParts_5, u_X5_unlikeParts_7, u_X5_unlikeParts_10, u_X5_unlikeParts_11, u_X5_unlikeParts_12, u_X5_unlikeParts_15, u_X5_unlikeParts_18, u_X5_unlikeParts_21, u_X5_unlikeParts_24, u_X5_unlikeParts_27, u_X5_unlikeParts_28, h2, if_true, ho, m_Row_usesOf q, nI_of1, xgo_some, xgo_none, xgoI_none, xcat_n, xcat_i, xcat_r, xcat_z, List.length_nil, List.length_cons, List.getD_cons_zero, List.getD_cons_succ, List.set_cons_zero, List.set_cons_succ, Nat.zero_le, Nat.reduceAdd, Nat.reduceLeDiff, Nat.reduceEqDiff, reduceIte]
    rw [ih (m + 1) _ (by omega), ih (m + 1) _ (by omega)]
    simp only [unlI]
    by_cases h3 : 0 < cntI (seg f 0 n) (nI m)
    · rw [if_pos (show (0 : Int32) < nI _ from nI_lt (a := 0) h3 hc), if_pos h3, Nat.add_assoc]
    · rw [if_neg (show ¬ (0 : Int32) < nI (cntI (seg f 0 n) (nI m)) from nI_nlt (a := 0) (by omega) (by omega)), if_neg h3, Nat.zero_add]
theorem m_Row_unlike {h : xH} {r n : Nat} {f : Nat → Int32} (q : isRow h r n f) : xev 46 [.ref r] h = some (.inl (some (.int (nI (unlI (seg f 0 n) 0 24)))), h) := by
  rw [e_X5_unlikeParts]
  simp only [u_X5_unlikeParts_0, u_X5_unlikeParts_1, u_X5_unlikeParts_2, u_X5_unlikeParts_3, u_X5_unlikeParts_5, u_X5_unlikeParts_7, u_X5_unlikeParts_10, u_X5_unlikeParts_11, u_X5_unlikeParts_12, u_X5_unlikeParts_15, u_X5_unlikeParts_18, u_X5_unlikeParts_21, u_X5_unlikeParts_24, u_X5_unlikeParts_27, u_X5_unlikeParts_28, xgo_some, xgo_none, xgoI_none, xcat_n, xcat_i, xcat_r, xcat_z, List.length_nil, List.length_cons, List.getD_cons_zero, List.getD_cons_succ, List.set_cons_zero, List.set_cons_succ, Nat.zero_le, Nat.reduceAdd, Nat.reduceLeDiff, Nat.reduceEqDiff, reduceIte]
  have := lp_Row_unlike q 24 0 0 (by omega)
  rw [Nat.zero_add] at this
  exact this
theorem ovl_nil (f : Nat → Int32) : ovl [] f = f := by
  funext i
  simp [ovl]
theorem ovl_push (L : List Int32) (f : Nat → Int32) (v : Int32) : va_up (ovl L f) L.length v = ovl (L ++ [v]) f := by
  funext i
  unfold va_up ovl
  by_cases h1 : i = L.length
  · subst h1
    simp
  · by_cases h2 : i < L.length
    · rw [if_neg h1, if_pos h2, if_pos (by simp; omega)]
      simp [List.getElem?_append_left h2]
    · rw [if_neg h1, if_neg h2, if_neg (by simp; omega)]
theorem ovl_out {L : List Int32} {f : Nat → Int32} {i : Nat} (h : L.length ≤ i) : ovl L f i = f i := by
  unfold ovl
  rw [if_neg (by omega)]
theorem lp_Row_copy {r o : Nat} {g : Nat → Int32} {m : Nat} (h1 : o ≠ r) (h2 : o ≠ r + 1) (h3 : r ≠ o + 1) : ∀ (k j : Nat) (h : xH) (f : Nat → Int32), j + k = m → isRow h r j f → isRow h o m g → xf 40 7 [some (.ref r), some (.ref o), some (.int (nI j))] [] h = some (.inl none, setRow h r m (fun i => if j ≤ i ∧ i < m then g i else f i)) := by
  intro k
  induction k with
  | zero =>
    intro j h f hk q qo
    have ho := qo.ob
    have hn := qo.2.2
    have h2 : ¬ nI j < nI m := nI_nlt (by omega) (by omega)
    rw [u_X5_copyFrom_7]
    simp only [u_X5_copyFrom_0, u_X5_copyFrom_1, u_X5_copyFrom_2, u_X5_copyFrom_5, u_X5_copyFrom_6, u_X5_copyFrom_8, u_X5_copyFrom_9, u_X5_copyFrom_12, u_X5_copyFrom_15, u_X5_copyFrom_16, u_X5_copyFrom_17, u_X5_copyFrom_18, u_X5_copyFrom_21, u_X5_copyFrom_24, u_X5_copyFrom_27, u_X5_copyFrom_30, h2, if_false, ho, xgo_some, xgo_none, xgoI_none, xcat_n, xcat_i, xcat_r, xcat_z, List.length_nil, List.length_cons, List.getD_cons_zero, List.getD_cons_succ, List.set_cons_zero, List.set_cons_succ, Nat.zero_le, Nat.reduceAdd, Nat.reduceLeDiff, Nat.reduceEqDiff, reduceIte]
    have : (fun i => if j ≤ i ∧ i < m then g i else f i) = f := by
      funext i
      rw [if_neg (by omega)]
    rw [this, show m = j by omega, setRow_self q]
  | succ k ih =>
    intro j h f hk q qo
    have ho := qo.ob
    have hor := q.ob
    have hn := qo.2.2
    have h2' : nI j < nI m := nI_lt (by omega) (by omega)
    rw [u_X5_copyFrom_7]
    simp only [u_X5_copyFrom_0, u_X5_copyFrom_1, u_X5_copyFrom_2, u_X5_copyFrom_5, u_X5_copyFrom_6, u_X5_copyFrom_8, u_X5_copyFrom_9, u_X5_copyFrom_12, u_X5_copyFrom_15, u_X5_copyFrom_16, u_X5_copyFrom_17, u_X5_copyFrom_18, u_X5_copyFrom_21, u_X5_copyFrom_24, u_X5_copyFrom_27, u_X5_copyFrom_30, h2', if_true, ho, hor, m_Row_at qo, m_Row_push q, clAt_lt (show j < m by omega) hn, show j < 64 by omega, nI_of1, xgo_some, xgo_none, xgoI_none, xcat_n, xcat_i, xcat_r, xcat_z, List.length_nil, List.length_cons, List.getD_cons_zero, List.getD_cons_succ, List.set_cons_zero, List.set_cons_succ, Nat.zero_le, Nat.reduceAdd, Nat.reduceLeDiff, Nat.reduceEqDiff, reduceIte]
    rw [ih (j + 1) _ _ (by omega) (setRow_is (by omega)) (isRow_ne qo h1 h2 h3), setRow_set]
    congr 3
    funext i
    unfold va_up
    by_cases hi : i = j
    · subst hi
      rw [if_neg (by omega), if_pos rfl, if_pos (by omega)]
    · by_cases h3 : j + 1 ≤ i ∧ i < m
      · rw [if_pos h3, if_pos ⟨by omega, h3.2⟩]
      · rw [if_neg h3, if_neg hi, if_neg (by omega)]
theorem m_Row_copy {h : xH} {r o n m : Nat} {f g : Nat → Int32} (q : isRow h r n f) (qo : isRow h o m g) (h1 : o ≠ r) (h2 : o ≠ r + 1) (h3 : r ≠ o + 1) : xev 40 [.ref r, .ref o] h = some (.inl none, setRow h r m (fun i => if i < m then g i else f i)) := by
  have hor := q.ob
  have e0 : xso h r 1 (.int 0) = setRow h r 0 f := xso_row (m := 0) q
  rw [e_X5_copyFrom]
  simp only [u_X5_copyFrom_0, u_X5_copyFrom_1, u_X5_copyFrom_2, u_X5_copyFrom_5, u_X5_copyFrom_6, u_X5_copyFrom_8, u_X5_copyFrom_9, u_X5_copyFrom_12, u_X5_copyFrom_15, u_X5_copyFrom_16, u_X5_copyFrom_17, u_X5_copyFrom_18, u_X5_copyFrom_21, u_X5_copyFrom_24, u_X5_copyFrom_27, u_X5_copyFrom_30, hor, e0, xgo_some, xgo_none, xgoI_none, xcat_n, xcat_i, xcat_r, xcat_z, List.length_nil, List.length_cons, List.getD_cons_zero, List.getD_cons_succ, List.set_cons_zero, List.set_cons_succ, Nat.zero_le, Nat.reduceAdd, Nat.reduceLeDiff, Nat.reduceEqDiff, reduceIte]
  have := lp_Row_copy (m := m) h1 h2 h3 m 0 (setRow h r 0 f) f (by omega) (setRow_is (by omega)) (isRow_ne qo h1 h2 h3)
  rw [show (nI 0 : Int32) = 0 from rfl, setRow_set] at this
  rw [this]
  simp only [Nat.zero_le, true_and]
theorem lp_Row_rep {r n : Nat} {f : Nat → Int32} (a b c : Int32) (hb : b ≠ -1) (hn : n ≤ 64) : ∀ (j k m : Nat) (L : List Int32) (l6 : Option Value) (h : xH), k ≤ j → m + k = n → L.length ≤ m → isRow h r n (ovl L f) →
    xf 43 6 [some (.ref r), some (.int a), some (.int b), some (.int c), some (.int (nI L.length)), some (.int (nI m)), l6] [] h = some (.inl none, setRow h r (L ++ repI a b c (seg f m k)).length (ovl (L ++ repI a b c (seg f m k)) f)) := by
  intro j
  induction j with
  | zero =>
    intro k m L l6 h hj hk hL q
    have ho := q.ob
    have h2 : ¬ nI m < nI n := nI_nlt (by omega) (by omega)
    rw [u_X5_replacePair_6]
    simp only [u_X5_replacePair_0, u_X5_replacePair_1, u_X5_replacePair_3, u_X5_replacePair_4, u_X5_replacePair_8, u_X5_replacePair_9, u_X5_replacePair_12, u_X5_replacePair_15, u_X5_replacePair_16, u_X5_replacePair_18, u_X5_replacePair_21, u_X5_replacePair_23, u_X5_replacePair_25, u_X5_replacePair_26, u_X5_replacePair_29, u_X5_replacePair_30, u_X5_replacePair_32, u_X5_replacePair_33, u_X5_replacePair_34, u_X5_replacePair_37, u_X5_replacePair_38, u_X5_replacePair_41, u_X5_replacePair_42, u_X5_replacePair_44, u_X5_replacePair_47, u_X5_replacePair_48, u_X5_replacePair_50, u_X5_replacePair_52, u_X5_replacePair_55, u_X5_replacePair_58, u_X5_replacePair_61, u_X5_replacePair_64, u_X5_replacePair_65, u_X5_replacePair_67, u_X5_replacePair_70, h2, if_false, ho, m_Row_shorten q (show L.length ≤ n by omega), xgo_some, xgo_none, xgoI_none, xcat_n, xcat_i, xcat_r, xcat_z, List.length_nil, List.length_cons, List.getD_cons_zero, List.getD_cons_succ, List.set_cons_zero, List.set_cons_succ, Nat.zero_le, Nat.reduceAdd, Nat.reduceLeDiff, Nat.reduceEqDiff, reduceIte]
    rw [show k = 0 by omega]
    simp only [seg, repI, List.append_nil]
  | succ j ih =>
    intro k m L l6 h hj hk hL q
    have ho := q.ob
    by_cases hm : m < n
    · have h2 : nI m < nI n := nI_lt hm (by omega)
      obtain ⟨k', rfl⟩ : ∃ k', k = k' + 1 := ⟨k - 1, by omega⟩
      have hLn : L.length < n := by omega
      have ha1 : clAt n (ovl L f) (nI m) = f m := by rw [clAt_lt hm hn, ovl_out hL]
      have nxt : ∀ (v : Int32) (k2 m2 : Nat) (l6' : Option Value), k2 ≤ j → m2 + k2 = n → m < m2 → xf 43 6 [some (.ref r), some (.int a), some (.int b), some (.int c), some (.int (nI (L.length + 1))), some (.int (nI m2)), l6'] [] (setRow h r n (ovl (L ++ [v]) f)) = some (.inl none, setRow h r (L ++ v :: repI a b c (seg f m2 k2)).length (ovl (L ++ v :: repI a b c (seg f m2 k2)) f)) := by
        intro v k2 m2 l6' h1 h2 h3
        have := ih k2 m2 (L ++ [v]) l6' (setRow h r n (ovl (L ++ [v]) f)) h1 h2 (by simp; omega) (setRow_is hn)
        rw [setRow_set, List.length_append, List.length_singleton, List.append_assoc, List.singleton_append] at this
        exact this
      rw [u_X5_replacePair_6]
      simp only [u_X5_replacePair_0, u_X5_replacePair_1, u_X5_replacePair_3, u_X5_replacePair_4, u_X5_replacePair_8, u_X5_replacePair_9, u_X5_replacePair_12, u_X5_replacePair_15, u_X5_replacePair_16, u_X5_replacePair_18, u_X5_replacePair_21, u_X5_replacePair_23, u_X5_replacePair_25, u_X5_replacePair_26, u_X5_replacePair_29, u_X5_replacePair_30, u_X5_replacePair_32, u_X5_replacePair_33, u_X5_replacePair_34, u_X5_replacePair_37, u_X5_replacePair_38, u_X5_replacePair_41, u_X5_replacePair_42, u_X5_replacePair_44, u_X5_replacePair_47, u_X5_replacePair_48, u_X5_replacePair_50, u_X5_replacePair_52, u_X5_replacePair_55, u_X5_replacePair_58, u_X5_replacePair_61, u_X5_replacePair_64, u_X5_replacePair_65, u_X5_replacePair_67, u_X5_replacePair_70, h2, if_true, ho, m_Row_at q, ha1, nI_of1, m_Row_put q hLn, ovl_push, xgo_some, xgo_none, xgoI_none, xcat_n, xcat_i, xcat_r, xcat_z, List.length_nil, List.length_cons, List.getD_cons_zero, List.getD_cons_succ, List.set_cons_zero, List.set_cons_succ, Nat.zero_le, Nat.reduceAdd, Nat.reduceLeDiff, Nat.reduceEqDiff, reduceIte]
      by_cases hm2 : m + 1 < n
      · obtain ⟨k2, rfl⟩ : ∃ k2, k' = k2 + 1 := ⟨k' - 1, by omega⟩
        have ha2 : clAt n (ovl L f) (nI (m + 1)) = f (m + 1) := by rw [clAt_lt hm2 hn, ovl_out (by omega)]
        rw [ha2]
        simp only [seg, repI]
        by_cases h3 : f m = a
        · by_cases h4 : f (m + 1) = b
          · rw [if_pos h3, if_pos h4, if_pos ⟨h3, h4⟩]
            exact nxt c k2 (m + 2) _ (by omega) (by omega) (by omega)
          · rw [if_pos h3, if_neg h4, if_neg (fun z => h4 z.2)]
            exact nxt (f m) (k2 + 1) (m + 1) _ (by omega) (by omega) (by omega)
        · rw [if_neg h3, if_neg (fun z => h3 z.1)]
          exact nxt (f m) (k2 + 1) (m + 1) _ (by omega) (by omega) (by omega)
      · have ha2 : clAt n (ovl L f) (nI (m + 1)) = -1 := clAt_out (by omega) (by omega)
        have hb' : ¬ (-1 : Int32) = b := fun z => hb z.symm
        have h9 := nxt (f m) 0 (m + 1) (some (.int (f m))) (by omega) (by omega) (by omega)
        simp only [ha2, hb', if_false, ite_self, show k' = 0 by omega, seg, repI] at h9 ⊢
        exact h9
    · have h2 : ¬ nI m < nI n := nI_nlt (by omega) (by omega)
      rw [u_X5_replacePair_6]
      simp only [u_X5_replacePair_0, u_X5_replacePair_1, u_X5_replacePair_3, u_X5_replacePair_4, u_X5_replacePair_8, u_X5_replacePair_9, u_X5_replacePair_12, u_X5_replacePair_15, u_X5_replacePair_16, u_X5_replacePair_18, u_X5_replacePair_21, u_X5_replacePair_23, u_X5_replacePair_25, u_X5_replacePair_26, u_X5_replacePair_29, u_X5_replacePair_30, u_X5_replacePair_32, u_X5_replacePair_33, u_X5_replacePair_34, u_X5_replacePair_37, u_X5_replacePair_38, u_X5_replacePair_41, u_X5_replacePair_42, u_X5_replacePair_44, u_X5_replacePair_47, u_X5_replacePair_48, u_X5_replacePair_50, u_X5_replacePair_52, u_X5_replacePair_55, u_X5_replacePair_58, u_X5_replacePair_61, u_X5_replacePair_64, u_X5_replacePair_65, u_X5_replacePair_67, u_X5_replacePair_70, h2, if_false, ho, m_Row_shorten q (show L.length ≤ n by omega), xgo_some, xgo_none, xgoI_none, xcat_n, xcat_i, xcat_r, xcat_z, List.length_nil, List.length_cons, List.getD_cons_zero, List.getD_cons_succ, List.set_cons_zero, List.set_cons_succ, Nat.zero_le, Nat.reduceAdd, Nat.reduceLeDiff, Nat.reduceEqDiff, reduceIte]
      rw [show k = 0 by omega]
      simp only [seg, repI, List.append_nil]
theorem m_Row_rep {h : xH} {r n : Nat} {f : Nat → Int32} (q : isRow h r n f) (a b c : Int32) (hb : b ≠ -1) : xev 43 [.ref r, .int a, .int b, .int c] h = some (.inl none, setRow h r (repI a b c (seg f 0 n)).length (ovl (repI a b c (seg f 0 n)) f)) := by
  rw [e_X5_replacePair]
  simp only [u_X5_replacePair_0, u_X5_replacePair_1, u_X5_replacePair_3, u_X5_replacePair_4, u_X5_replacePair_8, u_X5_replacePair_9, u_X5_replacePair_12, u_X5_replacePair_15, u_X5_replacePair_16, u_X5_replacePair_18, u_X5_replacePair_21, u_X5_replacePair_23, u_X5_replacePair_25, u_X5_replacePair_26, u_X5_replacePair_29, u_X5_replacePair_30, u_X5_replacePair_32, u_X5_replacePair_33, u_X5_replacePair_34, u_X5_replacePair_37, u_X5_replacePair_38, u_X5_replacePair_41, u_X5_replacePair_42, u_X5_replacePair_44, u_X5_replacePair_47, u_X5_replacePair_48, u_X5_replacePair_50, u_X5_replacePair_52, u_X5_replacePair_55, u_X5_replacePair_58, u_X5_replacePair_61, u_X5_replacePair_64, u_X5_replacePair_65, u_X5_replacePair_67, u_X5_replacePair_70, xgo_some, xgo_none, xgoI_none, xcat_n, xcat_i, xcat_r, xcat_z, List.length_nil, List.length_cons, List.getD_cons_zero, List.getD_cons_succ, List.set_cons_zero, List.set_cons_succ, Nat.zero_le, Nat.reduceAdd, Nat.reduceLeDiff, Nat.reduceEqDiff, reduceIte]
  have := lp_Row_rep (f := f) a b c hb q.2.2 n n 0 [] none h (Nat.le_refl _) (by omega) (Nat.zero_le _) (by rw [ovl_nil]; exact q)
  rw [List.nil_append] at this
  exact this
/-- two parts in a place's stead -/
def insF (f : Nat → Int32) (p n : Nat) (a b : Int32) : Nat → Int32 := fun x => if x = p then a else if x = p + 1 then b else if p + 1 < x ∧ x ≤ n then f (x - 1) else f x
theorem lp_Row_ins {r n p : Nat} {f : Nat → Int32} (a b : Int32) (hn : n < 64) (hp : p < n) : ∀ (k j : Nat) (h : xH), p + 1 + k = j → j ≤ n → isRow h r (n + 1) (fun x => if j < x ∧ x ≤ n then f (x - 1) else va_up f n (-1) x) →
    xf 42 22 [some (.ref r), some (.int (nI p)), some (.int a), some (.int b), some (.int (nI j))] [] h = some (.inl none, setRow h r (n + 1) (insF f p n a b)) := by
  intro k
  induction k with
  | zero =>
    intro j h hk hj q
    have h2 : ¬ nI (p + 1) < nI j := nI_nlt (by omega) (by omega)
    have q2 : isRow (setRow h r (n + 1) (va_up (fun x => if j < x ∧ x ≤ n then f (x - 1) else va_up f n (-1) x) p a)) r (n + 1) (va_up (fun x => if j < x ∧ x ≤ n then f (x - 1) else va_up f n (-1) x) p a) := setRow_is (by omega)
    have ho := q.ob
    have ho2 := q2.ob
    rw [u_X5_replaceByTwo_22]
    simp only [u_X5_replaceByTwo_0, u_X5_replaceByTwo_1, u_X5_replaceByTwo_2, u_X5_replaceByTwo_5, u_X5_replaceByTwo_8, u_X5_replaceByTwo_9, u_X5_replaceByTwo_10, u_X5_replaceByTwo_11, u_X5_replaceByTwo_14, u_X5_replaceByTwo_15, u_X5_replaceByTwo_18, u_X5_replaceByTwo_19, u_X5_replaceByTwo_20, u_X5_replaceByTwo_24, u_X5_replaceByTwo_25, u_X5_replaceByTwo_26, u_X5_replaceByTwo_27, u_X5_replaceByTwo_30, u_X5_replaceByTwo_31, u_X5_replaceByTwo_33, u_X5_replaceByTwo_34, u_X5_replaceByTwo_36, u_X5_replaceByTwo_37, u_X5_replaceByTwo_38, u_X5_replaceByTwo_41, u_X5_replaceByTwo_44, u_X5_replaceByTwo_47, u_X5_replaceByTwo_50, u_X5_replaceByTwo_51, u_X5_replaceByTwo_52, u_X5_replaceByTwo_53, u_X5_replaceByTwo_56, u_X5_replaceByTwo_57, u_X5_replaceByTwo_58, u_X5_replaceByTwo_59, u_X5_replaceByTwo_60, u_X5_replaceByTwo_61, u_X5_replaceByTwo_64, nI_of1, h2, if_false, ho, ho2, m_Row_put q (show p < n + 1 by omega), m_Row_put q2 (show p + 1 < n + 1 by omega), setRow_set, xgo_some, xgo_none, xgoI_none, xcat_n, xcat_i, xcat_r, xcat_z, List.length_nil, List.length_cons, List.getD_cons_zero, List.getD_cons_succ, List.set_cons_zero, List.set_cons_succ, Nat.zero_le, Nat.reduceAdd, Nat.reduceLeDiff, Nat.reduceEqDiff, reduceIte]
    congr 3
    funext x
    dsimp only [va_up, insF]
    by_cases e1 : x = p
    · subst e1
      rw [if_neg (by omega), if_pos rfl, if_pos rfl]
    · by_cases e2 : x = p + 1
      · subst e2
        rw [if_pos rfl, if_neg (by omega), if_pos rfl]
      · rw [if_neg e2, if_neg e1, if_neg e1, if_neg e2]
        by_cases e3 : p + 1 < x ∧ x ≤ n
        · rw [if_pos e3, if_pos (by omega)]
        · rw [if_neg e3, if_neg (by omega), if_neg (by omega)]
  | succ k ih =>
    intro j h hk hj q
    have h2 : nI (p + 1) < nI j := nI_lt (by omega) (by omega)
    obtain ⟨j', rfl⟩ : ∃ j', j = j' + 1 := ⟨j - 1, by omega⟩
    have e1 : nI (j' + 1) - 1 = nI j' := nI_pred j'
    have e2 : nI (j' + 1) + -1 = nI j' := by rw [← nI_pred j']; exact (Int32.sub_eq_add_neg _ _).symm
    have e3 : clAt (n + 1) (fun x => if j' + 1 < x ∧ x ≤ n then f (x - 1) else va_up f n (-1) x) (nI j') = f j' := by
      rw [clAt_lt (by omega) (by omega), if_neg (by omega)]
      unfold va_up
      rw [if_neg (by omega)]
    have ho := q.ob
    rw [u_X5_replaceByTwo_22]
    simp only [u_X5_replaceByTwo_0, u_X5_replaceByTwo_1, u_X5_replaceByTwo_2, u_X5_replaceByTwo_5, u_X5_replaceByTwo_8, u_X5_replaceByTwo_9, u_X5_replaceByTwo_10, u_X5_replaceByTwo_11, u_X5_replaceByTwo_14, u_X5_replaceByTwo_15, u_X5_replaceByTwo_18, u_X5_replaceByTwo_19, u_X5_replaceByTwo_20, u_X5_replaceByTwo_24, u_X5_replaceByTwo_25, u_X5_replaceByTwo_26, u_X5_replaceByTwo_27, u_X5_replaceByTwo_30, u_X5_replaceByTwo_31, u_X5_replaceByTwo_33, u_X5_replaceByTwo_34, u_X5_replaceByTwo_36, u_X5_replaceByTwo_37, u_X5_replaceByTwo_38, u_X5_replaceByTwo_41, u_X5_replaceByTwo_44, u_X5_replaceByTwo_47, u_X5_replaceByTwo_50, u_X5_replaceByTwo_51, u_X5_replaceByTwo_52, u_X5_replaceByTwo_53, u_X5_replaceByTwo_56, u_X5_replaceByTwo_57, u_X5_replaceByTwo_58, u_X5_replaceByTwo_59, u_X5_replaceByTwo_60, u_X5_replaceByTwo_61, u_X5_replaceByTwo_64, nI_of1, h2, if_true, ho, e1, e2, m_Row_at q, e3, m_Row_put q (show j' + 1 < n + 1 by omega), xgo_some, xgo_none, xgoI_none, xcat_n, xcat_i, xcat_r, xcat_z, List.length_nil, List.length_cons, List.getD_cons_zero, List.getD_cons_succ, List.set_cons_zero, List.set_cons_succ, Nat.zero_le, Nat.reduceAdd, Nat.reduceLeDiff, Nat.reduceEqDiff, reduceIte]
    have q2 : isRow (setRow h r (n + 1) (va_up (fun x => if j' + 1 < x ∧ x ≤ n then f (x - 1) else va_up f n (-1) x) (j' + 1) (f j'))) r (n + 1) (fun x => if j' < x ∧ x ≤ n then f (x - 1) else va_up f n (-1) x) := by
      have : va_up (fun x => if j' + 1 < x ∧ x ≤ n then f (x - 1) else va_up f n (-1) x) (j' + 1) (f j') = (fun x => if j' < x ∧ x ≤ n then f (x - 1) else va_up f n (-1) x) := by
        funext x
        rw [va_up]
        by_cases e4 : x = j' + 1
        · subst e4
          rw [if_pos rfl, if_pos (by omega)]
          rfl
        · rw [if_neg e4]
          by_cases e5 : j' < x ∧ x ≤ n
          · rw [if_pos e5, if_pos (by omega)]
          · rw [if_neg e5, if_neg (by omega)]
      rw [this]
      exact setRow_is (by omega)
    rw [ih j' _ (by omega) (by omega) q2, setRow_set]
theorem m_Row_ins {h : xH} {r n p : Nat} {f : Nat → Int32} (q : isRow h r n f) (hn : n < 64) (hp : p < n) (a b : Int32) : xev 42 [.ref r, .int (nI p), .int a, .int b] h = some (.inl none, setRow h r (n + 1) (insF f p n a b)) := by
  have q1 : isRow (setRow h r (n + 1) (va_up f n (-1))) r (n + 1) (va_up f n (-1)) := setRow_is (by omega)
  have ho1 := q1.ob
  have ht := m_Row_takes_nI q (x := 1) (by decide)
  rw [if_pos (by omega), show (nI 1 : Int32) = 1 from rfl] at ht
  have hor := q.ob
  rw [e_X5_replaceByTwo]
  simp only [u_X5_replaceByTwo_0, u_X5_replaceByTwo_1, u_X5_replaceByTwo_2, u_X5_replaceByTwo_5, u_X5_replaceByTwo_8, u_X5_replaceByTwo_9, u_X5_replaceByTwo_10, u_X5_replaceByTwo_11, u_X5_replaceByTwo_14, u_X5_replaceByTwo_15, u_X5_replaceByTwo_18, u_X5_replaceByTwo_19, u_X5_replaceByTwo_20, u_X5_replaceByTwo_24, u_X5_replaceByTwo_25, u_X5_replaceByTwo_26, u_X5_replaceByTwo_27, u_X5_replaceByTwo_30, u_X5_replaceByTwo_31, u_X5_replaceByTwo_33, u_X5_replaceByTwo_34, u_X5_replaceByTwo_36, u_X5_replaceByTwo_37, u_X5_replaceByTwo_38, u_X5_replaceByTwo_41, u_X5_replaceByTwo_44, u_X5_replaceByTwo_47, u_X5_replaceByTwo_50, u_X5_replaceByTwo_51, u_X5_replaceByTwo_52, u_X5_replaceByTwo_53, u_X5_replaceByTwo_56, u_X5_replaceByTwo_57, u_X5_replaceByTwo_58, u_X5_replaceByTwo_59, u_X5_replaceByTwo_60, u_X5_replaceByTwo_61, u_X5_replaceByTwo_64, hor, ht, m_Row_push q, hn, ho1, nI_pred, show ¬ (1 : Int32) = 0 by decide, if_true, if_false, xgo_some, xgo_none, xgoI_none, xcat_n, xcat_i, xcat_r, xcat_z, List.length_nil, List.length_cons, List.getD_cons_zero, List.getD_cons_succ, List.set_cons_zero, List.set_cons_succ, Nat.zero_le, Nat.reduceAdd, Nat.reduceLeDiff, Nat.reduceEqDiff, reduceIte]
  have := lp_Row_ins (r := r) (f := f) a b hn hp (n - (p + 1)) n (setRow h r (n + 1) (va_up f n (-1))) (by omega) (Nat.le_refl _) (by
    have : (fun x => if n < x ∧ x ≤ n then f (x - 1) else va_up f n (-1) x) = va_up f n (-1) := by
      funext x
      rw [if_neg (by omega)]
    rw [this]; exact q1)
  rw [setRow_set] at this
  exact this
