/-! The names: an object at b, behind it four rows of cells. -/
def isNm (h : xH) (b : Nat) (fs sn dp ln : Nat → Int32) : Prop := h.1 b = some (.inr (3, [.ref (b + 1), .ref (b + 3), .ref (b + 5), .ref (b + 7)])) ∧ isCl h (b + 1) 24 fs ∧ isCl h (b + 3) 24 sn ∧ isCl h (b + 5) 24 dp ∧ isCl h (b + 7) 24 ln
def setNm (h : xH) (b : Nat) (fs sn dp ln : Nat → Int32) : xH := setCl (setCl (setCl (setCl h (b + 1) 24 fs) (b + 3) 24 sn) (b + 5) 24 dp) (b + 7) 24 ln
section NM
variable {h : xH} {b : Nat} {fs sn dp ln : Nat → Int32}
theorem isNm.ob (q : isNm h b fs sn dp ln) : xob h b = (3, [.ref (b + 1), .ref (b + 3), .ref (b + 5), .ref (b + 7)]) := by
  unfold xob
  rw [q.1]
  rfl
theorem setNm_ne {c : Nat} (h2 : c ≠ b + 2) (h4 : c ≠ b + 4) (h6 : c ≠ b + 6) (h8 : c ≠ b + 8) : (setNm h b fs sn dp ln).1 c = h.1 c := by
  unfold setNm
  rw [setCl_ne h8, setCl_ne h6, setCl_ne h4, setCl_ne h2]
theorem setNm_is {f2 s2 d2 l2 : Nat → Int32} (q : isNm h b fs sn dp ln) : isNm (setNm h b f2 s2 d2 l2) b f2 s2 d2 l2 := by
  obtain ⟨q0, q1, q2, q3, q4⟩ := q
  refine ⟨by rw [setNm_ne (by omega) (by omega) (by omega) (by omega)]; exact q0, ?_, ?_, ?_, ?_⟩
  · exact isCl_ne (isCl_ne (isCl_ne (setCl_is q1) (by omega) (by omega)) (by omega) (by omega)) (by omega) (by omega)
  · exact isCl_ne (isCl_ne (setCl_is (isCl_ne q2 (by omega) (by omega))) (by omega) (by omega)) (by omega) (by omega)
  · exact isCl_ne (setCl_is (isCl_ne (isCl_ne q3 (by omega) (by omega)) (by omega) (by omega))) (by omega) (by omega)
  · exact setCl_is (isCl_ne (isCl_ne (isCl_ne q4 (by omega) (by omega)) (by omega) (by omega)) (by omega) (by omega))
theorem setNm_self (q : isNm h b fs sn dp ln) : setNm h b fs sn dp ln = h := by
  obtain ⟨q0, q1, q2, q3, q4⟩ := q
  unfold setNm
  rw [setCl_self q1, setCl_self q2, setCl_self q3, setCl_self q4]
theorem setCl_comm {c d n m : Nat} {f g : Nat → Int32} (hcd : c ≠ d) : setCl (setCl h c n f) d m g = setCl (setCl h d m g) c n f := xup_comm _ _ _ (by omega)
theorem setNm_set {f2 s2 d2 l2 : Nat → Int32} : setNm (setNm h b fs sn dp ln) b f2 s2 d2 l2 = setNm h b f2 s2 d2 l2 := by
  unfold setNm
  rw [setCl_comm (c := b + 7) (d := b + 1) (by omega), setCl_comm (c := b + 5) (d := b + 1) (by omega), setCl_comm (c := b + 3) (d := b + 1) (by omega), setCl_set]
  rw [setCl_comm (c := b + 7) (d := b + 3) (by omega), setCl_comm (c := b + 5) (d := b + 3) (by omega), setCl_set]
  rw [setCl_comm (c := b + 7) (d := b + 5) (by omega), setCl_set, setCl_set]
theorem nm_s1 (q : isNm h b fs sn dp ln) (g : Nat → Int32) : setCl h (b + 1) 24 g = setNm h b g sn dp ln := by
  obtain ⟨q0, q1, q2, q3, q4⟩ := q
  unfold setNm
  rw [setCl_self (isCl_ne q2 (by omega) (by omega)), setCl_self (isCl_ne q3 (by omega) (by omega)), setCl_self (isCl_ne q4 (by omega) (by omega))]
theorem nm_s2 (q : isNm h b fs sn dp ln) (g : Nat → Int32) : setCl h (b + 3) 24 g = setNm h b fs g dp ln := by
  obtain ⟨q0, q1, q2, q3, q4⟩ := q
  unfold setNm
  rw [setCl_self q1, setCl_self (isCl_ne q3 (by omega) (by omega)), setCl_self (isCl_ne q4 (by omega) (by omega))]
theorem nm_s3 (q : isNm h b fs sn dp ln) (g : Nat → Int32) : setCl h (b + 5) 24 g = setNm h b fs sn g ln := by
  obtain ⟨q0, q1, q2, q3, q4⟩ := q
  unfold setNm
  rw [setCl_self q1, setCl_self q2, setCl_self (isCl_ne q4 (by omega) (by omega))]
theorem nm_s4 (q : isNm h b fs sn dp ln) (g : Nat → Int32) : setCl h (b + 7) 24 g = setNm h b fs sn dp g := by
  obtain ⟨q0, q1, q2, q3, q4⟩ := q
  unfold setNm
  rw [setCl_self q1, setCl_self q2, setCl_self q3]
end NM
theorem d24 : 0 < 24 ∧ 24 < 2 ^ 31 := by decide
def hasP (fs : Nat → Int32) (p : Int32) : Bool := if p < 8 then decide (¬ p < 0) else decide (¬ clAt 24 fs p = -1)
def b32 (x : Bool) : Int32 := if x = true then 1 else 0
theorem m_Names_hasPart {h : xH} {b : Nat} {fs sn dp ln : Nat → Int32} (q : isNm h b fs sn dp ln) (p : Int32) : xev 21 [.ref b, .int p] h = some (.inl (some (.int (b32 (hasP fs p)))), h) := by
  have ho := q.ob
  have ho1 := q.2.1.ob
  rw [e_X3_hasPart]
  unfold hasP b32
  by_cases h1 : p < 8
  · by_cases h2 : p < 0
    · simp [u_X3_hasPart_0, u_X3_hasPart_1, u_X3_hasPart_3, u_X3_hasPart_6, u_X3_hasPart_7, u_X3_hasPart_10, u_X3_hasPart_11, u_X3_hasPart_14, u_X3_hasPart_15, u_X3_hasPart_16, u_X3_hasPart_17, u_X3_hasPart_20, u_X3_hasPart_21, u_X3_hasPart_24, u_X3_hasPart_25, u_X3_hasPart_28, u_X3_hasPart_29, u_X3_hasPart_32, u_X3_hasPart_33, h1, h2]
    · simp [u_X3_hasPart_0, u_X3_hasPart_1, u_X3_hasPart_3, u_X3_hasPart_6, u_X3_hasPart_7, u_X3_hasPart_10, u_X3_hasPart_11, u_X3_hasPart_14, u_X3_hasPart_15, u_X3_hasPart_16, u_X3_hasPart_17, u_X3_hasPart_20, u_X3_hasPart_21, u_X3_hasPart_24, u_X3_hasPart_25, u_X3_hasPart_28, u_X3_hasPart_29, u_X3_hasPart_32, u_X3_hasPart_33, h1, h2]
  · have hc := m_Cells_at q.2.1 d24 p
    by_cases h2 : clAt 24 fs p = -1
    · simp only [u_X3_hasPart_0, u_X3_hasPart_1, u_X3_hasPart_3, u_X3_hasPart_6, u_X3_hasPart_7, u_X3_hasPart_10, u_X3_hasPart_11, u_X3_hasPart_14, u_X3_hasPart_15, u_X3_hasPart_16, u_X3_hasPart_17, u_X3_hasPart_20, u_X3_hasPart_21, u_X3_hasPart_24, u_X3_hasPart_25, u_X3_hasPart_28, u_X3_hasPart_29, u_X3_hasPart_32, u_X3_hasPart_33, h1, h2, ho, ho1, hc, if_true, if_false, true_or, not_true, decide_false, Bool.false_eq_true, xgo_some, xgo_none, xgoI_none, xcat_n, xcat_i, xcat_r, xcat_z, List.length_nil, List.length_cons, List.getD_cons_zero, List.getD_cons_succ, List.set_cons_zero, List.set_cons_succ, Nat.zero_le, Nat.reduceAdd, Nat.reduceLeDiff, Nat.reduceEqDiff, reduceIte]
    · simp only [u_X3_hasPart_0, u_X3_hasPart_1, u_X3_hasPart_3, u_X3_hasPart_6, u_X3_hasPart_7, u_X3_hasPart_10, u_X3_hasPart_11, u_X3_hasPart_14, u_X3_hasPart_15, u_X3_hasPart_16, u_X3_hasPart_17, u_X3_hasPart_20, u_X3_hasPart_21, u_X3_hasPart_24, u_X3_hasPart_25, u_X3_hasPart_28, u_X3_hasPart_29, u_X3_hasPart_32, u_X3_hasPart_33, h1, h2, ho, ho1, hc, if_true, if_false, or_true, not_false_iff, decide_true, xgo_some, xgo_none, xgoI_none, xcat_n, xcat_i, xcat_r, xcat_z, List.length_nil, List.length_cons, List.getD_cons_zero, List.getD_cons_succ, List.set_cons_zero, List.set_cons_succ, Nat.zero_le, Nat.reduceAdd, Nat.reduceLeDiff, Nat.reduceEqDiff, reduceIte]
def namN (fs : Nat → Int32) : Nat → Nat → Nat
  | _, 0 => 0
  | i, k + 1 => (if fs i = -1 then 0 else 1) + namN fs (i + 1) k
theorem namN_le (fs : Nat → Int32) : ∀ (k i : Nat), namN fs i k ≤ k := by
  intro k
  induction k with
  | zero => intro i; exact Nat.le_refl _
  | succ k ih =>
    intro i
    have := ih (i + 1)
    unfold namN
    split <;> omega
theorem hasP_nI {fs : Nat → Int32} {m : Nat} (h8 : 8 ≤ m) (h : m < 24) : hasP fs (nI m) = decide (¬ fs m = -1) := by
  unfold hasP
  have : ¬ nI m < 8 := nI_nlt (b := 8) h8 (by omega)
  rw [if_neg this, clAt_nI h (by decide)]
theorem lp_Names_amount {h : xH} {b : Nat} {fs sn dp ln : Nat → Int32} (q : isNm h b fs sn dp ln) : ∀ (k m u : Nat), 8 ≤ m → m + k = 24 → xf 22 5 [some (.ref b), some (.int (nI u)), some (.int (nI m))] [] h = some (.inl (some (.int (nI (u + namN fs m k)))), h) := by
  have ho := q.ob
  intro k
  induction k with
  | zero =>
    intro m u h8 hk
    have h2 : ¬ nI m < 24 := nI_nlt (b := 24) (by omega) (by omega)
    rw [u_X3_amount_5]
    simp only [u_X3_amount_0, u_X3_amount_1, u_X3_amount_2, u_X3_amount_4, u_X3_amount_6, u_X3_amount_8, u_X3_amount_11, u_X3_amount_12, u_X3_amount_13, u_X3_amount_16, u_X3_amount_19, u_X3_amount_22, u_X3_amount_25, u_X3_amount_28, u_X3_amount_29, h2, if_false, xgo_some, xgo_none, xgoI_none, xcat_n, xcat_i, xcat_r, xcat_z, List.length_nil, List.length_cons, List.getD_cons_zero, List.getD_cons_succ, List.set_cons_zero, List.set_cons_succ, Nat.zero_le, Nat.reduceAdd, Nat.reduceLeDiff, Nat.reduceEqDiff, reduceIte]
    rfl
  | succ k ih =>
    intro m u h8 hk
    have h2 : nI m < 24 := nI_lt (b := 24) (by omega) (by omega)
    have hh := m_Names_hasPart q (nI m)
    rw [hasP_nI h8 (by omega)] at hh
    rw [u_X3_amount_5]
    simp only [namN]
    by_cases h3 : fs m = -1
    · simp only [u_X3_amount_0, u_X3_amount_1, u_X3_amount_2, u_X3_amount_4, u_X3_amount_6, u_X3_amount_8, u_X3_amount_11, u_X3_amount_12, u_X3_amount_13, u_X3_amount_16, u_X3_amount_19, u_X3_amount_22, u_X3_amount_25, u_X3_amount_28, u_X3_amount_29, h2, h3, if_true, ho, hh, b32, not_true, decide_false, Bool.false_eq_true, if_false, nI_of1, xgo_some, xgo_none, xgoI_none, xcat_n, xcat_i, xcat_r, xcat_z, List.length_nil, List.length_cons, List.getD_cons_zero, List.getD_cons_succ, List.set_cons_zero, List.set_cons_succ, Nat.zero_le, Nat.reduceAdd, Nat.reduceLeDiff, Nat.reduceEqDiff, reduceIte]
      rw [ih (m + 1) u (by omega) (by omega), Nat.zero_add]
    · simp only [u_X3_amount_0, u_X3_amount_1, u_X3_amount_2, u_X3_amount_4, u_X3_amount_6, u_X3_amount_8, u_X3_amount_11, u_X3_amount_12, u_X3_amount_13, u_X3_amount_16, u_X3_amount_19, u_X3_amount_22, u_X3_amount_25, u_X3_amount_28, u_X3_amount_29, h2, h3, if_true, ho, hh, b32, not_false_iff, decide_true, if_false, show ¬ (1 : Int32) = 0 by decide, nI_of1, xgo_some, xgo_none, xgoI_none, xcat_n, xcat_i, xcat_r, xcat_z, List.length_nil, List.length_cons, List.getD_cons_zero, List.getD_cons_succ, List.set_cons_zero, List.set_cons_succ, Nat.zero_le, Nat.reduceAdd, Nat.reduceLeDiff, Nat.reduceEqDiff, reduceIte]
      rw [ih (m + 1) (u + 1) (by omega) (by omega), Nat.add_assoc]
theorem m_Names_amount {h : xH} {b : Nat} {fs sn dp ln : Nat → Int32} (q : isNm h b fs sn dp ln) : xev 22 [.ref b] h = some (.inl (some (.int (nI (namN fs 8 16)))), h) := by
  rw [e_X3_amount]
  simp only [u_X3_amount_0, u_X3_amount_1, u_X3_amount_2, u_X3_amount_4, u_X3_amount_6, u_X3_amount_8, u_X3_amount_11, u_X3_amount_12, u_X3_amount_13, u_X3_amount_16, u_X3_amount_19, u_X3_amount_22, u_X3_amount_25, u_X3_amount_28, u_X3_amount_29, xgo_some, xgo_none, xgoI_none, xcat_n, xcat_i, xcat_r, xcat_z, List.length_nil, List.length_cons, List.getD_cons_zero, List.getD_cons_succ, List.set_cons_zero, List.set_cons_succ, Nat.zero_le, Nat.reduceAdd, Nat.reduceLeDiff, Nat.reduceEqDiff, reduceIte]
  have := lp_Names_amount q 16 8 0 (by omega) (by omega)
  rw [Nat.zero_add] at this
  exact this
def xmax (a b : Int32) : Int32 := if a < b then b else a
theorem m_Names_define {h : xH} {b : Nat} {fs sn dp ln : Nat → Int32} (q : isNm h b fs sn dp ln) {m : Nat} (hm : m < 24) (a c : Int32) :
    xev 23 [.ref b, .int (nI m), .int a, .int c] h = some (.inl none, setNm h b (va_up fs m a) (va_up sn m c) (va_up dp m (1 + xmax (clAt 24 dp a) (clAt 24 dp c))) (va_up ln m (clAt 24 ln a + clAt 24 ln c))) := by
  obtain ⟨h1, e1⟩ : ∃ h1, h1 = setNm h b (va_up fs m a) sn dp ln := ⟨_, rfl⟩
  have q1 : isNm h1 b (va_up fs m a) sn dp ln := by rw [e1]; exact setNm_is q
  have p1 := m_Cells_put_nI q.2.1 d24.2 hm a
  rw [nm_s1 q, ← e1] at p1
  obtain ⟨h2, e2⟩ : ∃ h2, h2 = setNm h1 b (va_up fs m a) (va_up sn m c) dp ln := ⟨_, rfl⟩
  have q2 : isNm h2 b (va_up fs m a) (va_up sn m c) dp ln := by rw [e2]; exact setNm_is q1
  have p2 := m_Cells_put_nI q1.2.2.1 d24.2 hm c
  rw [nm_s2 q1, ← e2] at p2
  have a1 := m_Cells_at q2.2.2.2.1 d24 a
  have a2 := m_Cells_at q2.2.2.2.1 d24 c
  obtain ⟨h3, e3⟩ : ∃ h3, h3 = setNm h2 b (va_up fs m a) (va_up sn m c) (va_up dp m (1 + xmax (clAt 24 dp a) (clAt 24 dp c))) ln := ⟨_, rfl⟩
  have q3 : isNm h3 b (va_up fs m a) (va_up sn m c) (va_up dp m (1 + xmax (clAt 24 dp a) (clAt 24 dp c))) ln := by rw [e3]; exact setNm_is q2
  have p3 := m_Cells_put_nI q2.2.2.2.1 d24.2 hm (1 + xmax (clAt 24 dp a) (clAt 24 dp c))
  rw [nm_s3 q2, ← e3] at p3
  have a3 := m_Cells_at q3.2.2.2.2 d24 a
  have a4 := m_Cells_at q3.2.2.2.2 d24 c
  have p4 := m_Cells_put_nI q3.2.2.2.2 d24.2 hm (clAt 24 ln a + clAt 24 ln c)
  have e4 : ∀ X, setNm h3 b (va_up fs m a) (va_up sn m c) (va_up dp m (1 + xmax (clAt 24 dp a) (clAt 24 dp c))) X = setNm h b (va_up fs m a) (va_up sn m c) (va_up dp m (1 + xmax (clAt 24 dp a) (clAt 24 dp c))) X := by
    intro X
    rw [e3, setNm_set, e2, setNm_set, e1, setNm_set]
  rw [nm_s4 q3, e4] at p4
  have o := q.ob
  have o1 := q1.ob
  have o2 := q2.ob
  have o3 := q3.ob
  rw [e_X3_define]
  unfold xmax at p3 p4 ⊢
  simp only [u_X3_define_0, u_X3_define_1, u_X3_define_4, u_X3_define_5, u_X3_define_6, u_X3_define_9, u_X3_define_10, u_X3_define_13, u_X3_define_14, u_X3_define_15, u_X3_define_18, u_X3_define_19, u_X3_define_22, u_X3_define_23, u_X3_define_24, u_X3_define_25, u_X3_define_28, u_X3_define_29, u_X3_define_32, u_X3_define_33, u_X3_define_36, u_X3_define_37, u_X3_define_40, u_X3_define_43, u_X3_define_44, u_X3_define_47, u_X3_define_48, u_X3_define_51, u_X3_define_52, u_X3_define_53, u_X3_define_56, u_X3_define_57, u_X3_define_60, u_X3_define_61, u_X3_define_64, u_X3_define_65, u_X3_define_68, u_X3_define_69, u_X3_define_72, o, o1, o2, o3, q.2.1.ob, q1.2.2.1.ob, q2.2.2.2.1.ob, q3.2.2.2.2.ob, p1, p2, p3, p4, a1, a2, a3, a4, xgo_some, xgo_none, xgoI_none, xcat_n, xcat_i, xcat_r, xcat_z, List.length_nil, List.length_cons, List.getD_cons_zero, List.getD_cons_succ, List.set_cons_zero, List.set_cons_succ, Nat.zero_le, Nat.reduceAdd, Nat.reduceLeDiff, Nat.reduceEqDiff, reduceIte]
theorem m_Names_forget {h : xH} {b : Nat} {fs sn dp ln : Nat → Int32} (q : isNm h b fs sn dp ln) {m : Nat} (hm : m < 24) :
    xev 24 [.ref b, .int (nI m)] h = some (.inl none, setNm h b (va_up fs m (-1)) (va_up sn m (-1)) (va_up dp m 0) (va_up ln m 0)) := by
  obtain ⟨h1, e1⟩ : ∃ h1, h1 = setNm h b (va_up fs m (-1)) sn dp ln := ⟨_, rfl⟩
  have q1 : isNm h1 b (va_up fs m (-1)) sn dp ln := by rw [e1]; exact setNm_is q
  have p1 := m_Cells_put_nI q.2.1 d24.2 hm (-1)
  rw [nm_s1 q, ← e1] at p1
  obtain ⟨h2, e2⟩ : ∃ h2, h2 = setNm h1 b (va_up fs m (-1)) (va_up sn m (-1)) dp ln := ⟨_, rfl⟩
  have q2 : isNm h2 b (va_up fs m (-1)) (va_up sn m (-1)) dp ln := by rw [e2]; exact setNm_is q1
  have p2 := m_Cells_put_nI q1.2.2.1 d24.2 hm (-1)
  rw [nm_s2 q1, ← e2] at p2
  obtain ⟨h3, e3⟩ : ∃ h3, h3 = setNm h2 b (va_up fs m (-1)) (va_up sn m (-1)) (va_up dp m 0) ln := ⟨_, rfl⟩
  have q3 : isNm h3 b (va_up fs m (-1)) (va_up sn m (-1)) (va_up dp m 0) ln := by rw [e3]; exact setNm_is q2
  have p3 := m_Cells_put_nI q2.2.2.2.1 d24.2 hm 0
  rw [nm_s3 q2, ← e3] at p3
  have p4 := m_Cells_put_nI q3.2.2.2.2 d24.2 hm 0
  have e4 : ∀ X, setNm h3 b (va_up fs m (-1)) (va_up sn m (-1)) (va_up dp m 0) X = setNm h b (va_up fs m (-1)) (va_up sn m (-1)) (va_up dp m 0) X := by
    intro X
    rw [e3, setNm_set, e2, setNm_set, e1, setNm_set]
  rw [nm_s4 q3, e4] at p4
  have o := q.ob
  have o1 := q1.ob
  have o2 := q2.ob
  have o3 := q3.ob
  rw [e_X3_forget]
  simp only [u_X3_forget_0, u_X3_forget_1, u_X3_forget_4, u_X3_forget_5, u_X3_forget_6, u_X3_forget_9, u_X3_forget_10, u_X3_forget_13, u_X3_forget_14, u_X3_forget_15, u_X3_forget_18, u_X3_forget_19, u_X3_forget_22, u_X3_forget_23, u_X3_forget_24, u_X3_forget_27, u_X3_forget_28, u_X3_forget_31, u_X3_forget_32, u_X3_forget_33, u_X3_forget_36, o, o1, o2, o3, q.2.1.ob, q1.2.2.1.ob, q2.2.2.2.1.ob, q3.2.2.2.2.ob, p1, p2, p3, p4, xgo_some, xgo_none, xgoI_none, xcat_n, xcat_i, xcat_r, xcat_z, List.length_nil, List.length_cons, List.getD_cons_zero, List.getD_cons_succ, List.set_cons_zero, List.set_cons_succ, Nat.zero_le, Nat.reduceAdd, Nat.reduceLeDiff, Nat.reduceEqDiff, reduceIte]
/-- the rows copied: the first 24 -/
def cpy (f g : Nat → Int32) : Nat → Int32 := fun i => if i < 24 then g i else f i
theorem isNm_ne {h : xH} {b d : Nat} {fs sn dp ln f2 s2 d2 l2 : Nat → Int32} (q : isNm h d f2 s2 d2 l2) (hd : d + 9 ≤ b ∨ b + 9 ≤ d) : isNm (setNm h b fs sn dp ln) d f2 s2 d2 l2 := by
  obtain ⟨q0, q1, q2, q3, q4⟩ := q
  refine ⟨by rw [setNm_ne (by omega) (by omega) (by omega) (by omega)]; exact q0, ?_, ?_, ?_, ?_⟩ <;> unfold setNm
  · exact isCl_ne (isCl_ne (isCl_ne (isCl_ne q1 (by omega) (by omega)) (by omega) (by omega)) (by omega) (by omega)) (by omega) (by omega)
  · exact isCl_ne (isCl_ne (isCl_ne (isCl_ne q2 (by omega) (by omega)) (by omega) (by omega)) (by omega) (by omega)) (by omega) (by omega)
  · exact isCl_ne (isCl_ne (isCl_ne (isCl_ne q3 (by omega) (by omega)) (by omega) (by omega)) (by omega) (by omega)) (by omega) (by omega)
  · exact isCl_ne (isCl_ne (isCl_ne (isCl_ne q4 (by omega) (by omega)) (by omega) (by omega)) (by omega) (by omega)) (by omega) (by omega)
theorem m_Names_copy {h : xH} {b d : Nat} {fs sn dp ln f2 s2 d2 l2 : Nat → Int32} (q : isNm h b fs sn dp ln) (qd : isNm h d f2 s2 d2 l2) (hd : d + 9 ≤ b ∨ b + 9 ≤ d) :
    xev 20 [.ref b, .ref d] h = some (.inl none, setNm h b (cpy fs f2) (cpy sn s2) (cpy dp d2) (cpy ln l2)) := by
  obtain ⟨h1, e1⟩ : ∃ h1, h1 = setNm h b (cpy fs f2) sn dp ln := ⟨_, rfl⟩
  have q1 : isNm h1 b (cpy fs f2) sn dp ln := by rw [e1]; exact setNm_is q
  have qd1 : isNm h1 d f2 s2 d2 l2 := by rw [e1]; exact isNm_ne qd hd
  have p1 := m_Cells_copy q.2.1 qd.2.1 d24 (by omega) (by omega)
  rw [nm_s1 q] at p1
  have p1 : xev 15 [.ref (b + 1), .ref (d + 1)] h = some (.inl none, setNm h b (cpy fs f2) sn dp ln) := p1
  rw [← e1] at p1
  obtain ⟨h2, e2⟩ : ∃ h2, h2 = setNm h1 b (cpy fs f2) (cpy sn s2) dp ln := ⟨_, rfl⟩
  have q2 : isNm h2 b (cpy fs f2) (cpy sn s2) dp ln := by rw [e2]; exact setNm_is q1
  have qd2 : isNm h2 d f2 s2 d2 l2 := by rw [e2]; exact isNm_ne qd1 hd
  have p2 := m_Cells_copy q1.2.2.1 qd1.2.2.1 d24 (by omega) (by omega)
  rw [nm_s2 q1] at p2
  have p2 : xev 15 [.ref (b + 3), .ref (d + 3)] h1 = some (.inl none, setNm h1 b (cpy fs f2) (cpy sn s2) dp ln) := p2
  rw [← e2] at p2
  obtain ⟨h3, e3⟩ : ∃ h3, h3 = setNm h2 b (cpy fs f2) (cpy sn s2) (cpy dp d2) ln := ⟨_, rfl⟩
  have q3 : isNm h3 b (cpy fs f2) (cpy sn s2) (cpy dp d2) ln := by rw [e3]; exact setNm_is q2
  have qd3 : isNm h3 d f2 s2 d2 l2 := by rw [e3]; exact isNm_ne qd2 hd
  have p3 := m_Cells_copy q2.2.2.2.1 qd2.2.2.2.1 d24 (by omega) (by omega)
  rw [nm_s3 q2] at p3
  have p3 : xev 15 [.ref (b + 5), .ref (d + 5)] h2 = some (.inl none, setNm h2 b (cpy fs f2) (cpy sn s2) (cpy dp d2) ln) := p3
  rw [← e3] at p3
  have p4 := m_Cells_copy q3.2.2.2.2 qd3.2.2.2.2 d24 (by omega) (by omega)
  have e4 : ∀ X, setNm h3 b (cpy fs f2) (cpy sn s2) (cpy dp d2) X = setNm h b (cpy fs f2) (cpy sn s2) (cpy dp d2) X := by
    intro X
    rw [e3, setNm_set, e2, setNm_set, e1, setNm_set]
  rw [nm_s4 q3, e4] at p4
  have p4 : xev 15 [.ref (b + 7), .ref (d + 7)] h3 = some (.inl none, setNm h b (cpy fs f2) (cpy sn s2) (cpy dp d2) (cpy ln l2)) := p4
  have o := q.ob
  have o1 := q1.ob
  have o2 := q2.ob
  have o3 := q3.ob
  have t := qd.ob
  have t1 := qd1.ob
  have t2 := qd2.ob
  have t3 := qd3.ob
  rw [e_X3_copyFrom]
  simp only [u_X3_copyFrom_0, u_X3_copyFrom_1, u_X3_copyFrom_4, u_X3_copyFrom_5, u_X3_copyFrom_8, u_X3_copyFrom_11, u_X3_copyFrom_12, u_X3_copyFrom_15, u_X3_copyFrom_16, u_X3_copyFrom_19, u_X3_copyFrom_22, u_X3_copyFrom_23, u_X3_copyFrom_26, u_X3_copyFrom_27, u_X3_copyFrom_30, u_X3_copyFrom_33, u_X3_copyFrom_34, u_X3_copyFrom_37, u_X3_copyFrom_38, u_X3_copyFrom_41, u_X3_copyFrom_44, o, o1, o2, o3, t, t1, t2, t3, q.2.1.ob, q1.2.2.1.ob, q2.2.2.2.1.ob, q3.2.2.2.2.ob, p1, p2, p3, p4, xgo_some, xgo_none, xgoI_none, xcat_n, xcat_i, xcat_r, xcat_z, List.length_nil, List.length_cons, List.getD_cons_zero, List.getD_cons_succ, List.set_cons_zero, List.set_cons_succ, Nat.zero_le, Nat.reduceAdd, Nat.reduceLeDiff, Nat.reduceEqDiff, reduceIte]
/-- the name for a pair: from the greatest number down -/
def nmF (fs sn : Nat → Int32) (a b : Int32) : Nat → Int32 → Int32
  | 0, acc => acc
  | k + 1, acc => if fs (8 + k) = -1 then nmF fs sn a b k (nI (8 + k)) else if fs (8 + k) = a ∧ sn (8 + k) = b then nI (8 + k) else nmF fs sn a b k acc
theorem lp_Names_nameFor {h : xH} {c : Nat} {fs sn dp ln : Nat → Int32} (q : isNm h c fs sn dp ln) (a b : Int32) : ∀ (k : Nat) (acc : Int32), k ≤ 16 → xf 25 6 [some (.ref c), some (.int a), some (.int b), some (.int acc), some (.int (nI (8 + k) - 1))] [] h = some (.inl (some (.int (nmF fs sn a b k acc))), h) := by
  have ho := q.ob
  intro k
  induction k with
  | zero =>
    intro acc hk
    rw [u_X3_nameFor_6]
    simp only [u_X3_nameFor_0, u_X3_nameFor_1, u_X3_nameFor_2, u_X3_nameFor_4, u_X3_nameFor_8, u_X3_nameFor_10, u_X3_nameFor_13, u_X3_nameFor_14, u_X3_nameFor_17, u_X3_nameFor_19, u_X3_nameFor_22, u_X3_nameFor_23, u_X3_nameFor_26, u_X3_nameFor_28, u_X3_nameFor_29, u_X3_nameFor_32, u_X3_nameFor_33, u_X3_nameFor_36, u_X3_nameFor_38, u_X3_nameFor_41, u_X3_nameFor_42, u_X3_nameFor_45, u_X3_nameFor_46, u_X3_nameFor_49, u_X3_nameFor_51, u_X3_nameFor_54, u_X3_nameFor_55, u_X3_nameFor_58, u_X3_nameFor_60, u_X3_nameFor_61, u_X3_nameFor_64, u_X3_nameFor_67, u_X3_nameFor_68, show nI (8 + 0) - 1 < 8 by decide, if_true, xgo_some, xgo_none, xgoI_none, xcat_n, xcat_i, xcat_r, xcat_z, List.length_nil, List.length_cons, List.getD_cons_zero, List.getD_cons_succ, List.set_cons_zero, List.set_cons_succ, Nat.zero_le, Nat.reduceAdd, Nat.reduceLeDiff, Nat.reduceEqDiff, reduceIte]
    rfl
  | succ k ih =>
    intro acc hk
    have e1 : nI (8 + (k + 1)) - 1 = nI (8 + k) := nI_pred (8 + k)
    have h2 : ¬ nI (8 + k) < 8 := nI_nlt (b := 8) (by omega) (by omega)
    have e2 : nI (8 + k) + -1 = nI (8 + k) - 1 := (Int32.sub_eq_add_neg _ _).symm
    have a1 := m_Cells_at q.2.1 d24 (nI (8 + k))
    have a2 := m_Cells_at q.2.2.1 d24 (nI (8 + k))
    rw [clAt_nI (by omega) (by decide)] at a1 a2
    rw [e1, u_X3_nameFor_6]
    simp only [nmF]
    by_cases h3 : fs (8 + k) = -1
    · simp only [u_X3_nameFor_0, u_X3_nameFor_1, u_X3_nameFor_2, u_X3_nameFor_4, u_X3_nameFor_8, u_X3_nameFor_10, u_X3_nameFor_13, u_X3_nameFor_14, u_X3_nameFor_17, u_X3_nameFor_19, u_X3_nameFor_22, u_X3_nameFor_23, u_X3_nameFor_26, u_X3_nameFor_28, u_X3_nameFor_29, u_X3_nameFor_32, u_X3_nameFor_33, u_X3_nameFor_36, u_X3_nameFor_38, u_X3_nameFor_41, u_X3_nameFor_42, u_X3_nameFor_45, u_X3_nameFor_46, u_X3_nameFor_49, u_X3_nameFor_51, u_X3_nameFor_54, u_X3_nameFor_55, u_X3_nameFor_58, u_X3_nameFor_60, u_X3_nameFor_61, u_X3_nameFor_64, u_X3_nameFor_67, u_X3_nameFor_68, h2, if_false, ho, q.2.1.ob, a1, h3, if_true, e2, xgo_some, xgo_none, xgoI_none, xcat_n, xcat_i, xcat_r, xcat_z, List.length_nil, List.length_cons, List.getD_cons_zero, List.getD_cons_succ, List.set_cons_zero, List.set_cons_succ, Nat.zero_le, Nat.reduceAdd, Nat.reduceLeDiff, Nat.reduceEqDiff, reduceIte]
      exact ih _ (by omega)
    · by_cases h4 : fs (8 + k) = a
      · by_cases h5 : sn (8 + k) = b
        · have h3' : ¬ a = -1 := by rw [← h4]; exact h3
          simp only [u_X3_nameFor_0, u_X3_nameFor_1, u_X3_nameFor_2, u_X3_nameFor_4, u_X3_nameFor_8, u_X3_nameFor_10, u_X3_nameFor_13, u_X3_nameFor_14, u_X3_nameFor_17, u_X3_nameFor_19, u_X3_nameFor_22, u_X3_nameFor_23, u_X3_nameFor_26, u_X3_nameFor_28, u_X3_nameFor_29, u_X3_nameFor_32, u_X3_nameFor_33, u_X3_nameFor_36, u_X3_nameFor_38, u_X3_nameFor_41, u_X3_nameFor_42, u_X3_nameFor_45, u_X3_nameFor_46, u_X3_nameFor_49, u_X3_nameFor_51, u_X3_nameFor_54, u_X3_nameFor_55, u_X3_nameFor_58, u_X3_nameFor_60, u_X3_nameFor_61, u_X3_nameFor_64, u_X3_nameFor_67, u_X3_nameFor_68, h2, if_false, ho, q.2.1.ob, q.2.2.1.ob, a1, a2, h3', h4, h5, if_true, and_self, xgo_some, xgo_none, xgoI_none, xcat_n, xcat_i, xcat_r, xcat_z, List.length_nil, List.length_cons, List.getD_cons_zero, List.getD_cons_succ, List.set_cons_zero, List.set_cons_succ, Nat.zero_le, Nat.reduceAdd, Nat.reduceLeDiff, Nat.reduceEqDiff, reduceIte]
        · have h3' : ¬ a = -1 := by rw [← h4]; exact h3
          simp only [u_X3_nameFor_0, u_X3_nameFor_1, u_X3_nameFor_2, u_X3_nameFor_4, u_X3_nameFor_8, u_X3_nameFor_10, u_X3_nameFor_13, u_X3_nameFor_14, u_X3_nameFor_17, u_X3_nameFor_19, u_X3_nameFor_22, u_X3_nameFor_23, u_X3_nameFor_26, u_X3_nameFor_28, u_X3_nameFor_29, u_X3_nameFor_32, u_X3_nameFor_33, u_X3_nameFor_36, u_X3_nameFor_38, u_X3_nameFor_41, u_X3_nameFor_42, u_X3_nameFor_45, u_X3_nameFor_46, u_X3_nameFor_49, u_X3_nameFor_51, u_X3_nameFor_54, u_X3_nameFor_55, u_X3_nameFor_58, u_X3_nameFor_60, u_X3_nameFor_61, u_X3_nameFor_64, u_X3_nameFor_67, u_X3_nameFor_68, h2, if_false, ho, q.2.1.ob, q.2.2.1.ob, a1, a2, h3', h4, h5, if_true, and_false, e2, xgo_some, xgo_none, xgoI_none, xcat_n, xcat_i, xcat_r, xcat_z, List.length_nil, List.length_cons, List.getD_cons_zero, List.getD_cons_succ, List.set_cons_zero, List.set_cons_succ, Nat.zero_le, Nat.reduceAdd, Nat.reduceLeDiff, Nat.reduceEqDiff, reduceIte]
          exact ih _ (by omega)
      · simp only [u_X3_nameFor_0, u_X3_nameFor_1, u_X3_nameFor_2, u_X3_nameFor_4, u_X3_nameFor_8, u_X3_nameFor_10, u_X3_nameFor_13, u_X3_nameFor_14, u_X3_nameFor_17, u_X3_nameFor_19, u_X3_nameFor_22, u_X3_nameFor_23, u_X3_nameFor_26, u_X3_nameFor_28, u_X3_nameFor_29, u_X3_nameFor_32, u_X3_nameFor_33, u_X3_nameFor_36, u_X3_nameFor_38, u_X3_nameFor_41, u_X3_nameFor_42, u_X3_nameFor_45, u_X3_nameFor_46, u_X3_nameFor_49, u_X3_nameFor_51, u_X3_nameFor_54, u_X3_nameFor_55, u_X3_nameFor_58, u_X3_nameFor_60, u_X3_nameFor_61, u_X3_nameFor_64, u_X3_nameFor_67, u_X3_nameFor_68, h2, if_false, ho, q.2.1.ob, q.2.2.1.ob, a1, a2, h3, h4, if_true, false_and, e2, xgo_some, xgo_none, xgoI_none, xcat_n, xcat_i, xcat_r, xcat_z, List.length_nil, List.length_cons, List.getD_cons_zero, List.getD_cons_succ, List.set_cons_zero, List.set_cons_succ, Nat.zero_le, Nat.reduceAdd, Nat.reduceLeDiff, Nat.reduceEqDiff, reduceIte]
        exact ih _ (by omega)
theorem m_Names_nameFor {h : xH} {c : Nat} {fs sn dp ln : Nat → Int32} (q : isNm h c fs sn dp ln) (a b : Int32) : xev 25 [.ref c, .int a, .int b] h = some (.inl (some (.int (nmF fs sn a b 16 (-1)))), h) := by
  rw [e_X3_nameFor]
  simp only [u_X3_nameFor_0, u_X3_nameFor_1, u_X3_nameFor_2, u_X3_nameFor_4, u_X3_nameFor_8, u_X3_nameFor_10, u_X3_nameFor_13, u_X3_nameFor_14, u_X3_nameFor_17, u_X3_nameFor_19, u_X3_nameFor_22, u_X3_nameFor_23, u_X3_nameFor_26, u_X3_nameFor_28, u_X3_nameFor_29, u_X3_nameFor_32, u_X3_nameFor_33, u_X3_nameFor_36, u_X3_nameFor_38, u_X3_nameFor_41, u_X3_nameFor_42, u_X3_nameFor_45, u_X3_nameFor_46, u_X3_nameFor_49, u_X3_nameFor_51, u_X3_nameFor_54, u_X3_nameFor_55, u_X3_nameFor_58, u_X3_nameFor_60, u_X3_nameFor_61, u_X3_nameFor_64, u_X3_nameFor_67, u_X3_nameFor_68, xgo_some, xgo_none, xgoI_none, xcat_n, xcat_i, xcat_r, xcat_z, List.length_nil, List.length_cons, List.getD_cons_zero, List.getD_cons_succ, List.set_cons_zero, List.set_cons_succ, Nat.zero_le, Nat.reduceAdd, Nat.reduceLeDiff, Nat.reduceEqDiff, reduceIte]
  exact lp_Names_nameFor q a b 16 (-1) (by omega)
def usN (fs sn : Nat → Int32) (p : Int32) : Nat → Nat → Nat
  | _, 0 => 0
  | i, k + 1 => (if fs i = p then 1 else 0) + (if sn i = p then 1 else 0) + usN fs sn p (i + 1) k
theorem usN_le (fs sn : Nat → Int32) (p : Int32) : ∀ (k i : Nat), usN fs sn p i k ≤ 2 * k := by
  intro k
  induction k with
  | zero => intro i; exact Nat.le_refl _
  | succ k ih =>
    intro i
    have := ih (i + 1)
    unfold usN
    split <;> split <;> omega
theorem lp_Names_usesOf {h : xH} {b : Nat} {fs sn dp ln : Nat → Int32} (q : isNm h b fs sn dp ln) (p : Int32) : ∀ (k m u : Nat), m + k = 24 → xf 26 5 [some (.ref b), some (.int p), some (.int (nI u)), some (.int (nI m))] [] h = some (.inl (some (.int (nI (u + usN fs sn p m k)))), h) := by
  have ho := q.ob
  intro k
  induction k with
  | zero =>
    intro m u hk
    have h2 : ¬ nI m < 24 := nI_nlt (b := 24) (by omega) (by omega)
    rw [u_X3_usesOf_5]
    simp only [u_X3_usesOf_0, u_X3_usesOf_1, u_X3_usesOf_2, u_X3_usesOf_4, u_X3_usesOf_6, u_X3_usesOf_8, u_X3_usesOf_11, u_X3_usesOf_12, u_X3_usesOf_13, u_X3_usesOf_16, u_X3_usesOf_17, u_X3_usesOf_20, u_X3_usesOf_21, u_X3_usesOf_24, u_X3_usesOf_25, u_X3_usesOf_28, u_X3_usesOf_29, u_X3_usesOf_30, u_X3_usesOf_31, u_X3_usesOf_32, u_X3_usesOf_33, u_X3_usesOf_36, u_X3_usesOf_37, u_X3_usesOf_40, u_X3_usesOf_41, u_X3_usesOf_44, u_X3_usesOf_45, u_X3_usesOf_48, u_X3_usesOf_49, u_X3_usesOf_50, u_X3_usesOf_51, u_X3_usesOf_54, u_X3_usesOf_57, u_X3_usesOf_58, h2, if_false, xgo_some, xgo_none, xgoI_none, xcat_n, xcat_i, xcat_r, xcat_z, List.length_nil, List.length_cons, List.getD_cons_zero, List.getD_cons_succ, List.set_cons_zero, List.set_cons_succ, Nat.zero_le, Nat.reduceAdd, Nat.reduceLeDiff, Nat.reduceEqDiff, reduceIte]
    rfl
  | succ k ih =>
    intro m u hk
    have h2 : nI m < 24 := nI_lt (b := 24) (by omega) (by omega)
    have a1 := m_Cells_at q.2.1 d24 (nI m)
    have a2 := m_Cells_at q.2.2.1 d24 (nI m)
    rw [clAt_nI (by omega) (by decide)] at a1 a2
    have z0 : ∀ x : Nat, nI x + 0 = nI x := fun x => nI_add x 0
    rw [u_X3_usesOf_5]
    simp only [usN]
    by_cases h3 : fs m = p
    · by_cases h4 : sn m = p
      · simp only [u_X3_usesOf_0, u_X3_usesOf_1, u_X3_usesOf_2, u_X3_usesOf_4, u_X3_usesOf_6, u_X3_usesOf_8, u_X3_usesOf_11, u_X3_usesOf_12, u_X3_usesOf_13, u_X3_usesOf_16, u_X3_usesOf_17, u_X3_usesOf_20, u_X3_usesOf_21, u_X3_usesOf_24, u_X3_usesOf_25, u_X3_usesOf_28, u_X3_usesOf_29, u_X3_usesOf_30, u_X3_usesOf_31, u_X3_usesOf_32, u_X3_usesOf_33, u_X3_usesOf_36, u_X3_usesOf_37, u_X3_usesOf_40, u_X3_usesOf_41, u_X3_usesOf_44, u_X3_usesOf_45, u_X3_usesOf_48, u_X3_usesOf_49, u_X3_usesOf_50, u_X3_usesOf_51, u_X3_usesOf_54, u_X3_usesOf_57, u_X3_usesOf_58, h2, if_true, ho, q.2.1.ob, q.2.2.1.ob, a1, a2, h3, h4, nI_of1, xgo_some, xgo_none, xgoI_none, xcat_n, xcat_i, xcat_r, xcat_z, List.length_nil, List.length_cons, List.getD_cons_zero, List.getD_cons_succ, List.set_cons_zero, List.set_cons_succ, Nat.zero_le, Nat.reduceAdd, Nat.reduceLeDiff, Nat.reduceEqDiff, reduceIte]
        rw [ih (m + 1) (u + 1 + 1) (by omega)]
        exact congrArg (fun z => (some (Sum.inl (some (Value.int (nI z))), h) : Option (xR × xH))) (by omega)
      · simp only [u_X3_usesOf_0, u_X3_usesOf_1, u_X3_usesOf_2, u_X3_usesOf_4, u_X3_usesOf_6, u_X3_usesOf_8, u_X3_usesOf_11, u_X3_usesOf_12, u_X3_usesOf_13, u_X3_usesOf_16, u_X3_usesOf_17, u_X3_usesOf_20, u_X3_usesOf_21, u_X3_usesOf_24, u_X3_usesOf_25, u_X3_usesOf_28, u_X3_usesOf_29, u_X3_usesOf_30, u_X3_usesOf_31, u_X3_usesOf_32, u_X3_usesOf_33, u_X3_usesOf_36, u_X3_usesOf_37, u_X3_usesOf_40, u_X3_usesOf_41, u_X3_usesOf_44, u_X3_usesOf_45, u_X3_usesOf_48, u_X3_usesOf_49, u_X3_usesOf_50, u_X3_usesOf_51, u_X3_usesOf_54, u_X3_usesOf_57, u_X3_usesOf_58, h2, if_true, if_false, ho, q.2.1.ob, q.2.2.1.ob, a1, a2, h3, h4, nI_of1, z0, xgo_some, xgo_none, xgoI_none, xcat_n, xcat_i, xcat_r, xcat_z, List.length_nil, List.length_cons, List.getD_cons_zero, List.getD_cons_succ, List.set_cons_zero, List.set_cons_succ, Nat.zero_le, Nat.reduceAdd, Nat.reduceLeDiff, Nat.reduceEqDiff, reduceIte]
        rw [ih (m + 1) (u + 1) (by omega)]
        exact congrArg (fun z => (some (Sum.inl (some (Value.int (nI z))), h) : Option (xR × xH))) (by omega)
    · by_cases h4 : sn m = p
      · simp only [u_X3_usesOf_0, u_X3_usesOf_1, u_X3_usesOf_2, u_X3_usesOf_4, u_X3_usesOf_6, u_X3_usesOf_8, u_X3_usesOf_11, u_X3_usesOf_12, u_X3_usesOf_13, u_X3_usesOf_16, u_X3_usesOf_17, u_X3_usesOf_20, u_X3_usesOf_21, u_X3_usesOf_24, u_X3_usesOf_25, u_X3_usesOf_28, u_X3_usesOf_29, u_X3_usesOf_30, u_X3_usesOf_31, u_X3_usesOf_32, u_X3_usesOf_33, u_X3_usesOf_36, u_X3_usesOf_37, u_X3_usesOf_40, u_X3_usesOf_41, u_X3_usesOf_44, u_X3_usesOf_45, u_X3_usesOf_48, u_X3_usesOf_49, u_X3_usesOf_50, u_X3_usesOf_51, u_X3_usesOf_54, u_X3_usesOf_57, u_X3_usesOf_58, h2, if_true, if_false, ho, q.2.1.ob, q.2.2.1.ob, a1, a2, h3, h4, nI_of1, z0, xgo_some, xgo_none, xgoI_none, xcat_n, xcat_i, xcat_r, xcat_z, List.length_nil, List.length_cons, List.getD_cons_zero, List.getD_cons_succ, List.set_cons_zero, List.set_cons_succ, Nat.zero_le, Nat.reduceAdd, Nat.reduceLeDiff, Nat.reduceEqDiff, reduceIte]
        rw [ih (m + 1) (u + 1) (by omega)]
        exact congrArg (fun z => (some (Sum.inl (some (Value.int (nI z))), h) : Option (xR × xH))) (by omega)
      · simp only [u_X3_usesOf_0, u_X3_usesOf_1, u_X3_usesOf_2, u_X3_usesOf_4, u_X3_usesOf_6, u_X3_usesOf_8, u_X3_usesOf_11, u_X3_usesOf_12, u_X3_usesOf_13, u_X3_usesOf_16, u_X3_usesOf_17, u_X3_usesOf_20, u_X3_usesOf_21, u_X3_usesOf_24, u_X3_usesOf_25, u_X3_usesOf_28, u_X3_usesOf_29, u_X3_usesOf_30, u_X3_usesOf_31, u_X3_usesOf_32, u_X3_usesOf_33, u_X3_usesOf_36, u_X3_usesOf_37, u_X3_usesOf_40, u_X3_usesOf_41, u_X3_usesOf_44, u_X3_usesOf_45, u_X3_usesOf_48, u_X3_usesOf_49, u_X3_usesOf_50, u_X3_usesOf_51, u_X3_usesOf_54, u_X3_usesOf_57, u_X3_usesOf_58, h2, if_true, if_false, ho, q.2.1.ob, q.2.2.1.ob, a1, a2, h3, h4, nI_of1, z0, xgo_some, xgo_none, xgoI_none, xcat_n, xcat_i, xcat_r, xcat_z, List.length_nil, List.length_cons, List.getD_cons_zero, List.getD_cons_succ, List.set_cons_zero, List.set_cons_succ, Nat.zero_le, Nat.reduceAdd, Nat.reduceLeDiff, Nat.reduceEqDiff, reduceIte]
        rw [ih (m + 1) u (by omega)]
        exact congrArg (fun z => (some (Sum.inl (some (Value.int (nI z))), h) : Option (xR × xH))) (by omega)
theorem m_Names_usesOf {h : xH} {b : Nat} {fs sn dp ln : Nat → Int32} (q : isNm h b fs sn dp ln) (p : Int32) : xev 26 [.ref b, .int p] h = some (.inl (some (.int (nI (usN fs sn p 8 16)))), h) := by
  rw [e_X3_usesOf]
  simp only [u_X3_usesOf_0, u_X3_usesOf_1, u_X3_usesOf_2, u_X3_usesOf_4, u_X3_usesOf_6, u_X3_usesOf_8, u_X3_usesOf_11, u_X3_usesOf_12, u_X3_usesOf_13, u_X3_usesOf_16, u_X3_usesOf_17, u_X3_usesOf_20, u_X3_usesOf_21, u_X3_usesOf_24, u_X3_usesOf_25, u_X3_usesOf_28, u_X3_usesOf_29, u_X3_usesOf_30, u_X3_usesOf_31, u_X3_usesOf_32, u_X3_usesOf_33, u_X3_usesOf_36, u_X3_usesOf_37, u_X3_usesOf_40, u_X3_usesOf_41, u_X3_usesOf_44, u_X3_usesOf_45, u_X3_usesOf_48, u_X3_usesOf_49, u_X3_usesOf_50, u_X3_usesOf_51, u_X3_usesOf_54, u_X3_usesOf_57, u_X3_usesOf_58, xgo_some, xgo_none, xgoI_none, xcat_n, xcat_i, xcat_r, xcat_z, List.length_nil, List.length_cons, List.getD_cons_zero, List.getD_cons_succ, List.set_cons_zero, List.set_cons_succ, Nat.zero_le, Nat.reduceAdd, Nat.reduceLeDiff, Nat.reduceEqDiff, reduceIte]
  have := lp_Names_usesOf q p 16 8 0 (by omega)
  rw [Nat.zero_add] at this
  exact this
/-- down to the sign at a place -/
def sgN (fs sn ln : Nat → Int32) : Nat → Int32 → Int32 → Int32
  | 0, p, _ => p
  | k + 1, p, r => if p < 8 then p else if r < clAt 24 ln (clAt 24 fs p) then sgN fs sn ln k (clAt 24 fs p) r else sgN fs sn ln k (clAt 24 sn p) (r - clAt 24 ln (clAt 24 fs p))
theorem lp_Names_signIn {h : xH} {b : Nat} {fs sn dp ln : Nat → Int32} (q : isNm h b fs sn dp ln) (p0 r0 : Int32) : ∀ (k m : Nat) (p r : Int32) (l6 l7 : Option Value), m + k = 16 → xf 27 8 [some (.ref b), some (.int p0), some (.int r0), some (.int p), some (.int r), some (.int (nI m)), l6, l7] [] h = some (.inl (some (.int (sgN fs sn ln k p r))), h) := by
  have ho := q.ob
  intro k
  induction k with
  | zero =>
    intro m p r l6 l7 hk
    have h2 : ¬ nI m < 16 := nI_nlt (b := 16) (by omega) (by omega)
    rw [u_X3_signIn_8]
    simp only [u_X3_signIn_0, u_X3_signIn_1, u_X3_signIn_2, u_X3_signIn_3, u_X3_signIn_5, u_X3_signIn_6, u_X3_signIn_10, u_X3_signIn_12, u_X3_signIn_15, u_X3_signIn_16, u_X3_signIn_18, u_X3_signIn_21, u_X3_signIn_22, u_X3_signIn_25, u_X3_signIn_26, u_X3_signIn_29, u_X3_signIn_31, u_X3_signIn_32, u_X3_signIn_35, u_X3_signIn_37, u_X3_signIn_40, u_X3_signIn_42, u_X3_signIn_44, u_X3_signIn_46, u_X3_signIn_49, u_X3_signIn_51, u_X3_signIn_52, u_X3_signIn_55, u_X3_signIn_57, u_X3_signIn_59, u_X3_signIn_60, u_X3_signIn_62, u_X3_signIn_63, u_X3_signIn_66, u_X3_signIn_67, u_X3_signIn_70, u_X3_signIn_71, u_X3_signIn_74, u_X3_signIn_77, u_X3_signIn_78, h2, if_false, xgo_some, xgo_none, xgoI_none, xcat_n, xcat_i, xcat_r, xcat_z, List.length_nil, List.length_cons, List.getD_cons_zero, List.getD_cons_succ, List.set_cons_zero, List.set_cons_succ, Nat.zero_le, Nat.reduceAdd, Nat.reduceLeDiff, Nat.reduceEqDiff, reduceIte]
    rfl
  | succ k ih =>
    intro m p r l6 l7 hk
    have h2 : nI m < 16 := nI_lt (b := 16) (by omega) (by omega)
    rw [u_X3_signIn_8]
    simp only [sgN]
    by_cases h3 : p < 8
    · simp only [u_X3_signIn_0, u_X3_signIn_1, u_X3_signIn_2, u_X3_signIn_3, u_X3_signIn_5, u_X3_signIn_6, u_X3_signIn_10, u_X3_signIn_12, u_X3_signIn_15, u_X3_signIn_16, u_X3_signIn_18, u_X3_signIn_21, u_X3_signIn_22, u_X3_signIn_25, u_X3_signIn_26, u_X3_signIn_29, u_X3_signIn_31, u_X3_signIn_32, u_X3_signIn_35, u_X3_signIn_37, u_X3_signIn_40, u_X3_signIn_42, u_X3_signIn_44, u_X3_signIn_46, u_X3_signIn_49, u_X3_signIn_51, u_X3_signIn_52, u_X3_signIn_55, u_X3_signIn_57, u_X3_signIn_59, u_X3_signIn_60, u_X3_signIn_62, u_X3_signIn_63, u_X3_signIn_66, u_X3_signIn_67, u_X3_signIn_70, u_X3_signIn_71, u_X3_signIn_74, u_X3_signIn_77, u_X3_signIn_78, h2, h3, if_true, xgo_some, xgo_none, xgoI_none, xcat_n, xcat_i, xcat_r, xcat_z, List.length_nil, List.length_cons, List.getD_cons_zero, List.getD_cons_succ, List.set_cons_zero, List.set_cons_succ, Nat.zero_le, Nat.reduceAdd, Nat.reduceLeDiff, Nat.reduceEqDiff, reduceIte]
    · have a1 := m_Cells_at q.2.1 d24 p
      have a2 := m_Cells_at q.2.2.2.2 d24 (clAt 24 fs p)
      have a3 := m_Cells_at q.2.2.1 d24 p
      by_cases h4 : r < clAt 24 ln (clAt 24 fs p)
      · simp only [u_X3_signIn_0, u_X3_signIn_1, u_X3_signIn_2, u_X3_signIn_3, u_X3_signIn_5, u_X3_signIn_6, u_X3_signIn_10, u_X3_signIn_12, u_X3_signIn_15, u_X3_signIn_16, u_X3_signIn_18, u_X3_signIn_21, u_X3_signIn_22, u_X3_signIn_25, u_X3_signIn_26, u_X3_signIn_29, u_X3_signIn_31, u_X3_signIn_32, u_X3_signIn_35, u_X3_signIn_37, u_X3_signIn_40, u_X3_signIn_42, u_X3_signIn_44, u_X3_signIn_46, u_X3_signIn_49, u_X3_signIn_51, u_X3_signIn_52, u_X3_signIn_55, u_X3_signIn_57, u_X3_signIn_59, u_X3_signIn_60, u_X3_signIn_62, u_X3_signIn_63, u_X3_signIn_66, u_X3_signIn_67, u_X3_signIn_70, u_X3_signIn_71, u_X3_signIn_74, u_X3_signIn_77, u_X3_signIn_78, h2, h3, h4, if_true, if_false, ho, q.2.1.ob, q.2.2.2.2.ob, a1, a2, nI_of1, xgo_some, xgo_none, xgoI_none, xcat_n, xcat_i, xcat_r, xcat_z, List.length_nil, List.length_cons, List.getD_cons_zero, List.getD_cons_succ, List.set_cons_zero, List.set_cons_succ, Nat.zero_le, Nat.reduceAdd, Nat.reduceLeDiff, Nat.reduceEqDiff, reduceIte]
        exact ih (m + 1) _ _ _ _ (by omega)
      · simp only [u_X3_signIn_0, u_X3_signIn_1, u_X3_signIn_2, u_X3_signIn_3, u_X3_signIn_5, u_X3_signIn_6, u_X3_signIn_10, u_X3_signIn_12, u_X3_signIn_15, u_X3_signIn_16, u_X3_signIn_18, u_X3_signIn_21, u_X3_signIn_22, u_X3_signIn_25, u_X3_signIn_26, u_X3_signIn_29, u_X3_signIn_31, u_X3_signIn_32, u_X3_signIn_35, u_X3_signIn_37, u_X3_signIn_40, u_X3_signIn_42, u_X3_signIn_44, u_X3_signIn_46, u_X3_signIn_49, u_X3_signIn_51, u_X3_signIn_52, u_X3_signIn_55, u_X3_signIn_57, u_X3_signIn_59, u_X3_signIn_60, u_X3_signIn_62, u_X3_signIn_63, u_X3_signIn_66, u_X3_signIn_67, u_X3_signIn_70, u_X3_signIn_71, u_X3_signIn_74, u_X3_signIn_77, u_X3_signIn_78, h2, h3, h4, if_true, if_false, ho, q.2.1.ob, q.2.2.2.2.ob, q.2.2.1.ob, a1, a2, a3, nI_of1, xgo_some, xgo_none, xgoI_none, xcat_n, xcat_i, xcat_r, xcat_z, List.length_nil, List.length_cons, List.getD_cons_zero, List.getD_cons_succ, List.set_cons_zero, List.set_cons_succ, Nat.zero_le, Nat.reduceAdd, Nat.reduceLeDiff, Nat.reduceEqDiff, reduceIte]
        exact ih (m + 1) _ _ _ _ (by omega)
theorem m_Names_signIn {h : xH} {b : Nat} {fs sn dp ln : Nat → Int32} (q : isNm h b fs sn dp ln) (p r : Int32) : xev 27 [.ref b, .int p, .int r] h = some (.inl (some (.int (sgN fs sn ln 16 p r))), h) := by
  rw [e_X3_signIn]
  simp only [u_X3_signIn_0, u_X3_signIn_1, u_X3_signIn_2, u_X3_signIn_3, u_X3_signIn_5, u_X3_signIn_6, u_X3_signIn_10, u_X3_signIn_12, u_X3_signIn_15, u_X3_signIn_16, u_X3_signIn_18, u_X3_signIn_21, u_X3_signIn_22, u_X3_signIn_25, u_X3_signIn_26, u_X3_signIn_29, u_X3_signIn_31, u_X3_signIn_32, u_X3_signIn_35, u_X3_signIn_37, u_X3_signIn_40, u_X3_signIn_42, u_X3_signIn_44, u_X3_signIn_46, u_X3_signIn_49, u_X3_signIn_51, u_X3_signIn_52, u_X3_signIn_55, u_X3_signIn_57, u_X3_signIn_59, u_X3_signIn_60, u_X3_signIn_62, u_X3_signIn_63, u_X3_signIn_66, u_X3_signIn_67, u_X3_signIn_70, u_X3_signIn_71, u_X3_signIn_74, u_X3_signIn_77, u_X3_signIn_78, xgo_some, xgo_none, xgoI_none, xcat_n, xcat_i, xcat_r, xcat_z, List.length_nil, List.length_cons, List.getD_cons_zero, List.getD_cons_succ, List.set_cons_zero, List.set_cons_succ, Nat.zero_le, Nat.reduceAdd, Nat.reduceLeDiff, Nat.reduceEqDiff, reduceIte]
  exact lp_Names_signIn q p r 16 0 p r none none (by omega)
