/-! A state: 16 cells at b. n parts, f the row's array; fs sn dp ln the names; se the settings; ti the scratch row. -/
def isSt (h : xH) (b n : Nat) (f fs sn dp ln se : Nat → Int32) (sp go : Int32) (ti : Nat → Int32) : Prop :=
  h.1 b = some (.inr (6, [.ref (b + 1), .ref (b + 3), .ref (b + 12), .int sp, .int go, .ref (b + 14)])) ∧ isRow h (b + 1) n f ∧ isNm h (b + 3) fs sn dp ln ∧ isCl h (b + 12) 2 se ∧ isCl h (b + 14) 24 ti
/-- nothing changed but there -/
def xFr (lo hi : Nat) (h h' : xH) : Prop := h'.2 = h.2 ∧ ∀ a, (a < lo ∨ hi ≤ a) → h'.1 a = h.1 a
theorem xFr.rf {lo hi : Nat} {h : xH} : xFr lo hi h h := ⟨rfl, fun _ _ => rfl⟩
theorem xFr.tr {lo hi : Nat} {h h1 h2 : xH} (a : xFr lo hi h h1) (b : xFr lo hi h1 h2) : xFr lo hi h h2 := ⟨b.1.trans a.1, fun q hq => (b.2 q hq).trans (a.2 q hq)⟩
theorem xFr.wd {lo hi l2 h2 : Nat} {h h' : xH} (a : xFr lo hi h h') (h1 : l2 ≤ lo) (h3 : hi ≤ h2) : xFr l2 h2 h h' := ⟨a.1, fun q hq => a.2 q (by omega)⟩
theorem xFr_row {h : xH} {r n : Nat} {f : Nat → Int32} : xFr r (r + 2) h (setRow h r n f) := ⟨rfl, fun a ha => setRow_ne (by omega) (by omega)⟩
theorem xFr_cl {h : xH} {c n : Nat} {f : Nat → Int32} : xFr c (c + 2) h (setCl h c n f) := ⟨rfl, fun a ha => setCl_ne (by omega)⟩
theorem xFr_nm {h : xH} {b : Nat} {fs sn dp ln : Nat → Int32} : xFr b (b + 9) h (setNm h b fs sn dp ln) := ⟨rfl, fun a ha => setNm_ne (by omega) (by omega) (by omega) (by omega)⟩
theorem xFr_up {h : xH} {a : Nat} {e : xE} : xFr a (a + 1) h (xup h a e) := ⟨rfl, fun q hq => xup_ne _ _ (by omega)⟩
theorem isCl_fr {h h' : xH} {lo hi c n : Nat} {f : Nat → Int32} (q : isCl h c n f) (a : xFr lo hi h h') (hc : c + 2 ≤ lo ∨ hi ≤ c) : isCl h' c n f := ⟨by rw [a.2 c (by omega)]; exact q.1, by rw [a.2 (c + 1) (by omega)]; exact q.2⟩
theorem isRow_fr {h h' : xH} {lo hi c n : Nat} {f : Nat → Int32} (q : isRow h c n f) (a : xFr lo hi h h') (hc : c + 2 ≤ lo ∨ hi ≤ c) : isRow h' c n f := ⟨by rw [a.2 c (by omega)]; exact q.1, by rw [a.2 (c + 1) (by omega)]; exact q.2.1, q.2.2⟩
theorem isNm_fr {h h' : xH} {lo hi c : Nat} {fs sn dp ln : Nat → Int32} (q : isNm h c fs sn dp ln) (a : xFr lo hi h h') (hc : c + 9 ≤ lo ∨ hi ≤ c) : isNm h' c fs sn dp ln := ⟨by rw [a.2 c (by omega)]; exact q.1, isCl_fr q.2.1 a (by omega), isCl_fr q.2.2.1 a (by omega), isCl_fr q.2.2.2.1 a (by omega), isCl_fr q.2.2.2.2 a (by omega)⟩
theorem isSt_fr {h h' : xH} {lo hi b n : Nat} {f fs sn dp ln se ti : Nat → Int32} {sp go : Int32} (q : isSt h b n f fs sn dp ln se sp go ti) (a : xFr lo hi h h') (hc : b + 16 ≤ lo ∨ hi ≤ b) : isSt h' b n f fs sn dp ln se sp go ti :=
  ⟨by rw [a.2 b (by omega)]; exact q.1, isRow_fr q.2.1 a (by omega), isNm_fr q.2.2.1 a (by omega), isCl_fr q.2.2.2.1 a (by omega), isCl_fr q.2.2.2.2 a (by omega)⟩
section ST
variable {h : xH} {b n : Nat} {f fs sn dp ln se ti : Nat → Int32} {sp go : Int32}
theorem isSt.ob (q : isSt h b n f fs sn dp ln se sp go ti) : xob h b = (6, [.ref (b + 1), .ref (b + 3), .ref (b + 12), .int sp, .int go, .ref (b + 14)]) := by
  unfold xob
  rw [q.1]
  rfl
theorem st_row (q : isSt h b n f fs sn dp ln se sp go ti) {m : Nat} {g : Nat → Int32} (hm : m ≤ 64) : isSt (setRow h (b + 1) m g) b m g fs sn dp ln se sp go ti :=
  ⟨by rw [setRow_ne (by omega) (by omega)]; exact q.1, setRow_is hm, isNm_fr q.2.2.1 xFr_row (by omega), isCl_fr q.2.2.2.1 xFr_row (by omega), isCl_fr q.2.2.2.2 xFr_row (by omega)⟩
theorem st_nm (q : isSt h b n f fs sn dp ln se sp go ti) {f2 s2 d2 l2 : Nat → Int32} : isSt (setNm h (b + 3) f2 s2 d2 l2) b n f f2 s2 d2 l2 se sp go ti :=
  ⟨by rw [setNm_ne (by omega) (by omega) (by omega) (by omega)]; exact q.1, isRow_fr q.2.1 xFr_nm (by omega), setNm_is q.2.2.1, isCl_fr q.2.2.2.1 xFr_nm (by omega), isCl_fr q.2.2.2.2 xFr_nm (by omega)⟩
theorem st_se (q : isSt h b n f fs sn dp ln se sp go ti) {g : Nat → Int32} : isSt (setCl h (b + 12) 2 g) b n f fs sn dp ln g sp go ti :=
  ⟨by rw [setCl_ne (by omega)]; exact q.1, isRow_fr q.2.1 xFr_cl (by omega), isNm_fr q.2.2.1 xFr_cl (by omega), setCl_is q.2.2.2.1, isCl_fr q.2.2.2.2 xFr_cl (by omega)⟩
theorem st_ti (q : isSt h b n f fs sn dp ln se sp go ti) {g : Nat → Int32} : isSt (setCl h (b + 14) 24 g) b n f fs sn dp ln se sp go g :=
  ⟨by rw [setCl_ne (by omega)]; exact q.1, isRow_fr q.2.1 xFr_cl (by omega), isNm_fr q.2.2.1 xFr_cl (by omega), isCl_fr q.2.2.2.1 xFr_cl (by omega), setCl_is q.2.2.2.2⟩
theorem xso_sp (q : isSt h b n f fs sn dp ln se sp go ti) (v : Int32) : xso h b 3 (.int v) = xup h b (.inr (6, [.ref (b + 1), .ref (b + 3), .ref (b + 12), .int v, .int go, .ref (b + 14)])) := by
  unfold xso
  rw [q.ob]
  rfl
theorem xso_go (q : isSt h b n f fs sn dp ln se sp go ti) (v : Int32) : xso h b 4 (.int v) = xup h b (.inr (6, [.ref (b + 1), .ref (b + 3), .ref (b + 12), .int sp, .int v, .ref (b + 14)])) := by
  unfold xso
  rw [q.ob]
  rfl
theorem st_sp (q : isSt h b n f fs sn dp ln se sp go ti) (v : Int32) : isSt (xso h b 3 (.int v)) b n f fs sn dp ln se v go ti := by
  rw [xso_sp q]
  exact ⟨xup_at _ _ _, isRow_fr q.2.1 xFr_up (by omega), isNm_fr q.2.2.1 xFr_up (by omega), isCl_fr q.2.2.2.1 xFr_up (by omega), isCl_fr q.2.2.2.2 xFr_up (by omega)⟩
theorem st_go (q : isSt h b n f fs sn dp ln se sp go ti) (v : Int32) : isSt (xso h b 4 (.int v)) b n f fs sn dp ln se sp v ti := by
  rw [xso_go q]
  exact ⟨xup_at _ _ _, isRow_fr q.2.1 xFr_up (by omega), isNm_fr q.2.2.1 xFr_up (by omega), isCl_fr q.2.2.2.1 xFr_up (by omega), isCl_fr q.2.2.2.2 xFr_up (by omega)⟩
theorem xFr_sp (q : isSt h b n f fs sn dp ln se sp go ti) (v : Int32) : xFr b (b + 1) h (xso h b 3 (.int v)) := by
  rw [xso_sp q]; exact xFr_up
theorem xFr_go (q : isSt h b n f fs sn dp ln se sp go ti) (v : Int32) : xFr b (b + 1) h (xso h b 4 (.int v)) := by
  rw [xso_go q]; exact xFr_up
theorem m_State_usesOf (q : isSt h b n f fs sn dp ln se sp go ti) (p : Int32) : xev 49 [.ref b, .int p] h = some (.inl (some (.int (nI (cntI (seg f 0 n) p + usN fs sn p 8 16)))), h) := by
  rw [e_X6_usesOf]
  simp only [u_X6_usesOf_0, u_X6_usesOf_1, u_X6_usesOf_4, u_X6_usesOf_5, u_X6_usesOf_8, u_X6_usesOf_9, u_X6_usesOf_12, u_X6_usesOf_13, u_X6_usesOf_16, u_X6_usesOf_17, q.ob, q.2.1.ob, q.2.2.1.ob, m_Row_usesOf q.2.1, m_Names_usesOf q.2.2.1, nI_add, xgo_some, xgo_none, xgoI_none, xcat_n, xcat_i, xcat_r, xcat_z, List.length_nil, List.length_cons, List.getD_cons_zero, List.getD_cons_succ, List.set_cons_zero, List.set_cons_succ, Nat.zero_le, Nat.reduceAdd, Nat.reduceLeDiff, Nat.reduceEqDiff, reduceIte]
theorem m_State_size (q : isSt h b n f fs sn dp ln se sp go ti) : xev 50 [.ref b] h = some (.inl (some (.int (nI (n + 2 * namN fs 8 16)))), h) := by
  have e : ∀ k : Nat, (2 : Int32) * nI k = nI (2 * k) := by
    intro k
    rw [Nat.two_mul, ← nI_add]
    exact (by rw [show (2 : Int32) = 1 + 1 from rfl, Int32.add_mul, Int32.one_mul] : (2 : Int32) * nI k = nI k + nI k)
  rw [e_X6_size]
  simp only [u_X6_size_0, u_X6_size_1, u_X6_size_4, u_X6_size_7, u_X6_size_8, u_X6_size_9, u_X6_size_12, u_X6_size_15, u_X6_size_16, u_X6_size_17, q.ob, q.2.1.ob, q.2.2.1.ob, m_Names_amount q.2.2.1, nI_add, e, xgo_some, xgo_none, xgoI_none, xcat_n, xcat_i, xcat_r, xcat_z, List.length_nil, List.length_cons, List.getD_cons_zero, List.getD_cons_succ, List.set_cons_zero, List.set_cons_succ, Nat.zero_le, Nat.reduceAdd, Nat.reduceLeDiff, Nat.reduceEqDiff, reduceIte]
def txF (ln : Nat → Int32) : List Int32 → Int32
  | [] => 0
  | x :: t => clAt 24 ln x + txF ln t
theorem lp_State_textLength (q : isSt h b n f fs sn dp ln se sp go ti) : ∀ (k m : Nat) (u : Int32), m + k = n → xf 51 4 [some (.ref b), some (.int u), some (.int (nI m))] [] h = some (.inl (some (.int (u + txF ln (seg f m k)))), h) := by
  have hn := q.2.1.2.2
  intro k
  induction k with
  | zero =>
    intro m u hk
    have h2 : ¬ nI m < nI n := nI_nlt (by omega) (by omega)
    rw [u_X6_textLength_4]
    simp only [u_X6_textLength_0, u_X6_textLength_1, u_X6_textLength_2, u_X6_textLength_3, u_X6_textLength_5, u_X6_textLength_6, u_X6_textLength_9, u_X6_textLength_12, u_X6_textLength_15, u_X6_textLength_16, u_X6_textLength_17, u_X6_textLength_20, u_X6_textLength_23, u_X6_textLength_24, u_X6_textLength_27, u_X6_textLength_28, u_X6_textLength_31, u_X6_textLength_34, u_X6_textLength_35, u_X6_textLength_36, u_X6_textLength_39, u_X6_textLength_42, u_X6_textLength_43, q.ob, q.2.1.ob, h2, if_false, xgo_some, xgo_none, xgoI_none, xcat_n, xcat_i, xcat_r, xcat_z, List.length_nil, List.length_cons, List.getD_cons_zero, List.getD_cons_succ, List.set_cons_zero, List.set_cons_succ, Nat.zero_le, Nat.reduceAdd, Nat.reduceLeDiff, Nat.reduceEqDiff, reduceIte]
    simp only [seg, txF, Int32.add_zero]
  | succ k ih =>
    intro m u hk
    have h2 : nI m < nI n := nI_lt (by omega) (by omega)
    rw [u_X6_textLength_4]
    simp only [u_X6_textLength_0, u_X6_textLength_1, u_X6_textLength_2, u_X6_textLength_3, u_X6_textLength_5, u_X6_textLength_6, u_X6_textLength_9, u_X6_textLength_12, u_X6_textLength_15, u_X6_textLength_16, u_X6_textLength_17, u_X6_textLength_20, u_X6_textLength_23, u_X6_textLength_24, u_X6_textLength_27, u_X6_textLength_28, u_X6_textLength_31, u_X6_textLength_34, u_X6_textLength_35, u_X6_textLength_36, u_X6_textLength_39, u_X6_textLength_42, u_X6_textLength_43, q.ob, q.2.1.ob, q.2.2.1.ob, q.2.2.1.2.2.2.2.ob, h2, if_true, m_Row_at q.2.1, clAt_lt (show m < n by omega) hn, m_Cells_at q.2.2.1.2.2.2.2 d24, nI_of1, xgo_some, xgo_none, xgoI_none, xcat_n, xcat_i, xcat_r, xcat_z, List.length_nil, List.length_cons, List.getD_cons_zero, List.getD_cons_succ, List.set_cons_zero, List.set_cons_succ, Nat.zero_le, Nat.reduceAdd, Nat.reduceLeDiff, Nat.reduceEqDiff, reduceIte]
    rw [ih (m + 1) _ (by omega)]
    simp only [seg, txF, Int32.add_assoc]
theorem m_State_textLength (q : isSt h b n f fs sn dp ln se sp go ti) : xev 51 [.ref b] h = some (.inl (some (.int (txF ln (seg f 0 n)))), h) := by
  rw [e_X6_textLength]
  simp only [u_X6_textLength_0, u_X6_textLength_1, u_X6_textLength_2, u_X6_textLength_3, u_X6_textLength_5, u_X6_textLength_6, u_X6_textLength_9, u_X6_textLength_12, u_X6_textLength_15, u_X6_textLength_16, u_X6_textLength_17, u_X6_textLength_20, u_X6_textLength_23, u_X6_textLength_24, u_X6_textLength_27, u_X6_textLength_28, u_X6_textLength_31, u_X6_textLength_34, u_X6_textLength_35, u_X6_textLength_36, u_X6_textLength_39, u_X6_textLength_42, u_X6_textLength_43, xgo_some, xgo_none, xgoI_none, xcat_n, xcat_i, xcat_r, xcat_z, List.length_nil, List.length_cons, List.getD_cons_zero, List.getD_cons_succ, List.set_cons_zero, List.set_cons_succ, Nat.zero_le, Nat.reduceAdd, Nat.reduceLeDiff, Nat.reduceEqDiff, reduceIte]
  have := lp_State_textLength q n 0 0 (by omega)
  rw [Int32.zero_add] at this
  exact this
def gdF (dp : Nat → Int32) : Int32 → List Int32 → Int32
  | u, [] => u
  | u, x :: t => gdF dp (xmax u (clAt 24 dp x)) t
theorem lp_State_depth (q : isSt h b n f fs sn dp ln se sp go ti) : ∀ (k m : Nat) (u : Int32), m + k = n → xf 52 4 [some (.ref b), some (.int u), some (.int (nI m))] [] h = some (.inl (some (.int (gdF dp u (seg f m k)))), h) := by
  have hn := q.2.1.2.2
  intro k
  induction k with
  | zero =>
    intro m u hk
    have h2 : ¬ nI m < nI n := nI_nlt (by omega) (by omega)
    rw [u_X6_greatestDepth_4]
    simp only [u_X6_greatestDepth_0, u_X6_greatestDepth_1, u_X6_greatestDepth_2, u_X6_greatestDepth_3, u_X6_greatestDepth_5, u_X6_greatestDepth_6, u_X6_greatestDepth_9, u_X6_greatestDepth_12, u_X6_greatestDepth_15, u_X6_greatestDepth_16, u_X6_greatestDepth_17, u_X6_greatestDepth_20, u_X6_greatestDepth_23, u_X6_greatestDepth_24, u_X6_greatestDepth_27, u_X6_greatestDepth_28, u_X6_greatestDepth_31, u_X6_greatestDepth_34, u_X6_greatestDepth_37, u_X6_greatestDepth_38, u_X6_greatestDepth_41, u_X6_greatestDepth_44, u_X6_greatestDepth_45, q.ob, q.2.1.ob, h2, if_false, xgo_some, xgo_none, xgoI_none, xcat_n, xcat_i, xcat_r, xcat_z, List.length_nil, List.length_cons, List.getD_cons_zero, List.getD_cons_succ, List.set_cons_zero, List.set_cons_succ, Nat.zero_le, Nat.reduceAdd, Nat.reduceLeDiff, Nat.reduceEqDiff, reduceIte]
    rfl
  | succ k ih =>
    intro m u hk
    have h2 : nI m < nI n := nI_lt (by omega) (by omega)
    rw [u_X6_greatestDepth_4]
    simp only [u_X6_greatestDepth_0, u_X6_greatestDepth_1, u_X6_greatestDepth_2, u_X6_greatestDepth_3, u_X6_greatestDepth_5, u_X6_greatestDepth_6, u_X6_greatestDepth_9, u_X6_greatestDepth_12, u_X6_greatestDepth_15, u_X6_greatestDepth_16, u_X6_greatestDepth_17, u_X6_greatestDepth_20, u_X6_greatestDepth_23, u_X6_greatestDepth_24, u_X6_greatestDepth_27, u_X6_greatestDepth_28, u_X6_greatestDepth_31, u_X6_greatestDepth_34, u_X6_greatestDepth_37, u_X6_greatestDepth_38, u_X6_greatestDepth_41, u_X6_greatestDepth_44, u_X6_greatestDepth_45, q.ob, q.2.1.ob, q.2.2.1.ob, q.2.2.1.2.2.2.1.ob, h2, if_true, m_Row_at q.2.1, clAt_lt (show m < n by omega) hn, m_Cells_at q.2.2.1.2.2.2.1 d24, nI_of1, xgo_some, xgo_none, xgoI_none, xcat_n, xcat_i, xcat_r, xcat_z, List.length_nil, List.length_cons, List.getD_cons_zero, List.getD_cons_succ, List.set_cons_zero, List.set_cons_succ, Nat.zero_le, Nat.reduceAdd, Nat.reduceLeDiff, Nat.reduceEqDiff, reduceIte]
    rw [ih (m + 1) _ (by omega)]
    rfl
theorem m_State_depth (q : isSt h b n f fs sn dp ln se sp go ti) : xev 52 [.ref b] h = some (.inl (some (.int (gdF dp 0 (seg f 0 n)))), h) := by
  rw [e_X6_greatestDepth]
  simp only [u_X6_greatestDepth_0, u_X6_greatestDepth_1, u_X6_greatestDepth_2, u_X6_greatestDepth_3, u_X6_greatestDepth_5, u_X6_greatestDepth_6, u_X6_greatestDepth_9, u_X6_greatestDepth_12, u_X6_greatestDepth_15, u_X6_greatestDepth_16, u_X6_greatestDepth_17, u_X6_greatestDepth_20, u_X6_greatestDepth_23, u_X6_greatestDepth_24, u_X6_greatestDepth_27, u_X6_greatestDepth_28, u_X6_greatestDepth_31, u_X6_greatestDepth_34, u_X6_greatestDepth_37, u_X6_greatestDepth_38, u_X6_greatestDepth_41, u_X6_greatestDepth_44, u_X6_greatestDepth_45, xgo_some, xgo_none, xgoI_none, xcat_n, xcat_i, xcat_r, xcat_z, List.length_nil, List.length_cons, List.getD_cons_zero, List.getD_cons_succ, List.set_cons_zero, List.set_cons_succ, Nat.zero_le, Nat.reduceAdd, Nat.reduceLeDiff, Nat.reduceEqDiff, reduceIte]
  exact lp_State_depth q n 0 0 (by omega)
def sgR (fs sn ln : Nat → Int32) : List Int32 → Int32 → Int32
  | [], _ => -1
  | x :: t, r => if r < clAt 24 ln x then sgN fs sn ln 16 x r else sgR fs sn ln t (r - clAt 24 ln x)
theorem lp_State_signAt (q : isSt h b n f fs sn dp ln se sp go ti) (p0 : Int32) : ∀ (k m : Nat) (r : Int32) (l4 l5 : Option Value), m + k = n → xf 53 4 [some (.ref b), some (.int p0), some (.int r), some (.int (nI m)), l4, l5] [] h = some (.inl (some (.int (sgR fs sn ln (seg f m k) r))), h) := by
  have hn := q.2.1.2.2
  intro k
  induction k with
  | zero =>
    intro m r l4 l5 hk
    have h2 : ¬ nI m < nI n := nI_nlt (by omega) (by omega)
    rw [u_X6_signAt_4]
    simp only [u_X6_signAt_0, u_X6_signAt_1, u_X6_signAt_2, u_X6_signAt_3, u_X6_signAt_5, u_X6_signAt_6, u_X6_signAt_9, u_X6_signAt_12, u_X6_signAt_15, u_X6_signAt_16, u_X6_signAt_19, u_X6_signAt_20, u_X6_signAt_23, u_X6_signAt_25, u_X6_signAt_26, u_X6_signAt_29, u_X6_signAt_32, u_X6_signAt_34, u_X6_signAt_37, u_X6_signAt_39, u_X6_signAt_40, u_X6_signAt_42, u_X6_signAt_45, u_X6_signAt_46, u_X6_signAt_49, u_X6_signAt_51, u_X6_signAt_52, u_X6_signAt_55, u_X6_signAt_56, u_X6_signAt_57, u_X6_signAt_59, u_X6_signAt_60, u_X6_signAt_61, u_X6_signAt_64, u_X6_signAt_67, u_X6_signAt_68, q.ob, q.2.1.ob, h2, if_false, xgo_some, xgo_none, xgoI_none, xcat_n, xcat_i, xcat_r, xcat_z, List.length_nil, List.length_cons, List.getD_cons_zero, List.getD_cons_succ, List.set_cons_zero, List.set_cons_succ, Nat.zero_le, Nat.reduceAdd, Nat.reduceLeDiff, Nat.reduceEqDiff, reduceIte]
    rfl
  | succ k ih =>
    intro m r l4 l5 hk
    have h2 : nI m < nI n := nI_lt (by omega) (by omega)
    rw [u_X6_signAt_4]
    simp only [seg, sgR]
    by_cases h3 : r < clAt 24 ln (f m)
    · simp only [u_X6_signAt_0, u_X6_signAt_1, u_X6_signAt_2, u_X6_signAt_3, u_X6_signAt_5, u_X6_signAt_6, u_X6_signAt_9, u_X6_signAt_12, u_X6_signAt_15, u_X6_signAt_16, u_X6_signAt_19, u_X6_signAt_20, u_X6_signAt_23, u_X6_signAt_25, u_X6_signAt_26, u_X6_signAt_29, u_X6_signAt_32, u_X6_signAt_34, u_X6_signAt_37, u_X6_signAt_39, u_X6_signAt_40, u_X6_signAt_42, u_X6_signAt_45, u_X6_signAt_46, u_X6_signAt_49, u_X6_signAt_51, u_X6_signAt_52, u_X6_signAt_55, u_X6_signAt_56, u_X6_signAt_57, u_X6_signAt_59, u_X6_signAt_60, u_X6_signAt_61, u_X6_signAt_64, u_X6_signAt_67, u_X6_signAt_68, q.ob, q.2.1.ob, q.2.2.1.ob, q.2.2.1.2.2.2.2.ob, h2, h3, if_true, m_Row_at q.2.1, clAt_lt (show m < n by omega) hn, m_Cells_at q.2.2.1.2.2.2.2 d24, m_Names_signIn q.2.2.1, xgo_some, xgo_none, xgoI_none, xcat_n, xcat_i, xcat_r, xcat_z, List.length_nil, List.length_cons, List.getD_cons_zero, List.getD_cons_succ, List.set_cons_zero, List.set_cons_succ, Nat.zero_le, Nat.reduceAdd, Nat.reduceLeDiff, Nat.reduceEqDiff, reduceIte]
    · simp only [u_X6_signAt_0, u_X6_signAt_1, u_X6_signAt_2, u_X6_signAt_3, u_X6_signAt_5, u_X6_signAt_6, u_X6_signAt_9, u_X6_signAt_12, u_X6_signAt_15, u_X6_signAt_16, u_X6_signAt_19, u_X6_signAt_20, u_X6_signAt_23, u_X6_signAt_25, u_X6_signAt_26, u_X6_signAt_29, u_X6_signAt_32, u_X6_signAt_34, u_X6_signAt_37, u_X6_signAt_39, u_X6_signAt_40, u_X6_signAt_42, u_X6_signAt_45, u_X6_signAt_46, u_X6_signAt_49, u_X6_signAt_51, u_X6_signAt_52, u_X6_signAt_55, u_X6_signAt_56, u_X6_signAt_57, u_X6_signAt_59, u_X6_signAt_60, u_X6_signAt_61, u_X6_signAt_64, u_X6_signAt_67, u_X6_signAt_68, q.ob, q.2.1.ob, q.2.2.1.ob, q.2.2.1.2.2.2.2.ob, h2, h3, if_true, if_false, m_Row_at q.2.1, clAt_lt (show m < n by omega) hn, m_Cells_at q.2.2.1.2.2.2.2 d24, nI_of1, xgo_some, xgo_none, xgoI_none, xcat_n, xcat_i, xcat_r, xcat_z, List.length_nil, List.length_cons, List.getD_cons_zero, List.getD_cons_succ, List.set_cons_zero, List.set_cons_succ, Nat.zero_le, Nat.reduceAdd, Nat.reduceLeDiff, Nat.reduceEqDiff, reduceIte]
      exact ih (m + 1) _ _ _ (by omega)
theorem m_State_signAt (q : isSt h b n f fs sn dp ln se sp go ti) (p : Int32) : xev 53 [.ref b, .int p] h = some (.inl (some (.int (sgR fs sn ln (seg f 0 n) p))), h) := by
  rw [e_X6_signAt]
  simp only [u_X6_signAt_0, u_X6_signAt_1, u_X6_signAt_2, u_X6_signAt_3, u_X6_signAt_5, u_X6_signAt_6, u_X6_signAt_9, u_X6_signAt_12, u_X6_signAt_15, u_X6_signAt_16, u_X6_signAt_19, u_X6_signAt_20, u_X6_signAt_23, u_X6_signAt_25, u_X6_signAt_26, u_X6_signAt_29, u_X6_signAt_32, u_X6_signAt_34, u_X6_signAt_37, u_X6_signAt_39, u_X6_signAt_40, u_X6_signAt_42, u_X6_signAt_45, u_X6_signAt_46, u_X6_signAt_49, u_X6_signAt_51, u_X6_signAt_52, u_X6_signAt_55, u_X6_signAt_56, u_X6_signAt_57, u_X6_signAt_59, u_X6_signAt_60, u_X6_signAt_61, u_X6_signAt_64, u_X6_signAt_67, u_X6_signAt_68, xgo_some, xgo_none, xgoI_none, xcat_n, xcat_i, xcat_r, xcat_z, List.length_nil, List.length_cons, List.getD_cons_zero, List.getD_cons_succ, List.set_cons_zero, List.set_cons_succ, Nat.zero_le, Nat.reduceAdd, Nat.reduceLeDiff, Nat.reduceEqDiff, reduceIte]
  exact lp_State_signAt q p n 0 p none none (by omega)
def prF (n : Nat) (f fs sn dp ln : Nat → Int32) (p w : Int32) : Int32 :=
  if w = 0 then clAt 24 fs p else if w = 1 then clAt 24 sn p else if w = 2 then nI (cntI (seg f 0 n) p + usN fs sn p 8 16) else if w = 3 then nI (cntI (seg f 0 n) p) else if w = 4 then clAt 24 dp p else if w = 5 then clAt 24 ln p else if w = 6 then sgN fs sn ln 16 p 0 else sgN fs sn ln 16 p (clAt 24 ln p - 1)
theorem m_State_property (q : isSt h b n f fs sn dp ln se sp go ti) (p w : Int32) : xev 55 [.ref b, .int p, .int w] h = some (.inl (some (.int (prF n f fs sn dp ln p w))), h) := by
  rw [e_X6_property]
  unfold prF
  simp only [u_X6_property_0, u_X6_property_1, u_X6_property_44, u_X6_property_45, u_X6_property_48, u_X6_property_51, u_X6_property_52, u_X6_property_55, u_X6_property_56, u_X6_property_57, u_X6_property_60, u_X6_property_63, u_X6_property_64, u_X6_property_67, u_X6_property_68, u_X6_property_69, u_X6_property_70, u_X6_property_73, u_X6_property_74, u_X6_property_75, u_X6_property_78, u_X6_property_79, u_X6_property_82, u_X6_property_83, u_X6_property_84, u_X6_property_87, u_X6_property_90, u_X6_property_91, u_X6_property_94, u_X6_property_95, u_X6_property_96, u_X6_property_99, u_X6_property_102, u_X6_property_103, u_X6_property_106, u_X6_property_107, u_X6_property_108, u_X6_property_111, u_X6_property_112, u_X6_property_113, u_X6_property_116, u_X6_property_117, u_X6_property_118, u_X6_property_121, u_X6_property_122, u_X6_property_123, u_X6_property_126, u_X6_property_129, u_X6_property_130, u_X6_property_133, u_X6_property_134, u_X6_property_135, u_X6_property_138, q.ob, q.2.1.ob, q.2.2.1.ob, q.2.2.1.2.1.ob, q.2.2.1.2.2.1.ob, q.2.2.1.2.2.2.1.ob, q.2.2.1.2.2.2.2.ob, m_Row_usesOf q.2.1, m_State_usesOf q, m_Names_signIn q.2.2.1, m_Cells_at q.2.2.1.2.1 d24, m_Cells_at q.2.2.1.2.2.1 d24, m_Cells_at q.2.2.1.2.2.2.1 d24, m_Cells_at q.2.2.1.2.2.2.2 d24, xgo_some, xgo_none, xgoI_none, xcat_n, xcat_i, xcat_r, xcat_z, List.length_nil, List.length_cons, List.getD_cons_zero, List.getD_cons_succ, List.set_cons_zero, List.set_cons_succ, Nat.zero_le, Nat.reduceAdd, Nat.reduceLeDiff, Nat.reduceEqDiff, reduceIte]
  repeat' split
  all_goals rfl
def toF (n : Nat) (f fs sn dp ln : Nat → Int32) (sp go w : Int32) : Int32 :=
  if w = 0 then nI n else if w = 1 then nI (namN fs 8 16) else if w = 2 then txF ln (seg f 0 n) else if w = 3 then nI (unlI (seg f 0 n) 0 24) else if w = 4 then gdF dp 0 (seg f 0 n) else if w = 5 then nI (n + 2 * namN fs 8 16) else if w = 6 then sp else go
theorem m_State_total (q : isSt h b n f fs sn dp ln se sp go ti) (w : Int32) : xev 56 [.ref b, .int w] h = some (.inl (some (.int (toF n f fs sn dp ln sp go w))), h) := by
  rw [e_X6_total]
  unfold toF
  simp only [u_X6_total_0, u_X6_total_1, u_X6_total_44, u_X6_total_45, u_X6_total_48, u_X6_total_51, u_X6_total_52, u_X6_total_53, u_X6_total_56, u_X6_total_59, u_X6_total_60, u_X6_total_61, u_X6_total_64, u_X6_total_65, u_X6_total_66, u_X6_total_69, u_X6_total_72, u_X6_total_73, u_X6_total_74, u_X6_total_77, u_X6_total_78, u_X6_total_79, u_X6_total_82, u_X6_total_83, u_X6_total_84, u_X6_total_87, u_X6_total_88, u_X6_total_89, u_X6_total_92, q.ob, q.2.1.ob, q.2.2.1.ob, m_Names_amount q.2.2.1, m_State_textLength q, m_Row_unlike q.2.1, m_State_depth q, m_State_size q, xgo_some, xgo_none, xgoI_none, xcat_n, xcat_i, xcat_r, xcat_z, List.length_nil, List.length_cons, List.getD_cons_zero, List.getD_cons_succ, List.set_cons_zero, List.set_cons_succ, Nat.zero_le, Nat.reduceAdd, Nat.reduceLeDiff, Nat.reduceEqDiff, reduceIte]
  repeat' split
  all_goals rfl
theorem m_State_openAt (q : isSt h b n f fs sn dp ln se sp go ti) {p : Nat} (hn : n < 64) (hp : p < n) : xev 57 [.ref b, .int (nI p)] h = some (.inl none, setRow h (b + 1) (n + 1) (insF f p n (clAt 24 fs (f p)) (clAt 24 sn (f p)))) := by
  rw [e_X6_openAt]
  simp only [u_X6_openAt_0, u_X6_openAt_1, u_X6_openAt_4, u_X6_openAt_5, u_X6_openAt_8, u_X6_openAt_9, u_X6_openAt_10, u_X6_openAt_13, u_X6_openAt_14, u_X6_openAt_15, u_X6_openAt_18, u_X6_openAt_21, u_X6_openAt_22, u_X6_openAt_25, u_X6_openAt_26, u_X6_openAt_29, u_X6_openAt_32, u_X6_openAt_33, u_X6_openAt_36, u_X6_openAt_39, q.ob, q.2.1.ob, q.2.2.1.ob, q.2.2.1.2.1.ob, q.2.2.1.2.2.1.ob, m_Row_at q.2.1, clAt_lt hp (show n ≤ 64 by omega), m_Cells_at q.2.2.1.2.1 d24, m_Cells_at q.2.2.1.2.2.1 d24, m_Row_ins q.2.1 hn hp, xgo_some, xgo_none, xgoI_none, xcat_n, xcat_i, xcat_r, xcat_z, List.length_nil, List.length_cons, List.getD_cons_zero, List.getD_cons_succ, List.set_cons_zero, List.set_cons_succ, Nat.zero_le, Nat.reduceAdd, Nat.reduceLeDiff, Nat.reduceEqDiff, reduceIte]
def clgF (n : Nat) (f fs sn se : Nat → Int32) (p : Int32) : Bool := decide (nI (cntI (seg f 0 n) p) < se 1) && decide (usN fs sn p 8 16 = 0) && decide (n + cntI (seg f 0 n) p ≤ 64)
theorem m_State_canLetGo (q : isSt h b n f fs sn dp ln se sp go ti) (p : Int32) : xev 60 [.ref b, .int p] h = some (.inl (some (.int (b32 (clgF n f fs sn se p)))), h) := by
  have hc := cntI_le (seg f 0 n) p
  rw [seg_len] at hc
  have hn := q.2.1.2.2
  have hu := usN_le fs sn p 16 8
  have ht := m_Row_takes_nI q.2.1 (x := cntI (seg f 0 n) p) (by omega)
  have hs : xev 12 [.ref (b + 12), .int 1] h = some (.inl (some (.int (se 1))), h) := by
    have := m_Cells_at q.2.2.2.1 (by decide) 1
    rw [show (1 : Int32) = nI 1 from rfl, clAt_nI (by decide) (by decide)] at this
    exact this
  rw [e_X6_canLetGo]
  unfold clgF b32
  by_cases h1 : nI (cntI (seg f 0 n) p) < se 1
  · by_cases h2 : usN fs sn p 8 16 = 0
    · have h2' : nI (usN fs sn p 8 16) = 0 := by rw [h2]; rfl
      by_cases h3 : n + cntI (seg f 0 n) p ≤ 64
      · rw [if_pos h3] at ht
        simp only [u_X6_canLetGo_0, u_X6_canLetGo_1, u_X6_canLetGo_4, u_X6_canLetGo_5, u_X6_canLetGo_8, u_X6_canLetGo_9, u_X6_canLetGo_10, u_X6_canLetGo_11, u_X6_canLetGo_14, u_X6_canLetGo_15, u_X6_canLetGo_18, u_X6_canLetGo_21, u_X6_canLetGo_22, u_X6_canLetGo_25, u_X6_canLetGo_26, u_X6_canLetGo_29, u_X6_canLetGo_32, u_X6_canLetGo_33, u_X6_canLetGo_36, u_X6_canLetGo_37, u_X6_canLetGo_40, u_X6_canLetGo_43, u_X6_canLetGo_44, u_X6_canLetGo_47, u_X6_canLetGo_48, q.ob, q.2.1.ob, q.2.2.1.ob, q.2.2.2.1.ob, m_Row_usesOf q.2.1, m_Names_usesOf q.2.2.1, ht, hs, h1, h2, nI_0, h3, if_true, if_false, decide_true, Bool.and_self, or_true, show ¬ (1 : Int32) = 0 by decide, xgo_some, xgo_none, xgoI_none, xcat_n, xcat_i, xcat_r, xcat_z, List.length_nil, List.length_cons, List.getD_cons_zero, List.getD_cons_succ, List.set_cons_zero, List.set_cons_succ, Nat.zero_le, Nat.reduceAdd, Nat.reduceLeDiff, Nat.reduceEqDiff, reduceIte]
      · rw [if_neg h3] at ht
        simp only [u_X6_canLetGo_0, u_X6_canLetGo_1, u_X6_canLetGo_4, u_X6_canLetGo_5, u_X6_canLetGo_8, u_X6_canLetGo_9, u_X6_canLetGo_10, u_X6_canLetGo_11, u_X6_canLetGo_14, u_X6_canLetGo_15, u_X6_canLetGo_18, u_X6_canLetGo_21, u_X6_canLetGo_22, u_X6_canLetGo_25, u_X6_canLetGo_26, u_X6_canLetGo_29, u_X6_canLetGo_32, u_X6_canLetGo_33, u_X6_canLetGo_36, u_X6_canLetGo_37, u_X6_canLetGo_40, u_X6_canLetGo_43, u_X6_canLetGo_44, u_X6_canLetGo_47, u_X6_canLetGo_48, q.ob, q.2.1.ob, q.2.2.1.ob, q.2.2.2.1.ob, m_Row_usesOf q.2.1, m_Names_usesOf q.2.2.1, ht, hs, h1, h2, nI_0, h3, if_true, if_false, decide_true, decide_false, Bool.and_false, true_or, Bool.false_eq_true, xgo_some, xgo_none, xgoI_none, xcat_n, xcat_i, xcat_r, xcat_z, List.length_nil, List.length_cons, List.getD_cons_zero, List.getD_cons_succ, List.set_cons_zero, List.set_cons_succ, Nat.zero_le, Nat.reduceAdd, Nat.reduceLeDiff, Nat.reduceEqDiff, reduceIte]
    · have h2' : ¬ nI (usN fs sn p 8 16) = 0 := nI_ne0 (by omega) (by omega)
      simp only [u_X6_canLetGo_0, u_X6_canLetGo_1, u_X6_canLetGo_4, u_X6_canLetGo_5, u_X6_canLetGo_8, u_X6_canLetGo_9, u_X6_canLetGo_10, u_X6_canLetGo_11, u_X6_canLetGo_14, u_X6_canLetGo_15, u_X6_canLetGo_18, u_X6_canLetGo_21, u_X6_canLetGo_22, u_X6_canLetGo_25, u_X6_canLetGo_26, u_X6_canLetGo_29, u_X6_canLetGo_32, u_X6_canLetGo_33, u_X6_canLetGo_36, u_X6_canLetGo_37, u_X6_canLetGo_40, u_X6_canLetGo_43, u_X6_canLetGo_44, u_X6_canLetGo_47, u_X6_canLetGo_48, q.ob, q.2.1.ob, q.2.2.1.ob, q.2.2.2.1.ob, m_Row_usesOf q.2.1, m_Names_usesOf q.2.2.1, hs, h1, h2, h2', if_true, if_false, decide_true, decide_false, Bool.and_false, Bool.false_and, true_or, Bool.false_eq_true, xgo_some, xgo_none, xgoI_none, xcat_n, xcat_i, xcat_r, xcat_z, List.length_nil, List.length_cons, List.getD_cons_zero, List.getD_cons_succ, List.set_cons_zero, List.set_cons_succ, Nat.zero_le, Nat.reduceAdd, Nat.reduceLeDiff, Nat.reduceEqDiff, reduceIte]
  · simp only [u_X6_canLetGo_0, u_X6_canLetGo_1, u_X6_canLetGo_4, u_X6_canLetGo_5, u_X6_canLetGo_8, u_X6_canLetGo_9, u_X6_canLetGo_10, u_X6_canLetGo_11, u_X6_canLetGo_14, u_X6_canLetGo_15, u_X6_canLetGo_18, u_X6_canLetGo_21, u_X6_canLetGo_22, u_X6_canLetGo_25, u_X6_canLetGo_26, u_X6_canLetGo_29, u_X6_canLetGo_32, u_X6_canLetGo_33, u_X6_canLetGo_36, u_X6_canLetGo_37, u_X6_canLetGo_40, u_X6_canLetGo_43, u_X6_canLetGo_44, u_X6_canLetGo_47, u_X6_canLetGo_48, q.ob, q.2.1.ob, q.2.2.2.1.ob, m_Row_usesOf q.2.1, hs, h1, if_false, decide_false, Bool.false_and, true_or, Bool.false_eq_true, xgo_some, xgo_none, xgoI_none, xcat_n, xcat_i, xcat_r, xcat_z, List.length_nil, List.length_cons, List.getD_cons_zero, List.getD_cons_succ, List.set_cons_zero, List.set_cons_succ, Nat.zero_le, Nat.reduceAdd, Nat.reduceLeDiff, Nat.reduceEqDiff, reduceIte]
/-- the lowest name that can be let go, from m on -/
def lowF (n : Nat) (f fs sn se : Nat → Int32) : Nat → Nat → Int32
  | _, 0 => -1
  | m, k + 1 => if hasP fs (nI m) = true ∧ clgF n f fs sn se (nI m) = true then nI m else lowF n f fs sn se (m + 1) k
theorem lp_State_low (q : isSt h b n f fs sn dp ln se sp go ti) : ∀ (k m : Nat), m + k = 24 → xf 59 3 [some (.ref b), some (.int (nI m))] [] h = some (.inl (some (.int (lowF n f fs sn se m k))), h) := by
  intro k
  induction k with
  | zero =>
    intro m hk
    have h2 : ¬ nI m < 24 := nI_nlt (b := 24) (by omega) (by omega)
    rw [u_X6_lowestToLetGo_3]
    simp only [u_X6_lowestToLetGo_0, u_X6_lowestToLetGo_2, u_X6_lowestToLetGo_4, u_X6_lowestToLetGo_6, u_X6_lowestToLetGo_9, u_X6_lowestToLetGo_10, u_X6_lowestToLetGo_13, u_X6_lowestToLetGo_14, u_X6_lowestToLetGo_17, u_X6_lowestToLetGo_20, u_X6_lowestToLetGo_21, u_X6_lowestToLetGo_22, u_X6_lowestToLetGo_25, u_X6_lowestToLetGo_28, u_X6_lowestToLetGo_29, u_X6_lowestToLetGo_30, u_X6_lowestToLetGo_33, u_X6_lowestToLetGo_36, u_X6_lowestToLetGo_37, h2, if_false, xgo_some, xgo_none, xgoI_none, xcat_n, xcat_i, xcat_r, xcat_z, List.length_nil, List.length_cons, List.getD_cons_zero, List.getD_cons_succ, List.set_cons_zero, List.set_cons_succ, Nat.zero_le, Nat.reduceAdd, Nat.reduceLeDiff, Nat.reduceEqDiff, reduceIte]
    rfl
  | succ k ih =>
    intro m hk
    have h2 : nI m < 24 := nI_lt (b := 24) (by omega) (by omega)
    have e1 := m_Names_hasPart q.2.2.1 (nI m)
    have e2 := m_State_canLetGo q (nI m)
    unfold b32 at e1 e2
    rw [u_X6_lowestToLetGo_3]
    simp only [lowF]
    by_cases h3 : hasP fs (nI m) = true
    · by_cases h4 : clgF n f fs sn se (nI m) = true
      · simp only [u_X6_lowestToLetGo_0, u_X6_lowestToLetGo_2, u_X6_lowestToLetGo_4, u_X6_lowestToLetGo_6, u_X6_lowestToLetGo_9, u_X6_lowestToLetGo_10, u_X6_lowestToLetGo_13, u_X6_lowestToLetGo_14, u_X6_lowestToLetGo_17, u_X6_lowestToLetGo_20, u_X6_lowestToLetGo_21, u_X6_lowestToLetGo_22, u_X6_lowestToLetGo_25, u_X6_lowestToLetGo_28, u_X6_lowestToLetGo_29, u_X6_lowestToLetGo_30, u_X6_lowestToLetGo_33, u_X6_lowestToLetGo_36, u_X6_lowestToLetGo_37, q.ob, q.2.2.1.ob, e1, e2, h2, h3, h4, if_true, if_false, and_self, show ¬ (1 : Int32) = 0 by decide, xgo_some, xgo_none, xgoI_none, xcat_n, xcat_i, xcat_r, xcat_z, List.length_nil, List.length_cons, List.getD_cons_zero, List.getD_cons_succ, List.set_cons_zero, List.set_cons_succ, Nat.zero_le, Nat.reduceAdd, Nat.reduceLeDiff, Nat.reduceEqDiff, reduceIte]
      · simp only [u_X6_lowestToLetGo_0, u_X6_lowestToLetGo_2, u_X6_lowestToLetGo_4, u_X6_lowestToLetGo_6, u_X6_lowestToLetGo_9, u_X6_lowestToLetGo_10, u_X6_lowestToLetGo_13, u_X6_lowestToLetGo_14, u_X6_lowestToLetGo_17, u_X6_lowestToLetGo_20, u_X6_lowestToLetGo_21, u_X6_lowestToLetGo_22, u_X6_lowestToLetGo_25, u_X6_lowestToLetGo_28, u_X6_lowestToLetGo_29, u_X6_lowestToLetGo_30, u_X6_lowestToLetGo_33, u_X6_lowestToLetGo_36, u_X6_lowestToLetGo_37, q.ob, q.2.2.1.ob, e1, e2, h2, h3, h4, if_true, if_false, and_false, show ¬ (1 : Int32) = 0 by decide, nI_of1, xgo_some, xgo_none, xgoI_none, xcat_n, xcat_i, xcat_r, xcat_z, List.length_nil, List.length_cons, List.getD_cons_zero, List.getD_cons_succ, List.set_cons_zero, List.set_cons_succ, Nat.zero_le, Nat.reduceAdd, Nat.reduceLeDiff, Nat.reduceEqDiff, reduceIte]
        exact ih (m + 1) (by omega)
    · simp only [u_X6_lowestToLetGo_0, u_X6_lowestToLetGo_2, u_X6_lowestToLetGo_4, u_X6_lowestToLetGo_6, u_X6_lowestToLetGo_9, u_X6_lowestToLetGo_10, u_X6_lowestToLetGo_13, u_X6_lowestToLetGo_14, u_X6_lowestToLetGo_17, u_X6_lowestToLetGo_20, u_X6_lowestToLetGo_21, u_X6_lowestToLetGo_22, u_X6_lowestToLetGo_25, u_X6_lowestToLetGo_28, u_X6_lowestToLetGo_29, u_X6_lowestToLetGo_30, u_X6_lowestToLetGo_33, u_X6_lowestToLetGo_36, u_X6_lowestToLetGo_37, q.ob, q.2.2.1.ob, e1, h2, h3, if_true, if_false, false_and, nI_of1, xgo_some, xgo_none, xgoI_none, xcat_n, xcat_i, xcat_r, xcat_z, List.length_nil, List.length_cons, List.getD_cons_zero, List.getD_cons_succ, List.set_cons_zero, List.set_cons_succ, Nat.zero_le, Nat.reduceAdd, Nat.reduceLeDiff, Nat.reduceEqDiff, reduceIte]
      exact ih (m + 1) (by omega)
theorem m_State_low (q : isSt h b n f fs sn dp ln se sp go ti) : xev 59 [.ref b] h = some (.inl (some (.int (lowF n f fs sn se 8 16))), h) := by
  rw [e_X6_lowestToLetGo]
  simp only [u_X6_lowestToLetGo_0, u_X6_lowestToLetGo_2, u_X6_lowestToLetGo_4, u_X6_lowestToLetGo_6, u_X6_lowestToLetGo_9, u_X6_lowestToLetGo_10, u_X6_lowestToLetGo_13, u_X6_lowestToLetGo_14, u_X6_lowestToLetGo_17, u_X6_lowestToLetGo_20, u_X6_lowestToLetGo_21, u_X6_lowestToLetGo_22, u_X6_lowestToLetGo_25, u_X6_lowestToLetGo_28, u_X6_lowestToLetGo_29, u_X6_lowestToLetGo_30, u_X6_lowestToLetGo_33, u_X6_lowestToLetGo_36, u_X6_lowestToLetGo_37, xgo_some, xgo_none, xgoI_none, xcat_n, xcat_i, xcat_r, xcat_z, List.length_nil, List.length_cons, List.getD_cons_zero, List.getD_cons_succ, List.set_cons_zero, List.set_cons_succ, Nat.zero_le, Nat.reduceAdd, Nat.reduceLeDiff, Nat.reduceEqDiff, reduceIte]
  exact lp_State_low q 16 8 (by omega)
end ST
