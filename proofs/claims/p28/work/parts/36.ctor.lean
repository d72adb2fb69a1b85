/-! What the constructors make. -/
section CT
/-- made: k cells, s slots; nothing below lo changed -/
def xMk (lo k s : Nat) (h h' : xH) : Prop := h'.2.1 = h.2.1 + k ∧ h'.2.2.1 = h.2.2.1 + k ∧ h'.2.2.2 = h.2.2.2 + s ∧ ∀ a, a < lo → h'.1 a = h.1 a
theorem xMk.tr {lo k s k2 s2 : Nat} {h h1 h' : xH} (a : xMk lo k s h h1) (b : xMk lo k2 s2 h1 h') : xMk lo (k + k2) (s + s2) h h' :=
  ⟨by rw [b.1, a.1, Nat.add_assoc], by rw [b.2.1, a.2.1, Nat.add_assoc], by rw [b.2.2.1, a.2.2.1, Nat.add_assoc], fun c hc => (b.2.2.2 c hc).trans (a.2.2.2 c hc)⟩
theorem xMk.fr {lo lo2 hi : Nat} {h h' : xH} (w : xFr lo2 hi h h') (hl : lo ≤ lo2) : xMk lo 0 0 h h' := by
  have e := w.1
  exact ⟨by rw [e]; rfl, by rw [e]; rfl, by rw [e]; rfl, fun a ha => w.2 a (by omega)⟩
theorem xMk.wd {lo lo2 k s : Nat} {h h' : xH} (w : xMk lo2 k s h h') (hl : lo ≤ lo2) : xMk lo k s h h' := ⟨w.1, w.2.1, w.2.2.1, fun a ha => w.2.2.2 a (by omega)⟩
theorem xMk_new {lo n : Nat} {h : xH} (e : xE) (hl : lo ≤ h.2.1) : xMk lo 1 n h (xnew h e n) := ⟨rfl, rfl, rfl, fun a ha => by unfold xnew; exact if_neg (by omega)⟩
theorem ob_of {h : xH} {b c : Nat} {fs : List Value} (e : h.1 b = some (.inr (c, fs))) (hl : fs.length = xN c) : xob h b = (c, fs) := by
  unfold xob
  rw [e]
  exact if_pos hl
theorem so_at {h : xH} {b c k : Nat} {fs : List Value} (v : Value) (e : h.1 b = some (.inr (c, fs))) (hl : fs.length = xN c) : (xso h b k v).1 b = some (.inr (c, fs.set k v)) := by
  unfold xso
  rw [ob_of e hl]
  exact xup_at _ _ _
theorem new_at (h : xH) (e : xE) (n : Nat) : (xnew h e n).1 h.2.1 = some e := by
  unfold xnew
  exact if_pos rfl
theorem isCl_G {h h' : xH} {lo k s c n : Nat} {f : Nat → Int32} (q : isCl h c n f) (w : xMk lo k s h h') (hc : c + 2 ≤ lo) : isCl h' c n f := ⟨by rw [w.2.2.2 c (by omega)]; exact q.1, by rw [w.2.2.2 (c + 1) (by omega)]; exact q.2⟩
theorem isRow_G {h h' : xH} {lo k s c n : Nat} {f : Nat → Int32} (q : isRow h c n f) (w : xMk lo k s h h') (hc : c + 2 ≤ lo) : isRow h' c n f := ⟨by rw [w.2.2.2 c (by omega)]; exact q.1, by rw [w.2.2.2 (c + 1) (by omega)]; exact q.2.1, q.2.2⟩
theorem k_Cells {h : xH} {N n : Nat} (hN : h.2.1 = N) (h0 : N ≠ 0) (hn : n ≤ 1000) : ∃ h', xev 11 [.ref N, .int (nI n)] (xnew h (.inr (1, xdef 1)) 1) = some (.inl none, h') ∧ isCl h' N n (fun _ => 0) ∧ xMk N 2 (1 + n) h h' := by
  subst hN
  obtain ⟨h1, e1⟩ : ∃ h1, h1 = xnew h (.inr (1, xdef 1)) 1 := ⟨_, rfl⟩
  have g1 : xMk h.2.1 1 1 h h1 := by rw [e1]; exact xMk_new _ (Nat.le_refl _)
  have c1 : h1.1 h.2.1 = some (.inr (1, [.null])) := by rw [e1]; exact new_at _ _ _
  have n1 : h1.2.1 = h.2.1 + 1 := g1.1
  obtain ⟨h2, e2⟩ : ∃ h2, h2 = xnew h1 (.inl (0, n, .inl (fun _ => 0))) n := ⟨_, rfl⟩
  have g2 : xMk h.2.1 1 n h1 h2 := by rw [e2]; exact xMk_new _ (by omega)
  have c2 : h2.1 h.2.1 = some (.inr (1, [.null])) := by
    have g3 : xMk (h.2.1 + 1) 1 n h1 h2 := by rw [e2]; exact xMk_new _ (by omega)
    rw [g3.2.2.2 _ (by omega)]; exact c1
  have a2 : h2.1 (h.2.1 + 1) = some (.inl (0, n, .inl (fun _ => 0))) := by rw [e2, ← n1]; exact new_at _ _ _
  have o2 := ob_of c2 rfl
  have hi : ¬ nI n < 0 ∧ (nI n).toNatClampNeg = n ∧ n ≤ 1000 := ⟨nI_pos (by omega), nI_clamp (by omega), hn⟩
  have hz : ¬ nI n < 0 := hi.1
  have hn1 : h1.2.1 ≠ 0 := by omega
  refine ⟨xso h2 h.2.1 0 (.ref (h.2.1 + 1)), ?_, ⟨so_at _ c2 rfl, ?_⟩, (g1.tr g2).tr (xMk.fr (xFr_so _ _ _ _) (Nat.le_refl _))⟩
  · rw [e_X1_init, ← e1]
    simp only [u_X1_init_0, u_X1_init_1, u_X1_init_4, u_X1_init_5, u_X1_init_6, u_X1_init_9, u_X1_init_10, u_X1_init_13, u_X1_init_16, u_X1_init_19, hz, if_false, xgo_some, xgo_none, xgoI_none, xcat_n, xcat_i, xcat_r, xcat_z, List.length_nil, List.length_cons, List.getD_cons_zero, List.getD_cons_succ, List.set_cons_zero, List.set_cons_succ, Nat.zero_le, Nat.reduceAdd, Nat.reduceLeDiff, Nat.reduceEqDiff, reduceIte]
    rw [u_X1_init_14 (m := n) (hi := hi) (hn := hn1), ← e2, n1]
    simp only [u_X1_init_0, u_X1_init_1, u_X1_init_4, u_X1_init_5, u_X1_init_6, u_X1_init_9, u_X1_init_10, u_X1_init_13, u_X1_init_16, u_X1_init_19, o2, xgo_some, xgo_none, xgoI_none, xcat_n, xcat_i, xcat_r, xcat_z, List.length_nil, List.length_cons, List.getD_cons_zero, List.getD_cons_succ, List.set_cons_zero, List.set_cons_succ, Nat.zero_le, Nat.reduceAdd, Nat.reduceLeDiff, Nat.reduceEqDiff, reduceIte]
  · rw [(xFr_so h2 h.2.1 0 (.ref (h.2.1 + 1))).2 _ (by omega)]
    exact a2
theorem k_Row {h : xH} {N : Nat} (hN : h.2.1 = N) (h0 : N ≠ 0) : ∃ h', xev 35 [.ref N] (xnew h (.inr (5, xdef 5)) 2) = some (.inl none, h') ∧ isRow h' N 0 (fun _ => 0) ∧ xMk N 2 66 h h' := by
  subst hN
  obtain ⟨h1, e1⟩ : ∃ h1, h1 = xnew h (.inr (5, xdef 5)) 2 := ⟨_, rfl⟩
  have g1 : xMk h.2.1 1 2 h h1 := by rw [e1]; exact xMk_new _ (Nat.le_refl _)
  have c1 : h1.1 h.2.1 = some (.inr (5, [.null, .int 0])) := by rw [e1]; exact new_at _ _ _
  have n1 : h1.2.1 = h.2.1 + 1 := g1.1
  obtain ⟨h2, e2⟩ : ∃ h2, h2 = xnew h1 (.inl (0, 64, .inl (fun _ => 0))) 64 := ⟨_, rfl⟩
  have g2 : xMk h.2.1 1 64 h1 h2 := by rw [e2]; exact xMk_new _ (by omega)
  have c2 : h2.1 h.2.1 = some (.inr (5, [.null, .int 0])) := by
    have g3 : xMk (h.2.1 + 1) 1 64 h1 h2 := by rw [e2]; exact xMk_new _ (by omega)
    rw [g3.2.2.2 _ (by omega)]; exact c1
  have a2 : h2.1 (h.2.1 + 1) = some (.inl (0, 64, .inl (fun _ => 0))) := by rw [e2, ← n1]; exact new_at _ _ _
  have o2 := ob_of c2 rfl
  have hi : ¬ (64 : Int32) < 0 ∧ (64 : Int32).toNatClampNeg = 64 ∧ 64 ≤ 1000 := ⟨by decide, by decide, by decide⟩
  have hn1 : h1.2.1 ≠ 0 := by omega
  refine ⟨xso h2 h.2.1 0 (.ref (h.2.1 + 1)), ?_, ⟨?_, ?_, by omega⟩, (g1.tr g2).tr (xMk.fr (xFr_so _ _ _ _) (Nat.le_refl _))⟩
  · rw [e_X5_init, ← e1]
    simp only [u_X5_init_0, u_X5_init_1, u_X5_init_4, u_X5_init_5, u_X5_init_9, u_X5_init_12, xgo_some, xgo_none, xgoI_none, xcat_n, xcat_i, xcat_r, xcat_z, List.length_nil, List.length_cons, List.getD_cons_zero, List.getD_cons_succ, List.set_cons_zero, List.set_cons_succ, Nat.zero_le, Nat.reduceAdd, Nat.reduceLeDiff, Nat.reduceEqDiff, reduceIte]
    rw [u_X5_init_7 (m := 64) (hi := hi) (hn := hn1), ← e2, n1]
    simp only [u_X5_init_0, u_X5_init_1, u_X5_init_4, u_X5_init_5, u_X5_init_9, u_X5_init_12, o2, xgo_some, xgo_none, xgoI_none, xcat_n, xcat_i, xcat_r, xcat_z, List.length_nil, List.length_cons, List.getD_cons_zero, List.getD_cons_succ, List.set_cons_zero, List.set_cons_succ, Nat.zero_le, Nat.reduceAdd, Nat.reduceLeDiff, Nat.reduceEqDiff, reduceIte]
  · rw [nI_0]; exact so_at _ c2 rfl
  · rw [(xFr_so h2 h.2.1 0 (.ref (h.2.1 + 1))).2 _ (by omega)]
    exact a2
def f0 : Nat → Int32 := fun _ => 0
def fM : Nat → Int32 := fun i => if i < 24 then -1 else 0
def fL : Nat → Int32 := fun i => if i < 8 then 1 else 0
theorem lp_Names {b : Nat} : ∀ (k m : Nat) (h : xH) (fs sn ln : Nat → Int32), m + k = 24 → isNm h b fs sn f0 ln → (∀ i, fs i = if i < m then -1 else 0) → (∀ i, sn i = if i < m then -1 else 0) → (∀ i, ln i = if i < m ∧ i < 8 then 1 else 0) →
    ∃ h', xf 19 58 [some (.ref b), some (.int (nI m))] [] h = some (.inl none, h') ∧ isNm h' b fM fM f0 fL ∧ xFr b (b + 9) h h' := by
  intro k
  induction k with
  | zero =>
    intro m h fs sn ln hk q q1 q2 q3
    have h2 : ¬ nI m < 24 := nI_nlt (b := 24) (by omega) (by omega)
    have hm : m = 24 := by omega
    subst hm
    have e1 : fs = fM := funext q1
    have e2 : sn = fM := funext q2
    have e3 : ln = fL := by
      funext i
      rw [q3]
      unfold fL
      by_cases h8 : i < 8
      · rw [if_pos h8, if_pos ⟨by omega, h8⟩]
      · rw [if_neg h8, if_neg (fun z => h8 z.2)]
    rw [e1, e2, e3] at q
    refine ⟨h, ?_, q, xFr.rf⟩
    rw [u_X3_init_58]
    simp only [u_X3_init_59, u_X3_init_61, u_X3_init_107, h2, if_false, xgo_some, xgo_none, xgoI_none, xcat_n, xcat_i, xcat_r, xcat_z, List.length_nil, List.length_cons, List.getD_cons_zero, List.getD_cons_succ, List.set_cons_zero, List.set_cons_succ, Nat.zero_le, Nat.reduceAdd, Nat.reduceLeDiff, Nat.reduceEqDiff, reduceIte]
  | succ k ih =>
    intro m h fs sn ln hk q q1 q2 q3
    have h2 : nI m < 24 := nI_lt (b := 24) (by omega) (by omega)
    have p1 := m_Cells_put_nI q.2.1 d24.2 (show m < 24 by omega) (-1)
    have r1 : isNm (setCl h (b + 1) 24 (va_up fs m (-1))) b (va_up fs m (-1)) sn f0 ln := by rw [nm_s1 q]; exact setNm_is q
    have p2 := m_Cells_put_nI r1.2.2.1 d24.2 (show m < 24 by omega) (-1)
    have r2 : isNm (setCl (setCl h (b + 1) 24 (va_up fs m (-1))) (b + 3) 24 (va_up sn m (-1))) b (va_up fs m (-1)) (va_up sn m (-1)) f0 ln := by rw [nm_s2 r1]; exact setNm_is r1
    obtain ⟨v, ev⟩ : ∃ v : Int32, v = if m < 8 then 1 else 0 := ⟨_, rfl⟩
    have p3 := m_Cells_put_nI r2.2.2.2.2 d24.2 (show m < 24 by omega) v
    have r3 : isNm (setCl (setCl (setCl h (b + 1) 24 (va_up fs m (-1))) (b + 3) 24 (va_up sn m (-1))) (b + 7) 24 (va_up ln m v)) b (va_up fs m (-1)) (va_up sn m (-1)) f0 (va_up ln m v) := by rw [nm_s4 r2]; exact setNm_is r2
    have up : ∀ (f : Nat → Int32), (∀ i, f i = if i < m then -1 else 0) → ∀ i, va_up f m (-1) i = if i < m + 1 then -1 else 0 := by
      intro f hf i
      by_cases h5 : i = m
      · subst h5; rw [va_up_self, if_pos (by omega)]
      · rw [va_up_ne _ _ h5, hf]
        by_cases h6 : i < m
        · rw [if_pos h6, if_pos (by omega)]
        · rw [if_neg h6, if_neg (by omega)]
    obtain ⟨h', a1, a2, a3⟩ := ih (m + 1) _ _ _ _ (by omega) r3 (up fs q1) (up sn q2) (by
      intro i
      by_cases h5 : i = m
      · subst h5
        rw [va_up_self, ev]
        by_cases h6 : i < 8
        · rw [if_pos h6, if_pos ⟨by omega, h6⟩]
        · rw [if_neg h6, if_neg (fun z => h6 z.2)]
      · rw [va_up_ne _ _ h5, q3]
        by_cases h6 : i < m ∧ i < 8
        · rw [if_pos h6, if_pos ⟨by omega, h6.2⟩]
        · rw [if_neg h6, if_neg (by omega)])
    refine ⟨h', ?_, a2, (((xFr.wd xFr_cl (by omega) (by omega)).tr (xFr.wd xFr_cl (by omega) (by omega))).tr (xFr.wd xFr_cl (by omega) (by omega))).tr a3⟩
    rw [u_X3_init_58]
    by_cases h8 : m < 8
    · have h9 : nI m < 8 := nI_lt (b := 8) h8 (by omega)
      rw [if_pos h8] at ev
      rw [ev] at p3 a1
      simp only [u_X3_init_0, u_X3_init_1, u_X3_init_4, u_X3_init_5, u_X3_init_8, u_X3_init_9, u_X3_init_11, u_X3_init_14, u_X3_init_17, u_X3_init_18, u_X3_init_21, u_X3_init_22, u_X3_init_24, u_X3_init_27, u_X3_init_30, u_X3_init_31, u_X3_init_34, u_X3_init_35, u_X3_init_37, u_X3_init_40, u_X3_init_43, u_X3_init_44, u_X3_init_47, u_X3_init_48, u_X3_init_50, u_X3_init_53, u_X3_init_56, u_X3_init_57, u_X3_init_59, u_X3_init_61, u_X3_init_64, u_X3_init_65, u_X3_init_68, u_X3_init_69, u_X3_init_70, u_X3_init_73, u_X3_init_74, u_X3_init_77, u_X3_init_78, u_X3_init_79, u_X3_init_82, u_X3_init_83, u_X3_init_86, u_X3_init_87, u_X3_init_88, u_X3_init_90, u_X3_init_93, u_X3_init_94, u_X3_init_97, u_X3_init_98, u_X3_init_101, u_X3_init_104, u_X3_init_107, q.ob, r1.ob, r2.ob, q.2.1.ob, r1.2.2.1.ob, r2.2.2.2.2.ob, h2, h9, p1, p2, p3, nI_of1, if_true, xgo_some, xgo_none, xgoI_none, xcat_n, xcat_i, xcat_r, xcat_z, List.length_nil, List.length_cons, List.getD_cons_zero, List.getD_cons_succ, List.set_cons_zero, List.set_cons_succ, Nat.zero_le, Nat.reduceAdd, Nat.reduceLeDiff, Nat.reduceEqDiff, reduceIte]
      exact a1
    · have h9 : ¬ nI m < 8 := nI_nlt (b := 8) (by omega) (by omega)
      rw [if_neg h8] at ev
      rw [ev] at p3 a1
      simp only [u_X3_init_0, u_X3_init_1, u_X3_init_4, u_X3_init_5, u_X3_init_8, u_X3_init_9, u_X3_init_11, u_X3_init_14, u_X3_init_17, u_X3_init_18, u_X3_init_21, u_X3_init_22, u_X3_init_24, u_X3_init_27, u_X3_init_30, u_X3_init_31, u_X3_init_34, u_X3_init_35, u_X3_init_37, u_X3_init_40, u_X3_init_43, u_X3_init_44, u_X3_init_47, u_X3_init_48, u_X3_init_50, u_X3_init_53, u_X3_init_56, u_X3_init_57, u_X3_init_59, u_X3_init_61, u_X3_init_64, u_X3_init_65, u_X3_init_68, u_X3_init_69, u_X3_init_70, u_X3_init_73, u_X3_init_74, u_X3_init_77, u_X3_init_78, u_X3_init_79, u_X3_init_82, u_X3_init_83, u_X3_init_86, u_X3_init_87, u_X3_init_88, u_X3_init_90, u_X3_init_93, u_X3_init_94, u_X3_init_97, u_X3_init_98, u_X3_init_101, u_X3_init_104, u_X3_init_107, q.ob, r1.ob, r2.ob, q.2.1.ob, r1.2.2.1.ob, r2.2.2.2.2.ob, h2, h9, p1, p2, p3, nI_of1, if_true, if_false, xgo_some, xgo_none, xgoI_none, xcat_n, xcat_i, xcat_r, xcat_z, List.length_nil, List.length_cons, List.getD_cons_zero, List.getD_cons_succ, List.set_cons_zero, List.set_cons_succ, Nat.zero_le, Nat.reduceAdd, Nat.reduceLeDiff, Nat.reduceEqDiff, reduceIte]
      exact a1
theorem k_Names {h : xH} {N : Nat} (hN : h.2.1 = N) (h0 : N ≠ 0) : ∃ h', xev 19 [.ref N] (xnew h (.inr (3, xdef 3)) 4) = some (.inl none, h') ∧ isNm h' N fM fM f0 fL ∧ xMk N 9 104 h h' := by
  obtain ⟨h1, e1⟩ : ∃ h1, h1 = xnew h (.inr (3, xdef 3)) 4 := ⟨_, rfl⟩
  have g1 : xMk N 1 4 h h1 := by rw [e1]; exact xMk_new _ (by omega)
  have c1 : h1.1 N = some (.inr (3, [.null, .null, .null, .null])) := by rw [e1, ← hN]; exact new_at _ _ _
  have n1 : h1.2.1 = N + 1 := by rw [g1.1, hN]
  obtain ⟨h2, a1, a2, a3⟩ := k_Cells (n := 24) n1 (by omega) (by omega)
  have b2 : h2.1 N = some (.inr (3, [.null, .null, .null, .null])) := by rw [a3.2.2.2 N (by omega)]; exact c1
  obtain ⟨h3, e3⟩ : ∃ h3, h3 = xso h2 N 0 (.ref (N + 1)) := ⟨_, rfl⟩
  have b3 : h3.1 N = some (.inr (3, [.ref (N + 1), .null, .null, .null])) := by rw [e3]; exact so_at _ b2 rfl
  have w3 : xFr N (N + 1) h2 h3 := by rw [e3]; exact xFr_so _ _ _ _
  have n3 : h3.2.1 = N + 3 := by rw [w3.1, a3.1, n1]
  obtain ⟨h4, f1, f2, f3⟩ := k_Cells (n := 24) n3 (by omega) (by omega)
  have b4 : h4.1 N = some (.inr (3, [.ref (N + 1), .null, .null, .null])) := by rw [f3.2.2.2 N (by omega)]; exact b3
  obtain ⟨h5, e5⟩ : ∃ h5, h5 = xso h4 N 1 (.ref (N + 3)) := ⟨_, rfl⟩
  have b5 : h5.1 N = some (.inr (3, [.ref (N + 1), .ref (N + 3), .null, .null])) := by rw [e5]; exact so_at _ b4 rfl
  have w5 : xFr N (N + 1) h4 h5 := by rw [e5]; exact xFr_so _ _ _ _
  have n5 : h5.2.1 = N + 5 := by rw [w5.1, f3.1, n3]
  obtain ⟨h6, i1, i2, i3⟩ := k_Cells (n := 24) n5 (by omega) (by omega)
  have b6 : h6.1 N = some (.inr (3, [.ref (N + 1), .ref (N + 3), .null, .null])) := by rw [i3.2.2.2 N (by omega)]; exact b5
  obtain ⟨h7, e7⟩ : ∃ h7, h7 = xso h6 N 2 (.ref (N + 5)) := ⟨_, rfl⟩
  have b7 : h7.1 N = some (.inr (3, [.ref (N + 1), .ref (N + 3), .ref (N + 5), .null])) := by rw [e7]; exact so_at _ b6 rfl
  have w7 : xFr N (N + 1) h6 h7 := by rw [e7]; exact xFr_so _ _ _ _
  have n7 : h7.2.1 = N + 7 := by rw [w7.1, i3.1, n5]
  obtain ⟨h8, j1, j2, j3⟩ := k_Cells (n := 24) n7 (by omega) (by omega)
  have b8 : h8.1 N = some (.inr (3, [.ref (N + 1), .ref (N + 3), .ref (N + 5), .null])) := by rw [j3.2.2.2 N (by omega)]; exact b7
  obtain ⟨h9, e9⟩ : ∃ h9, h9 = xso h8 N 3 (.ref (N + 7)) := ⟨_, rfl⟩
  have b9 : h9.1 N = some (.inr (3, [.ref (N + 1), .ref (N + 3), .ref (N + 5), .ref (N + 7)])) := by rw [e9]; exact so_at _ b8 rfl
  have w9 : xFr N (N + 1) h8 h9 := by rw [e9]; exact xFr_so _ _ _ _
  have q9 : isNm h9 N f0 f0 f0 f0 := ⟨b9, isCl_fr (isCl_G (isCl_fr (isCl_G (isCl_fr (isCl_G (isCl_fr a2 w3 (by omega)) f3 (by omega)) w5 (by omega)) i3 (by omega)) w7 (by omega)) j3 (by omega)) w9 (by omega), isCl_fr (isCl_G (isCl_fr (isCl_G (isCl_fr f2 w5 (by omega)) i3 (by omega)) w7 (by omega)) j3 (by omega)) w9 (by omega), isCl_fr (isCl_G (isCl_fr i2 w7 (by omega)) j3 (by omega)) w9 (by omega), isCl_fr j2 w9 (by omega)⟩
  obtain ⟨h', k1, k2, k3⟩ := lp_Names 24 0 h9 f0 f0 f0 (by omega) q9 (fun i => (if_neg (by omega)).symm) (fun i => (if_neg (by omega)).symm) (fun i => (if_neg (fun z => absurd z.1 (by omega))).symm)
  refine ⟨h', ?_, k2, ?_⟩
  · have m1 : h1.2.1 ≠ 0 := by omega
    have m3 : h3.2.1 ≠ 0 := by omega
    have m5 : h5.2.1 ≠ 0 := by omega
    have m7 : h7.2.1 ≠ 0 := by omega
    replace a1 : xev 11 [.ref (N + 1), .int 24] _ = _ := a1
    replace f1 : xev 11 [.ref (N + 3), .int 24] _ = _ := f1
    replace i1 : xev 11 [.ref (N + 5), .int 24] _ = _ := i1
    replace j1 : xev 11 [.ref (N + 7), .int 24] _ = _ := j1
    rw [e_X3_init, ← e1]
    simp only [u_X3_init_0, u_X3_init_1, u_X3_init_4, u_X3_init_5, u_X3_init_8, u_X3_init_9, u_X3_init_11, u_X3_init_14, u_X3_init_17, u_X3_init_18, u_X3_init_21, u_X3_init_22, u_X3_init_24, u_X3_init_27, u_X3_init_30, u_X3_init_31, u_X3_init_34, u_X3_init_35, u_X3_init_37, u_X3_init_40, u_X3_init_43, u_X3_init_44, u_X3_init_47, u_X3_init_48, u_X3_init_50, u_X3_init_53, u_X3_init_56, u_X3_init_57, m1, m3, m5, m7, n1, n3, n5, n7, a1, f1, i1, j1, ob_of b2 rfl, ob_of b4 rfl, ob_of b6 rfl, ob_of b8 rfl, ← e3, ← e5, ← e7, ← e9, ne_eq, not_false_eq_true, xgo_some, xgo_none, xgoI_none, xcat_n, xcat_i, xcat_r, xcat_z, List.length_nil, List.length_cons, List.getD_cons_zero, List.getD_cons_succ, List.set_cons_zero, List.set_cons_succ, Nat.zero_le, Nat.reduceAdd, Nat.reduceLeDiff, Nat.reduceEqDiff, reduceIte]
    exact k1
  · have g := ((((((((g1.tr (a3.wd (by omega))).tr (xMk.fr w3 (Nat.le_refl _))).tr (f3.wd (by omega))).tr (xMk.fr w5 (Nat.le_refl _))).tr (i3.wd (by omega))).tr (xMk.fr w7 (Nat.le_refl _))).tr (j3.wd (by omega))).tr (xMk.fr w9 (Nat.le_refl _))).tr (xMk.fr k3 (Nat.le_refl _))
    exact g
end CT
