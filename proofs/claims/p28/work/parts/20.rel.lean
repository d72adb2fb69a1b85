/-! A state: a name let go. -/
section RL
variable {h : xH} {b n : Nat} {f fs sn dp ln se ti : Nat → Int32} {sp go : Int32}
def rlI (v a c : Int32) : List Int32 → List Int32
  | [] => []
  | x :: t => if x = v then a :: c :: rlI v a c t else x :: rlI v a c t
theorem seg_app (f : Nat → Int32) : ∀ (j i k : Nat), seg f i (j + k) = seg f i j ++ seg f (i + j) k := by
  intro j
  induction j with
  | zero => intro i k; simp [seg]
  | succ j ih =>
    intro i k
    rw [show j + 1 + k = (j + k) + 1 by omega]
    simp only [seg, ih, List.cons_append]
    rw [show i + 1 + j = i + (j + 1) by omega]
theorem seg_cg {f g : Nat → Int32} : ∀ (k i : Nat), (∀ x, i ≤ x → x < i + k → f x = g x) → seg f i k = seg g i k := by
  intro k
  induction k with
  | zero => intro i _; rfl
  | succ k ih => intro i e; rw [seg, seg, e i (by omega) (by omega), ih (i + 1) (fun x h1 h2 => e x (by omega) (by omega))]
theorem seg_sh {f g : Nat → Int32} : ∀ (k i j : Nat), (∀ x, x < k → g (j + x) = f (i + x)) → seg g j k = seg f i k := by
  intro k
  induction k with
  | zero => intro i j _; rfl
  | succ k ih =>
    intro i j e
    rw [seg, seg, show g j = f i from e 0 (by omega), ih (i + 1) (j + 1) (fun x h1 => by have := e (x + 1) (by omega); rw [show j + 1 + x = j + (x + 1) by omega, this, show i + 1 + x = i + (x + 1) by omega])]
theorem seg_insR (f : Nat → Int32) (p n : Nat) (a c : Int32) (hp : p < n) : seg (insF f p n a c) (p + 1) (n - p) = c :: seg f (p + 1) (n - p - 1) := by
  obtain ⟨k, hk⟩ : ∃ k, n - p = k + 1 := ⟨n - p - 1, by omega⟩
  have e1 : insF f p n a c (p + 1) = c := by
    unfold insF; rw [if_neg (by omega), if_pos rfl]
  rw [hk, seg, e1, show k + 1 - 1 = k by omega]
  refine congrArg (c :: ·) (seg_sh k (p + 1) (p + 1 + 1) (fun x hx => ?_))
  unfold insF
  rw [if_neg (by omega), if_neg (by omega), if_pos (by omega), show p + 1 + 1 + x - 1 = p + 1 + x by omega]
theorem seg_ins0 (f : Nat → Int32) (p n : Nat) (a c : Int32) : seg (insF f p n a c) 0 (p + 1) = seg f 0 p ++ [a] := by
  have e1 : insF f p n a c p = a := by
    unfold insF; rw [if_pos rfl]
  rw [seg_app _ p 0 1, seg, seg, Nat.zero_add, e1]
  refine congrArg (· ++ [a]) (seg_cg p 0 (fun x _ hx => ?_))
  unfold insF
  rw [if_neg (by omega), if_neg (by omega), if_neg (by omega)]
theorem seg_ins (f : Nat → Int32) (p n : Nat) (a c : Int32) (hp : p < n) : seg (insF f p n a c) 0 (n + 1) = seg f 0 p ++ a :: c :: seg f (p + 1) (n - p - 1) := by
  rw [show n + 1 = (p + 1) + (n - p) by omega, seg_app, seg_ins0, Nat.zero_add, seg_insR _ _ _ _ _ hp, List.append_assoc]
  rfl
theorem seg_hd (f : Nat → Int32) (i n : Nat) (hi : i < n) : seg f i (n - i) = f i :: seg f (i + 1) (n - (i + 1)) := by
  rw [show n - i = (n - (i + 1)) + 1 by omega, seg]
theorem lp_rel {v : Nat} (hv : v < 24) (e1 : fs v ≠ nI v) (e2 : sn v ≠ nI v) (hq1 : nI v ≠ -1) : ∀ (k i : Nat) (h : xH) (n : Nat) (f : Nat → Int32), i + k = 64 → isSt h b n f fs sn dp ln se sp go ti → n + cntI (seg f i (n - i)) (nI v) ≤ 64 →
    ∃ h' m g, xf 61 2 [some (.ref b), some (.int (nI v)), some (.int (nI i))] [] h = xf 61 31 [some (.ref b), some (.int (nI v)), some (.int (nI 64))] [] h' ∧ isSt h' b m g fs sn dp ln se sp go ti ∧ seg g 0 m = seg f 0 (min i n) ++ rlI (nI v) (fs v) (sn v) (seg f i (n - i)) ∧ xFr b (b + 16) h h' := by
  intro k
  induction k with
  | zero =>
    intro i h n f hk q _
    have hm : i = 64 := by omega
    have hn := q.2.1.2.2
    subst hm
    have h2 : ¬ nI 64 < 64 := by decide
    refine ⟨h, n, f, ?_, q, ?_, xFr.rf⟩
    · rw [u_X6_release_2]
      simp only [u_X6_release_3, u_X6_release_5, h2, if_false, xgo_some, xgo_none, xgoI_none, xcat_n, xcat_i, xcat_r, xcat_z, List.length_nil, List.length_cons, List.getD_cons_zero, List.getD_cons_succ, List.set_cons_zero, List.set_cons_succ, Nat.zero_le, Nat.reduceAdd, Nat.reduceLeDiff, Nat.reduceEqDiff, reduceIte]
    · rw [show n - 64 = 0 by omega, seg, rlI, List.append_nil, Nat.min_eq_right (by omega)]
  | succ k ih =>
    intro i h n f hk q hc
    have hn := q.2.1.2.2
    have h2 : nI i < 64 := nI_lt (b := 64) (by omega) (by omega)
    by_cases h3 : i < n
    · rw [seg_hd f i n h3] at hc ⊢
      rw [Nat.min_eq_left (by omega)]
      by_cases h4 : f i = nI v
      · simp only [cntI, h4, if_true] at hc
        have q1 : isSt (setRow h (b + 1) (n + 1) (insF f i n (fs v) (sn v))) b (n + 1) (insF f i n (fs v) (sn v)) fs sn dp ln se sp go ti := st_row q (by omega)
        have ec := seg_insR f i n (fs v) (sn v) h3
        rw [show n - i = n + 1 - (i + 1) by omega] at ec
        obtain ⟨h', m, g, a1, a2, a3, a4⟩ := ih (i + 1) _ (n + 1) _ (by omega) q1 (by
          rw [ec, cntI, if_neg e2, show n + 1 - (i + 1) - 1 = n - (i + 1) by omega]; omega)
        refine ⟨h', m, g, ?_, a2, ?_, (xFr.wd xFr_row (by omega) (by omega)).tr a4⟩
        · have po := m_State_openAt q (show n < 64 by omega) h3
          rw [h4, clAt_nI hv (by decide), clAt_nI hv (by decide)] at po
          rw [u_X6_release_2]
          simp only [u_X6_release_0, u_X6_release_1, u_X6_release_3, u_X6_release_5, u_X6_release_8, u_X6_release_9, u_X6_release_12, u_X6_release_13, u_X6_release_16, u_X6_release_17, u_X6_release_20, u_X6_release_21, u_X6_release_22, u_X6_release_25, u_X6_release_28, u_X6_release_32, u_X6_release_35, u_X6_release_36, u_X6_release_39, u_X6_release_40, u_X6_release_41, u_X6_release_44, u_X6_release_45, u_X6_release_46, u_X6_release_49, h2, h4, q.ob, q.2.1.ob, m_Row_at q.2.1, clAt_lt h3 hn, if_true, if_false, not_true, ne_eq, po, nI_of1, xgo_some, xgo_none, xgoI_none, xcat_n, xcat_i, xcat_r, xcat_z, List.length_nil, List.length_cons, List.getD_cons_zero, List.getD_cons_succ, List.set_cons_zero, List.set_cons_succ, Nat.zero_le, Nat.reduceAdd, Nat.reduceLeDiff, Nat.reduceEqDiff, reduceIte]
          exact a1
        · rw [a3, ec, Nat.min_eq_left (by omega), seg_ins0, rlI, if_neg e2, rlI, if_pos h4, show n + 1 - (i + 1) - 1 = n - (i + 1) by omega, List.append_assoc]
          rfl
      · simp only [cntI, h4, if_false] at hc
        obtain ⟨h', m, g, a1, a2, a3, a4⟩ := ih (i + 1) h n f (by omega) q (by omega)
        refine ⟨h', m, g, ?_, a2, ?_, a4⟩
        · rw [u_X6_release_2]
          simp only [u_X6_release_0, u_X6_release_1, u_X6_release_3, u_X6_release_5, u_X6_release_8, u_X6_release_9, u_X6_release_12, u_X6_release_13, u_X6_release_16, u_X6_release_17, u_X6_release_20, u_X6_release_21, u_X6_release_22, u_X6_release_25, u_X6_release_28, u_X6_release_32, u_X6_release_35, u_X6_release_36, u_X6_release_39, u_X6_release_40, u_X6_release_41, u_X6_release_44, u_X6_release_45, u_X6_release_46, u_X6_release_49, h2, h4, q.ob, q.2.1.ob, m_Row_at q.2.1, clAt_lt h3 hn, if_true, if_false, not_false_eq_true, ne_eq, nI_of1, xgo_some, xgo_none, xgoI_none, xcat_n, xcat_i, xcat_r, xcat_z, List.length_nil, List.length_cons, List.getD_cons_zero, List.getD_cons_succ, List.set_cons_zero, List.set_cons_succ, Nat.zero_le, Nat.reduceAdd, Nat.reduceLeDiff, Nat.reduceEqDiff, reduceIte]
          exact a1
        · rw [a3, rlI, if_neg h4, Nat.min_eq_left (by omega), seg_app f i 0 1, Nat.zero_add, List.append_assoc]
          rfl
    · obtain ⟨h', m, g, a1, a2, a3, a4⟩ := ih (i + 1) h n f (by omega) q (by rw [show n - (i + 1) = 0 by omega]; rw [show n - i = 0 by omega] at hc; exact hc)
      refine ⟨h', m, g, ?_, a2, ?_, a4⟩
      · have h4 : ¬ (-1 : Int32) = nI v := fun z => hq1 z.symm
        rw [u_X6_release_2]
        simp only [u_X6_release_0, u_X6_release_1, u_X6_release_3, u_X6_release_5, u_X6_release_8, u_X6_release_9, u_X6_release_12, u_X6_release_13, u_X6_release_16, u_X6_release_17, u_X6_release_20, u_X6_release_21, u_X6_release_22, u_X6_release_25, u_X6_release_28, u_X6_release_32, u_X6_release_35, u_X6_release_36, u_X6_release_39, u_X6_release_40, u_X6_release_41, u_X6_release_44, u_X6_release_45, u_X6_release_46, u_X6_release_49, h2, h4, q.ob, q.2.1.ob, m_Row_at q.2.1, clAt_out (show n ≤ i by omega) (show i < 2 ^ 31 by omega), if_true, if_false, not_false_eq_true, ne_eq, nI_of1, xgo_some, xgo_none, xgoI_none, xcat_n, xcat_i, xcat_r, xcat_z, List.length_nil, List.length_cons, List.getD_cons_zero, List.getD_cons_succ, List.set_cons_zero, List.set_cons_succ, Nat.zero_le, Nat.reduceAdd, Nat.reduceLeDiff, Nat.reduceEqDiff, reduceIte]
        exact a1
      · rw [a3, show n - i = 0 by omega, show n - (i + 1) = 0 by omega, Nat.min_eq_right (by omega), Nat.min_eq_right (by omega)]
        rfl
theorem nI_nm1 {k : Nat} (hk : k < 2 ^ 31) : nI k ≠ -1 := by
  intro e
  have : ¬ nI k < 0 := nI_pos hk
  rw [e] at this
  exact this (by decide)
theorem m_State_release {N : xNs} {v : Nat} (hv : v < 24) (e1 : N.1 v ≠ nI v) (e2 : N.2.1 v ≠ nI v) (q : isSt h b n f N.1 N.2.1 N.2.2.1 N.2.2.2 se sp go ti) (hc : n + cntI (seg f 0 n) (nI v) ≤ 64) :
    ∃ h' m g, xev 61 [.ref b, .int (nI v)] h = some (.inl none, h') ∧ isSt h' b m g (nsOut N v).1 (nsOut N v).2.1 (nsOut N v).2.2.1 (nsOut N v).2.2.2 se sp (go + 1) ti ∧ seg g 0 m = rlI (nI v) (N.1 v) (N.2.1 v) (seg f 0 n) ∧ xFr b (b + 16) h h' := by
  obtain ⟨h1, m, g, a1, a2, a3, a4⟩ := lp_rel hv e1 e2 (nI_nm1 (by omega)) 64 0 h n f (by omega) q hc
  rw [Nat.zero_min] at a3
  have p1 := m_Names_forget a2.2.2.1 hv
  have q1 : isSt (setNm h1 (b + 3) (nsOut N v).1 (nsOut N v).2.1 (nsOut N v).2.2.1 (nsOut N v).2.2.2) b m g (nsOut N v).1 (nsOut N v).2.1 (nsOut N v).2.2.1 (nsOut N v).2.2.2 se sp go ti := st_nm a2
  obtain ⟨h2, e3⟩ : ∃ h2, h2 = setNm h1 (b + 3) (nsOut N v).1 (nsOut N v).2.1 (nsOut N v).2.2.1 (nsOut N v).2.2.2 := ⟨_, rfl⟩
  have f2 : xFr b (b + 16) h1 h2 := by rw [e3]; exact xFr.wd xFr_nm (by omega) (by omega)
  have p1' : xev 24 [.ref (b + 3), .int (nI v)] h1 = some (.inl none, h2) := by rw [e3]; exact p1
  rw [← e3] at q1
  refine ⟨xso h2 b 4 (.int (go + 1)), m, g, ?_, st_go q1 _, a3, (a4.tr f2).tr (xFr.wd (xFr_go q1 _) (by omega) (by omega))⟩
  rw [e_X6_release]
  simp only [u_X6_release_0, u_X6_release_1, u_X6_release_3, u_X6_release_5, u_X6_release_8, u_X6_release_9, u_X6_release_12, u_X6_release_13, u_X6_release_16, u_X6_release_17, u_X6_release_20, u_X6_release_21, u_X6_release_22, u_X6_release_25, u_X6_release_28, u_X6_release_32, u_X6_release_35, u_X6_release_36, u_X6_release_39, u_X6_release_40, u_X6_release_41, u_X6_release_44, u_X6_release_45, u_X6_release_46, u_X6_release_49, xgo_some, xgo_none, xgoI_none, xcat_n, xcat_i, xcat_r, xcat_z, List.length_nil, List.length_cons, List.getD_cons_zero, List.getD_cons_succ, List.set_cons_zero, List.set_cons_succ, Nat.zero_le, Nat.reduceAdd, Nat.reduceLeDiff, Nat.reduceEqDiff, reduceIte]
  rw [show (0 : Int32) = nI 0 from rfl, a1, u_X6_release_31]
  simp only [u_X6_release_0, u_X6_release_1, u_X6_release_3, u_X6_release_5, u_X6_release_8, u_X6_release_9, u_X6_release_12, u_X6_release_13, u_X6_release_16, u_X6_release_17, u_X6_release_20, u_X6_release_21, u_X6_release_22, u_X6_release_25, u_X6_release_28, u_X6_release_32, u_X6_release_35, u_X6_release_36, u_X6_release_39, u_X6_release_40, u_X6_release_41, u_X6_release_44, u_X6_release_45, u_X6_release_46, u_X6_release_49, a2.ob, q1.ob, a2.2.2.1.ob, p1', xgo_some, xgo_none, xgoI_none, xcat_n, xcat_i, xcat_r, xcat_z, List.length_nil, List.length_cons, List.getD_cons_zero, List.getD_cons_succ, List.set_cons_zero, List.set_cons_succ, Nat.zero_le, Nat.reduceAdd, Nat.reduceLeDiff, Nat.reduceEqDiff, reduceIte]
end RL
