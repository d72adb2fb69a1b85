/-! The buffer: written behind a row. -/
section BG
variable {h : xH} {b r N : Nat} {c : Nat → Int32}
def tmN (N : Nat) (c : Nat → Int32) (m : Nat) : Nat := (tmA N c (nI m)).toNatClampNeg
theorem le_of_nlt {x y : Int32} (h : ¬ x < y) : y ≤ x := Int32.not_lt.mp h
theorem tmN_is (N : Nat) (c : Nat → Int32) (m : Nat) : tmA N c (nI m) = nI (tmN N c m) ∧ tmN N c m ≤ 9 := by
  have key : ∃ k, k ≤ 9 ∧ tmA N c (nI m) = nI k := by
    unfold tmA
    split
    · split
      · rename_i h1 h2
        obtain ⟨x, ex⟩ : ∃ x, x = bfAt N c (nI m + 1) := ⟨_, rfl⟩
        rw [← ex] at h2 ⊢
        unfold nuC at h2
        rw [Bool.and_eq_true, decide_eq_true_eq, decide_eq_true_eq] at h2
        have h0 : ¬ x < 0 := fun z => h2.1 (Int32.lt_trans z (by decide))
        obtain ⟨j, j1, j2⟩ := nI_of2 (M := 57) (n := 57) (by decide) h0 (le_of_nlt h2.2)
        have j3 : 50 ≤ j := by
          apply Nat.le_of_not_lt
          intro z
          refine h2.1 ?_
          rw [j2]
          exact nI_lt (b := 50) z (by omega)
        exact ⟨j - 48, by omega, by rw [j2]; exact nI_sub (a := j) (b := 48) (by omega)⟩
      · exact ⟨1, by omega, rfl⟩
    · exact ⟨0, by omega, rfl⟩
  obtain ⟨k, k1, k2⟩ := key
  unfold tmN
  rw [k2, nI_clamp (by omega)]
  exact ⟨rfl, k1⟩
def wbF (N : Nat) (c : Nat → Int32) : Nat → Nat → List Int32
  | _, 0 => []
  | m, k + 1 => List.replicate (tmN N c m) (bfAt N c (nI m) - 97) ++ wbF N c (m + 1) k
theorem sa_wb (N : Nat) (c : Nat → Int32) : ∀ (k m : Nat), saF N c m k = nI (wbF N c m k).length := by
  intro k
  induction k with
  | zero => intro m; rfl
  | succ k ih => intro m; rw [saF, wbF, ih, List.length_append, List.length_replicate, (tmN_is N c m).1, nI_add]
theorem lp_wbI (hbr : r + 2 ≤ b ∨ b + 3 ≤ r) (i T : Nat) (hT : T ≤ 9) : ∀ (k j : Nat) (h : xH) (n : Nat) (f : Nat → Int32), j + k = T → isRow h r n f → isBf h b N c → n + k ≤ 64 →
    ∃ g, xf 10 19 [some (.ref b), some (.ref r), some (.int (nI i)), some (.int (nI T)), some (.int (nI j))] [] h = xf 10 43 [some (.ref b), some (.ref r), some (.int (nI i)), some (.int (nI T)), some (.int (nI T))] [] (setRow h r (n + k) g) ∧ seg g 0 (n + k) = seg f 0 n ++ List.replicate k (bfAt N c (nI i) - 97) := by
  intro k
  induction k with
  | zero =>
    intro j h n f hk qr q _
    have h2 : ¬ nI j < nI T := nI_nlt (by omega) (by omega)
    refine ⟨f, ?_, (List.append_nil _).symm⟩
    rw [u_X0_writeBehind_19, Nat.add_zero, setRow_self qr, show j = T by omega]
    rw [show j = T by omega] at h2
    simp only [u_X0_writeBehind_21, u_X0_writeBehind_22, h2, if_false, xgo_some, xgo_none, xgoI_none, xcat_n, xcat_i, xcat_r, xcat_z, List.length_nil, List.length_cons, List.getD_cons_zero, List.getD_cons_succ, List.set_cons_zero, List.set_cons_succ, Nat.zero_le, Nat.reduceAdd, Nat.reduceLeDiff, Nat.reduceEqDiff, reduceIte]
  | succ k ih =>
    intro j h n f hk qr q hn
    have h2 : nI j < nI T := nI_lt (by omega) (by omega)
    have p1 := m_Row_push qr (bfAt N c (nI i) - 97)
    rw [if_pos (by omega)] at p1
    obtain ⟨g, a1, a2⟩ := ih (j + 1) (setRow h r (n + 1) (va_up f n (bfAt N c (nI i) - 97))) (n + 1) (va_up f n (bfAt N c (nI i) - 97)) (by omega) (setRow_is (by omega)) (isBf_fr q xFr_row (by omega)) (by omega)
    refine ⟨g, ?_, ?_⟩
    · rw [setRow_set] at a1
      rw [u_X0_writeBehind_19]
      simp only [u_X0_writeBehind_0, u_X0_writeBehind_1, u_X0_writeBehind_3, u_X0_writeBehind_4, u_X0_writeBehind_7, u_X0_writeBehind_10, u_X0_writeBehind_11, u_X0_writeBehind_12, u_X0_writeBehind_15, u_X0_writeBehind_16, u_X0_writeBehind_17, u_X0_writeBehind_21, u_X0_writeBehind_22, u_X0_writeBehind_25, u_X0_writeBehind_26, u_X0_writeBehind_27, u_X0_writeBehind_28, u_X0_writeBehind_31, u_X0_writeBehind_33, u_X0_writeBehind_34, u_X0_writeBehind_37, u_X0_writeBehind_40, u_X0_writeBehind_46, u_X0_writeBehind_49, h2, if_true, q.ob, qr.ob, m_Buf_at q, p1, nI_of1, xgo_some, xgo_none, xgoI_none, xcat_n, xcat_i, xcat_r, xcat_z, List.length_nil, List.length_cons, List.getD_cons_zero, List.getD_cons_succ, List.set_cons_zero, List.set_cons_succ, Nat.zero_le, Nat.reduceAdd, Nat.reduceLeDiff, Nat.reduceEqDiff, reduceIte]
      rw [a1, show n + 1 + k = n + (k + 1) by omega]
    · rw [show n + (k + 1) = n + 1 + k by omega, a2, seg_push, List.append_assoc]
      rfl
theorem lp_wb (hbr : r + 2 ≤ b ∨ b + 3 ≤ r) : ∀ (k i : Nat) (h : xH) (n : Nat) (f : Nat → Int32) (l3 l4 : Option Value), i + k = N → isRow h r n f → isBf h b N c → n + (wbF N c i k).length ≤ 64 →
    ∃ g, xf 10 2 [some (.ref b), some (.ref r), some (.int (nI i)), l3, l4] [] h = some (.inl none, setRow h r (n + (wbF N c i k).length) g) ∧ seg g 0 (n + (wbF N c i k).length) = seg f 0 n ++ wbF N c i k := by
  intro k
  induction k with
  | zero =>
    intro i h n f l3 l4 hk qr q _
    have hN := q.2.2
    have h2 : ¬ nI i < nI N := nI_nlt (by omega) (by omega)
    refine ⟨f, ?_, (List.append_nil _).symm⟩
    simp only [wbF, List.length_nil, Nat.add_zero]
    rw [u_X0_writeBehind_2, setRow_self qr]
    simp only [u_X0_writeBehind_0, u_X0_writeBehind_1, u_X0_writeBehind_3, u_X0_writeBehind_4, u_X0_writeBehind_7, u_X0_writeBehind_10, u_X0_writeBehind_11, u_X0_writeBehind_12, u_X0_writeBehind_15, u_X0_writeBehind_16, u_X0_writeBehind_17, u_X0_writeBehind_21, u_X0_writeBehind_22, u_X0_writeBehind_25, u_X0_writeBehind_26, u_X0_writeBehind_27, u_X0_writeBehind_28, u_X0_writeBehind_31, u_X0_writeBehind_33, u_X0_writeBehind_34, u_X0_writeBehind_37, u_X0_writeBehind_40, u_X0_writeBehind_43, u_X0_writeBehind_46, u_X0_writeBehind_49, q.ob, h2, if_false, xgo_some, xgo_none, xgoI_none, xcat_n, xcat_i, xcat_r, xcat_z, List.length_nil, List.length_cons, List.getD_cons_zero, List.getD_cons_succ, List.set_cons_zero, List.set_cons_succ, Nat.zero_le, Nat.reduceAdd, Nat.reduceLeDiff, Nat.reduceEqDiff, reduceIte]
  | succ k ih =>
    intro i h n f l3 l4 hk qr q hn
    have hN := q.2.2
    have h2 : nI i < nI N := nI_lt (by omega) (by omega)
    obtain ⟨t1, t2⟩ := tmN_is N c i
    rw [wbF, List.length_append, List.length_replicate] at hn ⊢
    obtain ⟨g, a1, a2⟩ := lp_wbI (N := N) (c := c) hbr i (tmN N c i) t2 (tmN N c i) 0 h n f (by omega) qr q (by omega)
    have pt := m_Buf_times q (nI i)
    rw [t1] at pt
    obtain ⟨g2, b1, b2⟩ := ih (i + 1) (setRow h r (n + tmN N c i) g) (n + tmN N c i) g (some (.int (nI (tmN N c i)))) (some (.int (nI (tmN N c i)))) (by omega) (setRow_is (by omega)) (isBf_fr q xFr_row (by omega)) (by omega)
    refine ⟨g2, ?_, ?_⟩
    · rw [u_X0_writeBehind_2]
      simp only [u_X0_writeBehind_0, u_X0_writeBehind_1, u_X0_writeBehind_3, u_X0_writeBehind_4, u_X0_writeBehind_7, u_X0_writeBehind_10, u_X0_writeBehind_11, u_X0_writeBehind_12, u_X0_writeBehind_15, u_X0_writeBehind_16, u_X0_writeBehind_17, u_X0_writeBehind_21, u_X0_writeBehind_22, u_X0_writeBehind_25, u_X0_writeBehind_26, u_X0_writeBehind_27, u_X0_writeBehind_28, u_X0_writeBehind_31, u_X0_writeBehind_33, u_X0_writeBehind_34, u_X0_writeBehind_37, u_X0_writeBehind_40, u_X0_writeBehind_46, u_X0_writeBehind_49, h2, if_true, q.ob, pt, xgo_some, xgo_none, xgoI_none, xcat_n, xcat_i, xcat_r, xcat_z, List.length_nil, List.length_cons, List.getD_cons_zero, List.getD_cons_succ, List.set_cons_zero, List.set_cons_succ, Nat.zero_le, Nat.reduceAdd, Nat.reduceLeDiff, Nat.reduceEqDiff, reduceIte]
      rw [show (0 : Int32) = nI 0 from rfl, a1, u_X0_writeBehind_43]
      simp only [u_X0_writeBehind_46, nI_of1, xgo_some, xgo_none, xgoI_none, xcat_n, xcat_i, xcat_r, xcat_z, List.length_nil, List.length_cons, List.getD_cons_zero, List.getD_cons_succ, List.set_cons_zero, List.set_cons_succ, Nat.zero_le, Nat.reduceAdd, Nat.reduceLeDiff, Nat.reduceEqDiff, reduceIte]
      rw [b1, setRow_set, Nat.add_assoc]
    · rw [← Nat.add_assoc, b2, a2, List.append_assoc]
theorem m_Buf_write (hbr : r + 2 ≤ b ∨ b + 3 ≤ r) {n : Nat} {f : Nat → Int32} (qr : isRow h r n f) (q : isBf h b N c) (hn : n + (wbF N c 0 N).length ≤ 64) :
    ∃ g, xev 10 [.ref b, .ref r] h = some (.inl none, setRow h r (n + (wbF N c 0 N).length) g) ∧ seg g 0 (n + (wbF N c 0 N).length) = seg f 0 n ++ wbF N c 0 N := by
  obtain ⟨g, a1, a2⟩ := lp_wb hbr N 0 h n f none none (by omega) qr q hn
  refine ⟨g, ?_, a2⟩
  rw [e_X0_writeBehind]
  simp only [u_X0_writeBehind_0, u_X0_writeBehind_1, u_X0_writeBehind_3, u_X0_writeBehind_4, u_X0_writeBehind_7, u_X0_writeBehind_10, u_X0_writeBehind_11, u_X0_writeBehind_12, u_X0_writeBehind_15, u_X0_writeBehind_16, u_X0_writeBehind_17, u_X0_writeBehind_21, u_X0_writeBehind_22, u_X0_writeBehind_25, u_X0_writeBehind_26, u_X0_writeBehind_27, u_X0_writeBehind_28, u_X0_writeBehind_31, u_X0_writeBehind_33, u_X0_writeBehind_34, u_X0_writeBehind_37, u_X0_writeBehind_40, u_X0_writeBehind_46, u_X0_writeBehind_49, xgo_some, xgo_none, xgoI_none, xcat_n, xcat_i, xcat_r, xcat_z, List.length_nil, List.length_cons, List.getD_cons_zero, List.getD_cons_succ, List.set_cons_zero, List.set_cons_succ, Nat.zero_le, Nat.reduceAdd, Nat.reduceLeDiff, Nat.reduceEqDiff, reduceIte]
  exact a1
end BG
