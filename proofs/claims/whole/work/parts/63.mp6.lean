/-! The model: the buffer's calls, part, pair. -/
section NC
variable {h : xH} {m : Nat}
def cdB (e : Nat) : Int32 := if e = 0 then 1 else 2
theorem M_clear {t : Int32} {P : pP} (p : isMP h m t P) (cd : Nat → Int32) : outM m P cd h (xev 134 [.ref m] h) (sp_clear P) := by
  obtain ⟨X, Hs, C⟩ := P
  obtain ⟨Z, D, A, q, z0, r, z4, h6, w, z6, hC, hT⟩ := p
  simp only at r z4 h6 w z6 hC hT
  have q0 := mo_z0 q 0
  have q1 := mo_z6 q0 0
  refine ⟨_, ?_, ⟨_, D, A, q1, by rw [va_up_ne _ _ (by decide), va_up_self], r, by rw [va_up_ne _ _ (by decide), va_up_ne _ _ (by decide)]; exact z4, h6, w, va_up_self _ _ _, Nat.zero_le _, fun i hi => absurd hi (Nat.not_lt_zero _)⟩, (xFr_mo _ _ _ _).tr (xFr_mo _ _ _ _)⟩
  rw [e_X8_clearBuffer]
  simp only [u_X8_clearBuffer_0, u_X8_clearBuffer_1, u_X8_clearBuffer_2, u_X8_clearBuffer_5, u_X8_clearBuffer_6, u_X8_clearBuffer_9, u_X8_clearBuffer_10, u_X8_clearBuffer_11, u_X8_clearBuffer_12, u_X8_clearBuffer_15, u_X8_clearBuffer_16, q.ob, q0.ob, va_up_ne Z 0 (show 6 ≠ 0 by decide), z6, xgo_some, xgo_none, xgoI_none, xcat_n, xcat_i, xcat_r, xcat_z, List.length_nil, List.length_cons, List.getD_cons_zero, List.getD_cons_succ, List.set_cons_zero, List.set_cons_succ, Nat.zero_le, Nat.reduceAdd, Nat.reduceLeDiff, Nat.reduceEqDiff, reduceIte]
theorem M_pair {t : Int32} {P : pP} (p : isMP h m t P) (u v : Int32) : outM m P (fun _ => 1) h (xev 141 [.ref m, .int u, .int v] h) (sp_pair P u v) := by
  obtain ⟨Z, D, A, q, z0, r, z4, h6, w, z6, hC, hT⟩ := p
  have p1 := m_isPart q r u
  have p2 := m_isPart q r v
  have ph1 := m_holds q 1
  rw [if_neg i10] at ph1
  have ph0 := m_holds q 0
  rw [if_pos rfl] at ph0
  unfold sp_pair
  rw [e_X8_pair]
  cases e1 : hasP P.1.2.1.1 u with
  | false =>
    rw [e1] at p1
    rw [if_neg (fun z => absurd z.1 (by decide))]
    refine ⟨_, 0, ?_, MP_no q r z4 h6 w z6 hC hT, xFr_mo _ _ _ _⟩
    simp only [u_X8_pair_0, u_X8_pair_1, u_X8_pair_2, u_X8_pair_3, u_X8_pair_6, u_X8_pair_9, u_X8_pair_10, u_X8_pair_11, u_X8_pair_14, u_X8_pair_17, u_X8_pair_18, u_X8_pair_21, u_X8_pair_22, u_X8_pair_25, u_X8_pair_28, u_X8_pair_29, u_X8_pair_30, u_X8_pair_31, u_X8_pair_34, u_X8_pair_37, u_X8_pair_38, q.ob, p1, ph1, b32_f, if_true, xgo_some, xgo_none, xgoI_none, xcat_n, xcat_i, xcat_r, xcat_z, List.length_nil, List.length_cons, List.getD_cons_zero, List.getD_cons_succ, List.set_cons_zero, List.set_cons_succ, Nat.zero_le, Nat.reduceAdd, Nat.reduceLeDiff, Nat.reduceEqDiff, reduceIte]
  | true =>
    rw [e1] at p1
    cases e2 : hasP P.1.2.1.1 v with
    | false =>
      rw [e2] at p2
      rw [if_neg (fun z => absurd z.2 (by decide))]
      refine ⟨_, 0, ?_, MP_no q r z4 h6 w z6 hC hT, xFr_mo _ _ _ _⟩
      simp only [u_X8_pair_0, u_X8_pair_1, u_X8_pair_2, u_X8_pair_3, u_X8_pair_6, u_X8_pair_9, u_X8_pair_10, u_X8_pair_11, u_X8_pair_14, u_X8_pair_17, u_X8_pair_18, u_X8_pair_21, u_X8_pair_22, u_X8_pair_25, u_X8_pair_28, u_X8_pair_29, u_X8_pair_30, u_X8_pair_31, u_X8_pair_34, u_X8_pair_37, u_X8_pair_38, q.ob, p1, p2, ph1, b32_f, b32_t, i10, if_true, if_false, xgo_some, xgo_none, xgoI_none, xcat_n, xcat_i, xcat_r, xcat_z, List.length_nil, List.length_cons, List.getD_cons_zero, List.getD_cons_succ, List.set_cons_zero, List.set_cons_succ, Nat.zero_le, Nat.reduceAdd, Nat.reduceLeDiff, Nat.reduceEqDiff, reduceIte]
    | true =>
      rw [e2] at p2
      rw [if_pos ⟨rfl, rfl⟩]
      have q0 := mo_z0 q 0
      have po := m_occurs q0 r u v
      refine ⟨_, ?_, MP_no q r z4 h6 w z6 hC hT, xFr_mo _ _ _ _⟩
      simp only [u_X8_pair_0, u_X8_pair_1, u_X8_pair_2, u_X8_pair_3, u_X8_pair_6, u_X8_pair_9, u_X8_pair_10, u_X8_pair_11, u_X8_pair_14, u_X8_pair_17, u_X8_pair_18, u_X8_pair_21, u_X8_pair_22, u_X8_pair_25, u_X8_pair_28, u_X8_pair_29, u_X8_pair_30, u_X8_pair_31, u_X8_pair_34, u_X8_pair_37, u_X8_pair_38, q.ob, q0.ob, p1, p2, ph0, po, b32_t, i10, if_true, if_false, xgo_some, xgo_none, xgoI_none, xcat_n, xcat_i, xcat_r, xcat_z, List.length_nil, List.length_cons, List.getD_cons_zero, List.getD_cons_succ, List.set_cons_zero, List.set_cons_succ, Nat.zero_le, Nat.reduceAdd, Nat.reduceLeDiff, Nat.reduceEqDiff, reduceIte]
end NC
