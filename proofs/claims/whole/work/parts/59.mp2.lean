/-! The model: calls, one by one. -/
section MY
variable {h : xH} {m : Nat}
theorem M_letGo {t : Int32} {P : pP} (p : isMP h m t P) (b : nsB P.1.2.1) (cd : Nat → Int32) : outM m P cd h (xev 130 [.ref m] h) (sp_letGo P) := by
  obtain ⟨⟨L, N, a, rr, sp, go⟩, Hs, C⟩ := P
  obtain ⟨Z, D, A, q, z0, r, z4, h6, w, z6, hC, hT⟩ := p
  simp only at r z4 h6 w z6 hC hT b
  have q0 := mo_z0 q 0
  obtain ⟨h1, f, a1, a2, a3, a4⟩ := MP_save q0 r (by rw [va_up_ne _ _ (by decide)]; exact z4) h6 w
  have hn := namN_le N.1 16 8
  obtain ⟨h2, f2, j, l2, l3, b1, b2, ⟨L', N', b3, b4⟩, b5⟩ := lp_lets 16 h1 _ L N a rr sp go 0 none hn a2 (by rw [va_up_ne _ _ (show 1 ≠ 3 by decide)]; exact r) b go
  have q3 := mo_w b2 (k := 1) (by decide) (by decide) 116 (go + nI j)
  rw [va_up_self, va_up_up] at q3
  have r3 := rS_go b4 (go + nI j)
  have e116 : f2 116 = go := b4.2.2.2.2.2.2.2
  unfold sp_letGo
  simp only
  rw [b3]
  have ev : go + nI j - go = nI (0 + j) := by rw [Int32.add_comm, Nat.zero_add]; exact Int32.add_sub_cancel _ _
  simp only
  rw [ev]
  refine ⟨_, ?_, ⟨_, _, _, q3, ?_, ?_, ?_, take6_le _, ?_, ?_, hC, ?_⟩, (((xFr_mo _ _ _ _).tr a4).tr b5).tr (xFr_si _ _ _ _ _ (by decide))⟩
  · rw [e_X8_letGo]
    simp only [u_X8_letGo_0, u_X8_letGo_1, u_X8_letGo_2, u_X8_letGo_5, u_X8_letGo_6, u_X8_letGo_9, u_X8_letGo_10, u_X8_letGo_11, u_X8_letGo_13, q.ob, q0.ob, a1, xgo_some, xgo_none, xgoI_none, xcat_n, xcat_i, xcat_r, xcat_z, List.length_nil, List.length_cons, List.getD_cons_zero, List.getD_cons_succ, List.set_cons_zero, List.set_cons_succ, Nat.zero_le, Nat.reduceAdd, Nat.reduceLeDiff, Nat.reduceEqDiff, reduceIte]
    rw [show (0 : Int32) = nI 0 from rfl]
    rw [show (nI 0 : Int32) = 0 from rfl] at b1 ⊢
    rw [b1, u_X8_letGo_92]
    simp only [u_X8_letGo_93, u_X8_letGo_96, u_X8_letGo_98, u_X8_letGo_99, u_X8_letGo_100, u_X8_letGo_101, u_X8_letGo_102, u_X8_letGo_103, u_X8_letGo_104, b2.ob, b2.a1, q3.ob, x116, c116, va_up_self, e116, Nat.zero_add, xgo_some, xgo_none, xgoI_none, xcat_n, xcat_i, xcat_r, xcat_z, List.length_nil, List.length_cons, List.getD_cons_zero, List.getD_cons_succ, List.set_cons_zero, List.set_cons_succ, Nat.zero_le, Nat.reduceAdd, Nat.reduceLeDiff, Nat.reduceEqDiff, reduceIte]
  · rw [va_up_ne _ _ (by decide), va_up_self]
  · rw [va_up_self]; exact r3
  · rw [va_up_self]
  · rw [va_up_ne _ _ (show 3 ≠ 1 by decide), va_up_self]; exact a3
  · rw [va_up_ne _ _ (by decide), va_up_ne _ _ (by decide)]; exact z6
  · intro i hi
    rw [va_up_ne _ _ (show 4 ≠ 1 by decide), va_up_ne _ _ (show 4 ≠ 3 by decide)]
    exact hT i hi
end MY
