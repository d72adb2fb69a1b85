/-! The model: name, nameAll, set, setting. -/
section NB
variable {h : xH} {m : Nat}
theorem M_name {t : Int32} {P : pP} {o : Nat} (p : isMP h m t P) (hR : rOk P.1.1) (eo : P.1.2.2.1 = nI o) (ho : 1 ≤ o) (ho2 : o < 2 ^ 31) (cd : Nat → Int32) : outM m P cd h (xev 127 [.ref m] h) (sp_name P) := by
  obtain ⟨X, Hs, C⟩ := P
  obtain ⟨Z, D, A, q, z0, r, z4, h6, w, z6, hC, hT⟩ := p
  simp only at r z4 h6 w z6 hC hT hR eo
  have q0 := mo_z0 q 0
  obtain ⟨h1, f, a1, a2, a3, a4⟩ := MP_save q0 r (by rw [va_up_ne _ _ (by decide)]; exact z4) h6 w
  obtain ⟨h2, Z2, g, b1, b2, b3, b4, b5⟩ := m_step a2 (by rw [va_up_ne _ _ (show 1 ≠ 3 by decide)]; exact r) hR eo ho ho2
  have es : sp_name (X, Hs, C) = .inl ((fdF X.1 X.2.1 X.2.2.1).2.2.2, stX X, (X :: Hs).take 6, C) := by
    unfold sp_name stX
    simp only
    by_cases e : (fdF X.1 X.2.1 X.2.2.1).2.2.2 = -1
    · rw [if_pos e, if_pos e, e]
    · rw [if_neg e, if_neg e]
  rw [es]
  refine ⟨h2, ?_, MP_mk b2 (by rw [b4 0 (by decide) (by decide) (by decide) (by decide), va_up_ne _ _ (by decide), va_up_self]) b3 (by rw [b4 4 (by decide) (by decide) (by decide) (by decide), va_up_self]) (take6_le _) a3 (by rw [b4 6 (by decide) (by decide) (by decide) (by decide), va_up_ne _ _ (by decide), va_up_ne _ _ (by decide)]; exact z6) hC hT, ((xFr_mo _ _ _ _).tr a4).tr b5⟩
  rw [e_X8_name]
  simp only [u_X8_name_0, u_X8_name_1, u_X8_name_2, u_X8_name_5, u_X8_name_6, u_X8_name_9, u_X8_name_10, u_X8_name_13, q.ob, q0.ob, a1, a2.ob, b1, xgo_some, xgo_none, xgoI_none, xcat_n, xcat_i, xcat_r, xcat_z, List.length_nil, List.length_cons, List.getD_cons_zero, List.getD_cons_succ, List.set_cons_zero, List.set_cons_succ, Nat.zero_le, Nat.reduceAdd, Nat.reduceLeDiff, Nat.reduceEqDiff, reduceIte]
theorem M_nameAll {t : Int32} {P : pP} {o : Nat} (p : isMP h m t P) (hR : rOk P.1.1) (eo : P.1.2.2.1 = nI o) (ho : 1 ≤ o) (ho2 : o < 2 ^ 31) (cd : Nat → Int32) : outM m P cd h (xev 128 [.ref m] h) (sp_nameAll P) := by
  obtain ⟨X, Hs, C⟩ := P
  obtain ⟨Z, D, A, q, z0, r, z4, h6, w, z6, hC, hT⟩ := p
  simp only at r z4 h6 w z6 hC hT hR eo
  have q0 := mo_z0 q 0
  obtain ⟨h1, f, a1, a2, a3, a4⟩ := MP_save q0 r (by rw [va_up_ne _ _ (by decide)]; exact z4) h6 w
  obtain ⟨h2, Z2, g, b1, b2, b3, b4, b5⟩ := m_steps a2 (by rw [va_up_ne _ _ (show 1 ≠ 3 by decide)]; exact r) hR eo ho ho2
  refine ⟨h2, ?_, MP_mk b2 (by rw [b4 0 (by decide) (by decide) (by decide) (by decide), va_up_ne _ _ (by decide), va_up_self]) b3 (by rw [b4 4 (by decide) (by decide) (by decide) (by decide), va_up_self]) (take6_le _) a3 (by rw [b4 6 (by decide) (by decide) (by decide) (by decide), va_up_ne _ _ (by decide), va_up_ne _ _ (by decide)]; exact z6) hC hT, ((xFr_mo _ _ _ _).tr a4).tr b5⟩
  rw [e_X8_nameAll]
  simp only [u_X8_nameAll_0, u_X8_nameAll_1, u_X8_nameAll_2, u_X8_nameAll_5, u_X8_nameAll_6, u_X8_nameAll_9, u_X8_nameAll_10, u_X8_nameAll_13, q.ob, q0.ob, a1, a2.ob, b1, xgo_some, xgo_none, xgoI_none, xcat_n, xcat_i, xcat_r, xcat_z, List.length_nil, List.length_cons, List.getD_cons_zero, List.getD_cons_succ, List.set_cons_zero, List.set_cons_succ, Nat.zero_le, Nat.reduceAdd, Nat.reduceLeDiff, Nat.reduceEqDiff, reduceIte]
end NB
