/-! The model: cut, name, nameAll. -/
section NA
variable {h : xH} {m : Nat}
theorem gd_take {L : List Int32} {k i : Nat} (hi : i < k) : gd (L.take k) i = gd L i := by
  unfold gd
  rw [List.getD_eq_getElem?_getD, List.getElem?_take_of_lt hi, List.getD_eq_getElem?_getD]
theorem rS_take {s : Nat → Int32} {L : List Int32} {T : xNs × Int32 × Int32 × Int32 × Int32} (r : rS s (L, T)) {k : Nat} (hk : k ≤ L.length) : rS (va_up s 0 (nI k)) (L.take k, T) := by
  have hl := r.2.1
  simp only at hl
  have e : (L.take k).length = k := by rw [List.length_take]; omega
  refine rS_len r (by rw [va_up_self, e]) (by omega) (fun i hi => ?_) (fun i h1 h2 => va_up_ne _ _ (by omega))
  rw [e] at hi
  rw [va_up_ne _ _ (by omega), gd_take hi]
  exact r.2.2.1 i (by simp only; omega)
theorem M_cut {t : Int32} {P : pP} {d : Nat → Nat} (p : isMP h m t P) (b : nsB P.1.2.1) (dd : dpt P.1.2.1 d) (v : Int32) : outM m P cdA h (xev 120 [.ref m, .int v] h) (sp_cut P v) := by
  obtain ⟨⟨L, N, a, rr, sp, go⟩, Hs, C⟩ := P
  obtain ⟨Z, D, A, q, z0, r, z4, h6, w, z6, hC, hT⟩ := p
  simp only at r z4 h6 w z6 hC hT b dd
  have hl := r.2.1
  have r1 := r.1
  simp only at hl r1
  have pp := m_in (h := h) v 0 (nI L.length)
  unfold sp_cut
  rw [e_X8_cut]
  simp only
  by_cases h1 : v < 0 ∨ nI L.length < v
  · rw [if_pos h1]
    rw [if_neg (fun z => h1.elim z.1 z.2)] at pp
    have ph := m_holds q 1
    rw [if_neg i10] at ph
    refine ⟨_, 0, ?_, MP_no q r z4 h6 w z6 hC hT, xFr_mo _ _ _ _⟩
    simp only [u_X8_cut_0, u_X8_cut_1, u_X8_cut_2, u_X8_cut_3, u_X8_cut_4, u_X8_cut_7, u_X8_cut_8, u_X8_cut_9, u_X8_cut_12, u_X8_cut_15, u_X8_cut_16, u_X8_cut_19, u_X8_cut_20, u_X8_cut_23, u_X8_cut_26, u_X8_cut_27, u_X8_cut_28, u_X8_cut_29, u_X8_cut_32, u_X8_cut_33, u_X8_cut_36, u_X8_cut_37, u_X8_cut_38, u_X8_cut_39, u_X8_cut_40, u_X8_cut_43, u_X8_cut_44, u_X8_cut_47, q.ob, q.a1, x0117, c00, r1, pp, ph, if_true, xgo_some, xgo_none, xgoI_none, xcat_n, xcat_i, xcat_r, xcat_z, List.length_nil, List.length_cons, List.getD_cons_zero, List.getD_cons_succ, List.set_cons_zero, List.set_cons_succ, Nat.zero_le, Nat.reduceAdd, Nat.reduceLeDiff, Nat.reduceEqDiff, reduceIte]
    rfl
  · rw [if_neg h1]
    rw [if_pos ⟨fun z => h1 (Or.inl z), fun z => h1 (Or.inr z)⟩] at pp
    obtain ⟨k, k1, k2⟩ := nI_of (show ¬ v < 0 from fun z => h1 (Or.inl z))
    have k3 : k ≤ L.length := by
      apply Nat.le_of_not_lt
      intro z
      exact h1 (Or.inr (by rw [k2]; exact nI_lt z k1))
    rw [show v.toNatClampNeg = k by rw [k2, nI_clamp k1]]
    have ph := m_holds q 0
    rw [if_pos rfl] at ph
    have q0 := mo_z0 q 0
    obtain ⟨h1', f, a1, a2, a3, a4⟩ := MP_save q0 r (by rw [va_up_ne _ _ (by decide)]; exact z4) h6 w
    have q1 := mo_w a2 (k := 1) (by decide) (by decide) 0 v
    rw [va_up_ne _ _ (show 1 ≠ 3 by decide)] at q1
    have rt := rS_take r k3
    rw [← k2] at rt
    obtain ⟨h2', g, N', b1, b2, b3, b4, b5, b6⟩ := m_sweep b q1 (by rw [va_up_self]; exact rt)
    have eN := sw_fg b dd b4 b5
    rw [va_up_up] at b2
    rw [eN] at b3
    have pn := m_names b2 (by rw [va_up_self]; exact b3)
    refine ⟨h2', ?_, MP_mk b2 (by rw [va_up_ne _ _ (by decide), va_up_self]) b3 (va_up_self _ _ _) (take6_le _) a3 (by rw [va_up_ne _ _ (by decide), va_up_ne _ _ (by decide)]; exact z6) hC hT, (((xFr_mo _ _ _ _).tr a4).tr (xFr_si _ _ _ _ _ (by decide))).tr b6⟩
    simp only [u_X8_cut_0, u_X8_cut_1, u_X8_cut_2, u_X8_cut_3, u_X8_cut_4, u_X8_cut_7, u_X8_cut_8, u_X8_cut_9, u_X8_cut_12, u_X8_cut_15, u_X8_cut_16, u_X8_cut_19, u_X8_cut_20, u_X8_cut_23, u_X8_cut_26, u_X8_cut_27, u_X8_cut_28, u_X8_cut_29, u_X8_cut_32, u_X8_cut_33, u_X8_cut_36, u_X8_cut_37, u_X8_cut_38, u_X8_cut_39, u_X8_cut_40, u_X8_cut_43, u_X8_cut_44, u_X8_cut_47, q.ob, q.a1, q0.ob, x0117, c00, r1, pp, ph, i10, a1, a2.ob, a2.a1, q1.ob, b1, b2.ob, pn, if_true, if_false, xgo_some, xgo_none, xgoI_none, xcat_n, xcat_i, xcat_r, xcat_z, List.length_nil, List.length_cons, List.getD_cons_zero, List.getD_cons_succ, List.set_cons_zero, List.set_cons_succ, Nat.zero_le, Nat.reduceAdd, Nat.reduceLeDiff, Nat.reduceEqDiff, reduceIte]
end NA
