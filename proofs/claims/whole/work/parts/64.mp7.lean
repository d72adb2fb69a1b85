/-! The model: append, part, next, setting, set. -/
section ND
variable {h : xH} {m : Nat}
theorem M_append {t : Int32} {P : pP} (p : isMP h m t P) (c : Int32) : outM m P cdB h (xev 133 [.ref m, .int c] h) (sp_append P c) := by
  obtain ⟨X, Hs, C⟩ := P
  obtain ⟨Z, D, A, q, z0, r, z4, h6, w, z6, hC, hT⟩ := p
  simp only at r z4 h6 w z6 hC hT
  have pp := m_in (h := h) c 33 126
  unfold sp_append
  rw [e_X8_append]
  by_cases h1 : c < 33 ∨ 126 < c
  · rw [if_pos h1]
    rw [if_neg (fun z => h1.elim z.1 z.2)] at pp
    have ph := m_holds q 1
    rw [if_neg i10] at ph
    refine ⟨_, 0, ?_, MP_no q r z4 h6 w z6 hC hT, xFr_mo _ _ _ _⟩
    simp only [u_X8_append_0, u_X8_append_1, u_X8_append_2, u_X8_append_4, u_X8_append_6, u_X8_append_9, u_X8_append_12, u_X8_append_13, u_X8_append_16, u_X8_append_17, u_X8_append_20, u_X8_append_22, u_X8_append_25, u_X8_append_26, u_X8_append_29, u_X8_append_30, u_X8_append_33, u_X8_append_36, u_X8_append_37, u_X8_append_38, u_X8_append_39, u_X8_append_42, u_X8_append_43, u_X8_append_46, u_X8_append_47, u_X8_append_48, u_X8_append_49, u_X8_append_50, u_X8_append_53, u_X8_append_54, u_X8_append_55, u_X8_append_58, u_X8_append_59, u_X8_append_62, q.ob, pp, ph, if_true, xgo_some, xgo_none, xgoI_none, xcat_n, xcat_i, xcat_r, xcat_z, List.length_nil, List.length_cons, List.getD_cons_zero, List.getD_cons_succ, List.set_cons_zero, List.set_cons_succ, Nat.zero_le, Nat.reduceAdd, Nat.reduceLeDiff, Nat.reduceEqDiff, reduceIte]
    rfl
  · rw [if_neg h1]
    rw [if_pos ⟨fun z => h1 (Or.inl z), fun z => h1 (Or.inr z)⟩] at pp
    by_cases h2 : C.length < 60
    · rw [if_pos h2]
      have n6 : ¬ nI C.length = 60 := fun z => by
        have := (nI_eq (b := 60) (by omega) (by omega)).mp z
        omega
      have ph := m_holds q 0
      rw [if_pos rfl] at ph
      have q0 := mo_z0 q 0
      have q1 := mo_w q0 (k := 4) (by decide) (by decide) C.length c
      have q2 := mo_z6 q1 (nI (C.length + 1))
      have hx : xix (nI C.length) 60 := xix_nI h2 (by decide)
      have e : (C ++ [c]).length = C.length + 1 := by rw [List.length_append]; rfl
      refine ⟨_, ?_, ⟨_, D, _, q2, by rw [va_up_ne _ _ (by decide), va_up_self], by rw [va_up_ne _ _ (show 1 ≠ 4 by decide)]; exact r, by rw [va_up_ne _ _ (by decide), va_up_ne _ _ (by decide)]; exact z4, h6, by rw [va_up_ne _ _ (show 3 ≠ 4 by decide)]; exact w, by rw [va_up_self, e], by simp only [e]; omega, fun i hi => ?_⟩, ((xFr_mo _ _ _ _).tr (xFr_si _ _ _ _ _ (by decide))).tr (xFr_mo _ _ _ _)⟩
      · simp only [u_X8_append_0, u_X8_append_1, u_X8_append_2, u_X8_append_4, u_X8_append_6, u_X8_append_9, u_X8_append_12, u_X8_append_13, u_X8_append_16, u_X8_append_17, u_X8_append_20, u_X8_append_22, u_X8_append_25, u_X8_append_26, u_X8_append_29, u_X8_append_30, u_X8_append_33, u_X8_append_36, u_X8_append_37, u_X8_append_38, u_X8_append_39, u_X8_append_42, u_X8_append_43, u_X8_append_46, u_X8_append_47, u_X8_append_48, u_X8_append_49, u_X8_append_50, u_X8_append_53, u_X8_append_54, u_X8_append_55, u_X8_append_58, u_X8_append_59, u_X8_append_62, q.ob, q0.ob, q0.a4, pp, ph, z6, n6, va_up_ne Z 0 (show 6 ≠ 0 by decide), hx, nI_clamp (show C.length < 2 ^ 31 by omega), q1.ob, q2.ob, va_up_self, nI_of1, i10, if_true, if_false, xgo_some, xgo_none, xgoI_none, xcat_n, xcat_i, xcat_r, xcat_z, List.length_nil, List.length_cons, List.getD_cons_zero, List.getD_cons_succ, List.set_cons_zero, List.set_cons_succ, Nat.zero_le, Nat.reduceAdd, Nat.reduceLeDiff, Nat.reduceEqDiff, reduceIte]
      · rw [va_up_self]
        have hi' : i < C.length + 1 := by rw [← e]; exact hi
        by_cases h5 : i = C.length
        · rw [h5, va_up_self, gd_sn2]
        · have h7 : i < C.length := by omega
          rw [va_up_ne _ _ h5, gd_sn1 h7]
          exact hT i h7
    · rw [if_neg h2]
      have n6 : nI C.length = 60 := by rw [show C.length = 60 by omega]; rfl
      have ph := m_holds q 2
      rw [if_neg (by decide)] at ph
      refine ⟨_, 0, ?_, MP_no q r z4 h6 w z6 hC hT, xFr_mo _ _ _ _⟩
      simp only [u_X8_append_0, u_X8_append_1, u_X8_append_2, u_X8_append_4, u_X8_append_6, u_X8_append_9, u_X8_append_12, u_X8_append_13, u_X8_append_16, u_X8_append_17, u_X8_append_20, u_X8_append_22, u_X8_append_25, u_X8_append_26, u_X8_append_29, u_X8_append_30, u_X8_append_33, u_X8_append_36, u_X8_append_37, u_X8_append_38, u_X8_append_39, u_X8_append_42, u_X8_append_43, u_X8_append_46, u_X8_append_47, u_X8_append_48, u_X8_append_49, u_X8_append_50, u_X8_append_53, u_X8_append_54, u_X8_append_55, u_X8_append_58, u_X8_append_59, u_X8_append_62, q.ob, pp, ph, z6, n6, i10, if_true, if_false, xgo_some, xgo_none, xgoI_none, xcat_n, xcat_i, xcat_r, xcat_z, List.length_nil, List.length_cons, List.getD_cons_zero, List.getD_cons_succ, List.set_cons_zero, List.set_cons_succ, Nat.zero_le, Nat.reduceAdd, Nat.reduceLeDiff, Nat.reduceEqDiff, reduceIte]
      rfl
theorem M_part {t : Int32} {P : pP} (p : isMP h m t P) (v : Int32) : outM m P cdB h (xev 137 [.ref m, .int v] h) (sp_part P v) := by
  obtain ⟨Z, D, A, q, z0, r, z4, h6, w, z6, hC, hT⟩ := p
  have r1 := r.1
  have hl := r.2.1
  unfold sp_part
  rw [e_X8_part]
  by_cases h1 : v < 0
  · rw [if_pos h1]
    have ph := m_holds q 1
    rw [if_neg i10] at ph
    refine ⟨_, 0, ?_, MP_no q r z4 h6 w z6 hC hT, xFr_mo _ _ _ _⟩
    simp only [u_X8_part_0, u_X8_part_1, u_X8_part_2, u_X8_part_5, u_X8_part_6, u_X8_part_9, u_X8_part_10, u_X8_part_13, u_X8_part_16, u_X8_part_17, u_X8_part_18, u_X8_part_21, u_X8_part_22, u_X8_part_23, u_X8_part_26, u_X8_part_27, u_X8_part_30, u_X8_part_31, u_X8_part_32, u_X8_part_33, u_X8_part_34, u_X8_part_37, u_X8_part_38, u_X8_part_41, u_X8_part_42, q.ob, ph, h1, if_true, xgo_some, xgo_none, xgoI_none, xcat_n, xcat_i, xcat_r, xcat_z, List.length_nil, List.length_cons, List.getD_cons_zero, List.getD_cons_succ, List.set_cons_zero, List.set_cons_succ, Nat.zero_le, Nat.reduceAdd, Nat.reduceLeDiff, Nat.reduceEqDiff, reduceIte]
    rfl
  · rw [if_neg h1]
    have ph := m_holds q 0
    rw [if_pos rfl] at ph
    have q0 := mo_z0 q 0
    obtain ⟨k, k1, k2⟩ := nI_of h1
    refine ⟨_, ?_, MP_no q r z4 h6 w z6 hC hT, xFr_mo _ _ _ _⟩
    by_cases h2 : v < nI P.1.1.length
    · have k3 : k < P.1.1.length := by rw [k2] at h2; exact (nI_ltI k1 (by omega)).mp h2
      have hx : xix (nI (1 + k)) 117 := xix_nI (by omega) (by decide)
      have es := r.2.2.1 k k3
      have ei : (1 : Int32) + v = nI (1 + k) := by rw [k2]; exact nI_s1 k
      rw [show clAt P.1.1.length (gd P.1.1) v = gd P.1.1 k by rw [k2]; exact clAt_nI k3 (by omega)]
      simp only [u_X8_part_0, u_X8_part_1, u_X8_part_2, u_X8_part_5, u_X8_part_6, u_X8_part_9, u_X8_part_10, u_X8_part_13, u_X8_part_16, u_X8_part_17, u_X8_part_18, u_X8_part_21, u_X8_part_22, u_X8_part_23, u_X8_part_26, u_X8_part_27, u_X8_part_30, u_X8_part_31, u_X8_part_32, u_X8_part_33, u_X8_part_34, u_X8_part_37, u_X8_part_38, u_X8_part_41, u_X8_part_42, q.ob, q0.ob, q0.a1, ph, h1, h2, x0117, c00, r1, ei, hx, nI_clamp (show 1 + k < 2 ^ 31 by omega), es, i10, if_true, if_false, xgo_some, xgo_none, xgoI_none, xcat_n, xcat_i, xcat_r, xcat_z, List.length_nil, List.length_cons, List.getD_cons_zero, List.getD_cons_succ, List.set_cons_zero, List.set_cons_succ, Nat.zero_le, Nat.reduceAdd, Nat.reduceLeDiff, Nat.reduceEqDiff, reduceIte]
    · rw [show clAt P.1.1.length (gd P.1.1) v = -1 by unfold clAt; rw [if_neg h1, if_neg h2]]
      simp only [u_X8_part_0, u_X8_part_1, u_X8_part_2, u_X8_part_5, u_X8_part_6, u_X8_part_9, u_X8_part_10, u_X8_part_13, u_X8_part_16, u_X8_part_17, u_X8_part_18, u_X8_part_21, u_X8_part_22, u_X8_part_23, u_X8_part_26, u_X8_part_27, u_X8_part_30, u_X8_part_31, u_X8_part_32, u_X8_part_33, u_X8_part_34, u_X8_part_37, u_X8_part_38, u_X8_part_41, u_X8_part_42, q.ob, q0.ob, q0.a1, ph, h1, h2, x0117, c00, r1, i10, if_false, xgo_some, xgo_none, xgoI_none, xcat_n, xcat_i, xcat_r, xcat_z, List.length_nil, List.length_cons, List.getD_cons_zero, List.getD_cons_succ, List.set_cons_zero, List.set_cons_succ, Nat.zero_le, Nat.reduceAdd, Nat.reduceLeDiff, Nat.reduceEqDiff, reduceIte]
end ND
