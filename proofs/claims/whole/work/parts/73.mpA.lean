/-! The model: sign, about, count, times, next. -/
section NG
variable {h : xH} {m : Nat} {d l : Nat → Nat}
theorem hasP_ex {N : xNs} {p : Int32} (hp : hasP N.1 p = true) : ∃ k, k < 24 ∧ p = nI k ∧ hsN N k := by
  unfold hasP at hp
  by_cases h8 : p < 8
  · rw [if_pos h8] at hp
    obtain ⟨k, k1, k2⟩ := nI_of (of_decide_eq_true hp)
    have k3 : k < 8 := by rw [k2] at h8; exact (nI_ltI (b := 8) k1 (by decide)).mp h8
    exact ⟨k, by omega, k2, Or.inl k3⟩
  · rw [if_neg h8] at hp
    have hp := of_decide_eq_true hp
    unfold clAt at hp
    by_cases h0 : p < 0
    · rw [if_pos h0] at hp; exact absurd rfl hp
    · rw [if_neg h0] at hp
      by_cases h24 : p < nI 24
      · rw [if_pos h24] at hp
        obtain ⟨k, k1, k2⟩ := nI_of h0
        have k3 : k < 24 := by rw [k2] at h24; exact (nI_ltI k1 (by decide)).mp h24
        rw [k2, nI_clamp k1] at hp
        exact ⟨k, k3, k2, Or.inr hp⟩
      · rw [if_neg h24] at hp; exact absurd rfl hp
theorem M_sign {t : Int32} {P : pP} (p : isMP h m t P) (w0 : wfN P.1.2.1 d l) (pr : rPr P.1.1 P.1.2.1) (v : Int32) : outM m P (fun _ => 1) h (xev 138 [.ref m, .int v] h) (sp_sign P v) := by
  obtain ⟨Z, D, A, q, z0, r, z4, h6, w, z6, hC, hT⟩ := p
  obtain ⟨h1, A1, a1, a2, a3, a4, a5⟩ := m_layOut q r w0
  have r' : rS (A1 1) P.1 := by rw [a3 1 (by decide)]; exact r
  have w' : svR (A1 3) P.2.1.reverse := by rw [a3 3 (by decide)]; exact w
  have hT' : ∀ i, i < P.2.2.length → A1 4 i = gd P.2.2 i := by rw [a3 4 (by decide)]; exact hT
  unfold sp_sign
  rw [e_X8_sign]
  by_cases h0 : v < 0
  · rw [if_pos h0]
    have ph := m_holds a2 1
    rw [if_neg i10] at ph
    refine ⟨_, 0, ?_, MP_no a2 r' z4 h6 w' z6 hC hT', a5.tr (xFr_mo _ _ _ _)⟩
    simp only [u_X8_sign_0, u_X8_sign_1, u_X8_sign_4, u_X8_sign_5, u_X8_sign_6, u_X8_sign_9, u_X8_sign_10, u_X8_sign_13, u_X8_sign_14, u_X8_sign_17, u_X8_sign_20, u_X8_sign_21, u_X8_sign_22, u_X8_sign_25, u_X8_sign_28, u_X8_sign_29, q.ob, a1, a2.ob, h0, ph, if_true, xgo_some, xgo_none, xgoI_none, xcat_n, xcat_i, xcat_r, xcat_z, List.length_nil, List.length_cons, List.getD_cons_zero, List.getD_cons_succ, List.set_cons_zero, List.set_cons_succ, Nat.zero_le, Nat.reduceAdd, Nat.reduceLeDiff, Nat.reduceEqDiff, reduceIte]
  · rw [if_neg h0]
    have ph := m_holds a2 0
    rw [if_pos rfl] at ph
    have q0 := mo_z0 a2 0
    have ps := m_sg q0 r' w0 a4 pr v
    refine ⟨_, ?_, MP_no a2 r' z4 h6 w' z6 hC hT', a5.tr (xFr_mo _ _ _ _)⟩
    simp only [u_X8_sign_0, u_X8_sign_1, u_X8_sign_4, u_X8_sign_5, u_X8_sign_6, u_X8_sign_9, u_X8_sign_10, u_X8_sign_13, u_X8_sign_14, u_X8_sign_17, u_X8_sign_20, u_X8_sign_21, u_X8_sign_22, u_X8_sign_25, u_X8_sign_28, u_X8_sign_29, q.ob, a1, a2.ob, h0, ph, i10, q0.ob, ps, if_false, xgo_some, xgo_none, xgoI_none, xcat_n, xcat_i, xcat_r, xcat_z, List.length_nil, List.length_cons, List.getD_cons_zero, List.getD_cons_succ, List.set_cons_zero, List.set_cons_succ, Nat.zero_le, Nat.reduceAdd, Nat.reduceLeDiff, Nat.reduceEqDiff, reduceIte]
theorem M_about {t : Int32} {P : pP} (p : isMP h m t P) (w0 : wfN P.1.2.1 d l) (u v : Int32) : outM m P cdA h (xev 140 [.ref m, .int u, .int v] h) (sp_about P u v) := by
  obtain ⟨Z, D, A, q, z0, r, z4, h6, w, z6, hC, hT⟩ := p
  obtain ⟨h1, A1, a1, a2, a3, a4, a5⟩ := m_layOut q r w0
  have r' : rS (A1 1) P.1 := by rw [a3 1 (by decide)]; exact r
  have w' : svR (A1 3) P.2.1.reverse := by rw [a3 3 (by decide)]; exact w
  have hT' : ∀ i, i < P.2.2.length → A1 4 i = gd P.2.2 i := by rw [a3 4 (by decide)]; exact hT
  have pp := m_isPart a2 r' u
  have pi := m_in (h := h1) v 0 7
  unfold sp_about
  rw [e_X8_about]
  cases e1 : hasP P.1.2.1.1 u with
  | false =>
    rw [e1] at pp
    rw [if_neg (by decide)]
    have ph := m_holds a2 1
    rw [if_neg i10] at ph
    refine ⟨_, 0, ?_, MP_no a2 r' z4 h6 w' z6 hC hT', a5.tr (xFr_mo _ _ _ _)⟩
    simp only [u_X8_about_0, u_X8_about_1, u_X8_about_4, u_X8_about_5, u_X8_about_6, u_X8_about_7, u_X8_about_10, u_X8_about_13, u_X8_about_14, u_X8_about_17, u_X8_about_18, u_X8_about_19, u_X8_about_21, u_X8_about_24, u_X8_about_27, u_X8_about_28, u_X8_about_31, u_X8_about_32, u_X8_about_35, u_X8_about_38, u_X8_about_39, u_X8_about_40, u_X8_about_41, u_X8_about_44, u_X8_about_47, u_X8_about_48, q.ob, a1, a2.ob, pp, ph, b32_f, if_true, xgo_some, xgo_none, xgoI_none, xcat_n, xcat_i, xcat_r, xcat_z, List.length_nil, List.length_cons, List.getD_cons_zero, List.getD_cons_succ, List.set_cons_zero, List.set_cons_succ, Nat.zero_le, Nat.reduceAdd, Nat.reduceLeDiff, Nat.reduceEqDiff, reduceIte]
    rfl
  | true =>
    rw [e1] at pp
    rw [if_pos rfl]
    by_cases hv : v < 0 ∨ 7 < v
    · rw [if_pos hv]
      rw [if_neg (fun z => hv.elim z.1 z.2)] at pi
      have ph := m_holds a2 2
      rw [if_neg (by decide)] at ph
      refine ⟨_, 0, ?_, MP_no a2 r' z4 h6 w' z6 hC hT', a5.tr (xFr_mo _ _ _ _)⟩
      simp only [u_X8_about_0, u_X8_about_1, u_X8_about_4, u_X8_about_5, u_X8_about_6, u_X8_about_7, u_X8_about_10, u_X8_about_13, u_X8_about_14, u_X8_about_17, u_X8_about_18, u_X8_about_19, u_X8_about_21, u_X8_about_24, u_X8_about_27, u_X8_about_28, u_X8_about_31, u_X8_about_32, u_X8_about_35, u_X8_about_38, u_X8_about_39, u_X8_about_40, u_X8_about_41, u_X8_about_44, u_X8_about_47, u_X8_about_48, q.ob, a1, a2.ob, pp, pi, i10, ph, b32_t, if_true, if_false, xgo_some, xgo_none, xgoI_none, xcat_n, xcat_i, xcat_r, xcat_z, List.length_nil, List.length_cons, List.getD_cons_zero, List.getD_cons_succ, List.set_cons_zero, List.set_cons_succ, Nat.zero_le, Nat.reduceAdd, Nat.reduceLeDiff, Nat.reduceEqDiff, reduceIte]
      rfl
    · rw [if_neg hv]
      rw [if_pos ⟨fun z => hv (Or.inl z), fun z => hv (Or.inr z)⟩] at pi
      have ph := m_holds a2 0
      rw [if_pos rfl] at ph
      have q0 := mo_z0 a2 0
      obtain ⟨k, k24, ek, hk⟩ := hasP_ex e1
      have pa := m_abo q0 r' w0 a4 k24 hk v
      rw [← ek] at pa
      refine ⟨_, ?_, MP_no a2 r' z4 h6 w' z6 hC hT', a5.tr (xFr_mo _ _ _ _)⟩
      simp only [u_X8_about_0, u_X8_about_1, u_X8_about_4, u_X8_about_5, u_X8_about_6, u_X8_about_7, u_X8_about_10, u_X8_about_13, u_X8_about_14, u_X8_about_17, u_X8_about_18, u_X8_about_19, u_X8_about_21, u_X8_about_24, u_X8_about_27, u_X8_about_28, u_X8_about_31, u_X8_about_32, u_X8_about_35, u_X8_about_38, u_X8_about_39, u_X8_about_40, u_X8_about_41, u_X8_about_44, u_X8_about_47, u_X8_about_48, q.ob, a1, a2.ob, pp, pi, i10, ph, q0.ob, pa, b32_t, if_true, if_false, xgo_some, xgo_none, xgoI_none, xcat_n, xcat_i, xcat_r, xcat_z, List.length_nil, List.length_cons, List.getD_cons_zero, List.getD_cons_succ, List.set_cons_zero, List.set_cons_succ, Nat.zero_le, Nat.reduceAdd, Nat.reduceLeDiff, Nat.reduceEqDiff, reduceIte]
theorem M_count {t : Int32} {P : pP} (p : isMP h m t P) (w0 : wfN P.1.2.1 d l) (pr : rPr P.1.1 P.1.2.1) (v : Int32) : outM m P (fun _ => 1) h (xev 146 [.ref m, .int v] h) (sp_count P v) := by
  obtain ⟨Z, D, A, q, z0, r, z4, h6, w, z6, hC, hT⟩ := p
  obtain ⟨h1, A1, a1, a2, a3, a4, a5⟩ := m_layOut q r w0
  have r' : rS (A1 1) P.1 := by rw [a3 1 (by decide)]; exact r
  have w' : svR (A1 3) P.2.1.reverse := by rw [a3 3 (by decide)]; exact w
  have hT' : ∀ i, i < P.2.2.length → A1 4 i = gd P.2.2 i := by rw [a3 4 (by decide)]; exact hT
  have pi := m_in (h := h1) v 0 8
  unfold sp_count
  rw [e_X8_count]
  by_cases hv : v < 0 ∨ 8 < v
  · rw [if_pos hv]
    rw [if_neg (fun z => hv.elim z.1 z.2)] at pi
    have ph := m_holds a2 1
    rw [if_neg i10] at ph
    refine ⟨_, 0, ?_, MP_no a2 r' z4 h6 w' z6 hC hT', a5.tr (xFr_mo _ _ _ _)⟩
    simp only [u_X8_count_0, u_X8_count_1, u_X8_count_4, u_X8_count_5, u_X8_count_6, u_X8_count_7, u_X8_count_9, u_X8_count_12, u_X8_count_15, u_X8_count_16, u_X8_count_19, u_X8_count_20, u_X8_count_23, u_X8_count_26, u_X8_count_27, u_X8_count_28, u_X8_count_31, u_X8_count_34, u_X8_count_35, q.ob, a1, a2.ob, pi, ph, if_true, xgo_some, xgo_none, xgoI_none, xcat_n, xcat_i, xcat_r, xcat_z, List.length_nil, List.length_cons, List.getD_cons_zero, List.getD_cons_succ, List.set_cons_zero, List.set_cons_succ, Nat.zero_le, Nat.reduceAdd, Nat.reduceLeDiff, Nat.reduceEqDiff, reduceIte]
  · rw [if_neg hv]
    have v0 : ¬ v < 0 := fun z => hv (Or.inl z)
    have v8 : ¬ (8 : Int32) < v := fun z => hv (Or.inr z)
    rw [if_pos ⟨v0, v8⟩] at pi
    have ph := m_holds a2 0
    rw [if_pos rfl] at ph
    have q0 := mo_z0 a2 0
    have pc := m_cou q0 r' a4 pr (show va_up Z 0 0 4 = nI P.2.1.length by rw [va_up_ne _ _ (by decide)]; exact z4) v0 v8
    refine ⟨_, ?_, MP_no a2 r' z4 h6 w' z6 hC hT', a5.tr (xFr_mo _ _ _ _)⟩
    simp only [u_X8_count_0, u_X8_count_1, u_X8_count_4, u_X8_count_5, u_X8_count_6, u_X8_count_7, u_X8_count_9, u_X8_count_12, u_X8_count_15, u_X8_count_16, u_X8_count_19, u_X8_count_20, u_X8_count_23, u_X8_count_26, u_X8_count_27, u_X8_count_28, u_X8_count_31, u_X8_count_34, u_X8_count_35, q.ob, a1, a2.ob, pi, ph, i10, q0.ob, pc, if_false, xgo_some, xgo_none, xgoI_none, xcat_n, xcat_i, xcat_r, xcat_z, List.length_nil, List.length_cons, List.getD_cons_zero, List.getD_cons_succ, List.set_cons_zero, List.set_cons_succ, Nat.zero_le, Nat.reduceAdd, Nat.reduceLeDiff, Nat.reduceEqDiff, reduceIte]
    rfl
theorem M_times {t : Int32} {P : pP} (p : isMP h m t P) (w0 : wfN P.1.2.1 d l) (pr : rPr P.1.1 P.1.2.1) (v : Int32) : outM m P (fun _ => 1) h (xev 148 [.ref m, .int v] h) (sp_times P v) := by
  obtain ⟨Z, D, A, q, z0, r, z4, h6, w, z6, hC, hT⟩ := p
  obtain ⟨h1, A1, a1, a2, a3, a4, a5⟩ := m_layOut q r w0
  have r' : rS (A1 1) P.1 := by rw [a3 1 (by decide)]; exact r
  have w' : svR (A1 3) P.2.1.reverse := by rw [a3 3 (by decide)]; exact w
  have hT' : ∀ i, i < P.2.2.length → A1 4 i = gd P.2.2 i := by rw [a3 4 (by decide)]; exact hT
  have pi := m_in (h := h1) v 0 7
  unfold sp_times
  rw [e_X8_times]
  by_cases hv : v < 0 ∨ ¬ v < 8
  · rw [if_pos hv]
    have hz : ¬ (¬ v < 0 ∧ ¬ 7 < v) := by
      intro z
      obtain ⟨k, k1, k2⟩ := nI_of z.1
      have k3 : k ≤ 7 := by
        apply Nat.le_of_not_lt
        intro y
        exact z.2 (by rw [k2]; exact nI_lt (a := 7) y k1)
      exact hv.elim z.1 (fun y => y (by rw [k2]; exact nI_lt (b := 8) (by omega) (by decide)))
    rw [if_neg hz] at pi
    have ph := m_holds a2 1
    rw [if_neg i10] at ph
    refine ⟨_, 0, ?_, MP_no a2 r' z4 h6 w' z6 hC hT', a5.tr (xFr_mo _ _ _ _)⟩
    simp only [u_X8_times_0, u_X8_times_1, u_X8_times_4, u_X8_times_5, u_X8_times_6, u_X8_times_7, u_X8_times_9, u_X8_times_12, u_X8_times_15, u_X8_times_16, u_X8_times_19, u_X8_times_20, u_X8_times_23, u_X8_times_26, u_X8_times_27, u_X8_times_28, u_X8_times_31, u_X8_times_34, u_X8_times_35, q.ob, a1, a2.ob, pi, ph, if_true, xgo_some, xgo_none, xgoI_none, xcat_n, xcat_i, xcat_r, xcat_z, List.length_nil, List.length_cons, List.getD_cons_zero, List.getD_cons_succ, List.set_cons_zero, List.set_cons_succ, Nat.zero_le, Nat.reduceAdd, Nat.reduceLeDiff, Nat.reduceEqDiff, reduceIte]
  · rw [if_neg hv]
    have v0 : ¬ v < 0 := fun z => hv (Or.inl z)
    have v8 : v < 8 := Classical.byContradiction (fun z => hv (Or.inr z))
    obtain ⟨k, k1, k2⟩ := nI_of v0
    have k3 : k < 8 := by rw [k2] at v8; exact (nI_ltI (b := 8) k1 (by decide)).mp v8
    have hz : ¬ v < 0 ∧ ¬ 7 < v := ⟨v0, by rw [k2]; exact nI_nlt (a := 7) (by omega) (by omega)⟩
    rw [if_pos hz] at pi
    have ph := m_holds a2 0
    rw [if_pos rfl] at ph
    have q0 := mo_z0 a2 0
    have pt := m_tms q0 r' a4 pr k3
    rw [← k2] at pt
    rw [show v.toNatClampNeg = k by rw [k2, nI_clamp k1]]
    refine ⟨_, ?_, MP_no a2 r' z4 h6 w' z6 hC hT', a5.tr (xFr_mo _ _ _ _)⟩
    simp only [u_X8_times_0, u_X8_times_1, u_X8_times_4, u_X8_times_5, u_X8_times_6, u_X8_times_7, u_X8_times_9, u_X8_times_12, u_X8_times_15, u_X8_times_16, u_X8_times_19, u_X8_times_20, u_X8_times_23, u_X8_times_26, u_X8_times_27, u_X8_times_28, u_X8_times_31, u_X8_times_34, u_X8_times_35, q.ob, a1, a2.ob, pi, ph, i10, q0.ob, pt, if_false, xgo_some, xgo_none, xgoI_none, xcat_n, xcat_i, xcat_r, xcat_z, List.length_nil, List.length_cons, List.getD_cons_zero, List.getD_cons_succ, List.set_cons_zero, List.set_cons_succ, Nat.zero_le, Nat.reduceAdd, Nat.reduceLeDiff, Nat.reduceEqDiff, reduceIte]
theorem m_nextOf {Z : Nat → Int32} {D : Int64} {A : Nat → Nat → Int32} {X : xS} {o : Nat} (q : isMo h m Z D A) (r : rS (A 1) X) (hR : rOk X.1) (eo : X.2.2.1 = nI o) (ho : 1 ≤ o) (ho2 : o < 2 ^ 31) (v : Int32) :
    ∃ h' Z', xev 142 [.ref m, .int v] h = some (.inl (some (.int (finG (fdF X.1 X.2.1 X.2.2.1) v))), h') ∧ isMo h' m Z' D A ∧ zE Z Z' ∧ xFr m (m + 10) h h' := by
  obtain ⟨h', Z', a1, a2, a3, a4, a5, a6⟩ := m_find q r
  obtain ⟨f1, f2⟩ := mf_all r.2.1 hR X.2.1 ho ho2 (Z 15) (Z 16)
  rw [← eo] at f1 f2
  rw [f1] at a5
  refine ⟨h', Z', ?_, a2, a3, a6⟩
  rw [e_X8_nextOf]
  unfold finG fdF
  by_cases g : fdG X.1 X.2.1 X.2.2.1 = -1
  · rw [if_pos g]
    rw [g] at a5
    simp only [u_X8_nextOf_0, u_X8_nextOf_1, u_X8_nextOf_4, u_X8_nextOf_5, u_X8_nextOf_8, u_X8_nextOf_9, u_X8_nextOf_12, u_X8_nextOf_13, u_X8_nextOf_16, u_X8_nextOf_17, u_X8_nextOf_20, u_X8_nextOf_21, u_X8_nextOf_24, u_X8_nextOf_27, u_X8_nextOf_28, u_X8_nextOf_29, u_X8_nextOf_32, u_X8_nextOf_33, u_X8_nextOf_36, u_X8_nextOf_39, u_X8_nextOf_40, u_X8_nextOf_41, u_X8_nextOf_44, u_X8_nextOf_45, u_X8_nextOf_48, u_X8_nextOf_51, u_X8_nextOf_52, u_X8_nextOf_55, q.ob, a1, a2.ob, a5, if_true, xgo_some, xgo_none, xgoI_none, xcat_n, xcat_i, xcat_r, xcat_z, List.length_nil, List.length_cons, List.getD_cons_zero, List.getD_cons_succ, List.set_cons_zero, List.set_cons_succ, Nat.zero_le, Nat.reduceAdd, Nat.reduceLeDiff, Nat.reduceEqDiff, reduceIte]
    repeat' split
    all_goals rfl
  · rw [if_neg g]
    obtain ⟨b1, b2, b3⟩ := a4
    rw [f2 g] at b1 b2 b3
    simp only at b1 b2 b3
    simp only [u_X8_nextOf_0, u_X8_nextOf_1, u_X8_nextOf_4, u_X8_nextOf_5, u_X8_nextOf_8, u_X8_nextOf_9, u_X8_nextOf_12, u_X8_nextOf_13, u_X8_nextOf_16, u_X8_nextOf_17, u_X8_nextOf_20, u_X8_nextOf_21, u_X8_nextOf_24, u_X8_nextOf_27, u_X8_nextOf_28, u_X8_nextOf_29, u_X8_nextOf_32, u_X8_nextOf_33, u_X8_nextOf_36, u_X8_nextOf_39, u_X8_nextOf_40, u_X8_nextOf_41, u_X8_nextOf_44, u_X8_nextOf_45, u_X8_nextOf_48, u_X8_nextOf_51, u_X8_nextOf_52, u_X8_nextOf_55, q.ob, a1, a2.ob, a5, b1, b2, b3, g, if_false, xgo_some, xgo_none, xgoI_none, xcat_n, xcat_i, xcat_r, xcat_z, List.length_nil, List.length_cons, List.getD_cons_zero, List.getD_cons_succ, List.set_cons_zero, List.set_cons_succ, Nat.zero_le, Nat.reduceAdd, Nat.reduceLeDiff, Nat.reduceEqDiff, reduceIte]
    repeat' split
    all_goals rfl
theorem M_next {t : Int32} {P : pP} {o : Nat} (p : isMP h m t P) (hR : rOk P.1.1) (eo : P.1.2.2.1 = nI o) (ho : 1 ≤ o) (ho2 : o < 2 ^ 31) (v : Int32) : outM m P (fun _ => 1) h (xev 143 [.ref m, .int v] h) (sp_next P v) := by
  obtain ⟨Z, D, A, q, z0, r, z4, h6, w, z6, hC, hT⟩ := p
  have pi := m_in (h := h) v 0 3
  unfold sp_next
  rw [e_X8_next]
  by_cases hv : v < 0 ∨ 3 < v
  · rw [if_pos hv]
    rw [if_neg (fun z => hv.elim z.1 z.2)] at pi
    have ph := m_holds q 1
    rw [if_neg i10] at ph
    refine ⟨_, 0, ?_, MP_no q r z4 h6 w z6 hC hT, xFr_mo _ _ _ _⟩
    simp only [u_X8_next_0, u_X8_next_1, u_X8_next_2, u_X8_next_3, u_X8_next_4, u_X8_next_7, u_X8_next_10, u_X8_next_11, u_X8_next_14, u_X8_next_15, u_X8_next_18, u_X8_next_21, u_X8_next_22, u_X8_next_23, u_X8_next_26, u_X8_next_29, u_X8_next_30, q.ob, pi, ph, if_true, xgo_some, xgo_none, xgoI_none, xcat_n, xcat_i, xcat_r, xcat_z, List.length_nil, List.length_cons, List.getD_cons_zero, List.getD_cons_succ, List.set_cons_zero, List.set_cons_succ, Nat.zero_le, Nat.reduceAdd, Nat.reduceLeDiff, Nat.reduceEqDiff, reduceIte]
  · rw [if_neg hv]
    rw [if_pos ⟨fun z => hv (Or.inl z), fun z => hv (Or.inr z)⟩] at pi
    have ph := m_holds q 0
    rw [if_pos rfl] at ph
    have q0 := mo_z0 q 0
    obtain ⟨h1, Z1, a1, a2, a3, a4⟩ := m_nextOf q0 r hR eo ho ho2 v
    refine ⟨h1, ?_, ⟨Z1, D, A, a2, by rw [a3 0 (by decide) (by decide) (by decide) (by decide), va_up_self], r, by rw [a3 4 (by decide) (by decide) (by decide) (by decide), va_up_ne _ _ (by decide)]; exact z4, h6, w, by rw [a3 6 (by decide) (by decide) (by decide) (by decide), va_up_ne _ _ (by decide)]; exact z6, hC, hT⟩, (xFr_mo _ _ _ _).tr a4⟩
    simp only [u_X8_next_0, u_X8_next_1, u_X8_next_2, u_X8_next_3, u_X8_next_4, u_X8_next_7, u_X8_next_10, u_X8_next_11, u_X8_next_14, u_X8_next_15, u_X8_next_18, u_X8_next_21, u_X8_next_22, u_X8_next_23, u_X8_next_26, u_X8_next_29, u_X8_next_30, q.ob, pi, ph, i10, q0.ob, a1, if_false, xgo_some, xgo_none, xgoI_none, xcat_n, xcat_i, xcat_r, xcat_z, List.length_nil, List.length_cons, List.getD_cons_zero, List.getD_cons_succ, List.set_cons_zero, List.set_cons_succ, Nat.zero_le, Nat.reduceAdd, Nat.reduceLeDiff, Nat.reduceEqDiff, reduceIte]
end NG
