/-! The model: open, openAll. -/
section NF
variable {h : xH} {m : Nat} {d l : Nat → Nat}
theorem cntI_mid (P R : List Int32) (x p : Int32) : cntI (P ++ x :: R) p = cntI P p + ((if x = p then 1 else 0) + cntI R p) := by
  rw [cntI_app, cntI]
theorem row_mid {L : List Int32} {k : Nat} (hk : k < L.length) : L = L.take k ++ gd L k :: L.drop (k + 1) := by
  rw [← gd_drop hk, List.take_append_drop]
theorem opL_is {L : List Int32} {N : xNs} {k v : Nat} (hv : gd L k = nI v) (h24 : v < 24) : opL L N k = L.take k ++ N.1 v :: N.2.1 v :: L.drop (k + 1) := by
  unfold opL
  rw [hv, clAt_nI h24 (by decide), clAt_nI h24 (by decide)]
theorem op_ge {L : List Int32} {N : xNs} {k v j : Nat} (hk : k < L.length) (hv : gd L k = nI v) (h24 : v < 24) (hj : j < 24) (hne : j ≠ v) : cntI L (nI j) ≤ cntI (opL L N k) (nI j) := by
  have e1 := congrArg (fun z => cntI z (nI j)) (row_mid hk)
  rw [cntI_mid, hv, if_neg (fun z => hne ((nI_eq (by omega) (by omega)).mp z).symm)] at e1
  rw [opL_is hv h24, cntI_mid, cntI, e1]
  omega
theorem op_sw {L : List Int32} {N : xNs} {k v : Nat} (us : swE L N) (hk : k < L.length) (hv : gd L k = nI v) (h8 : 8 ≤ v) (h24 : v < 24) : swR (opL L N k) N (opN L N k) ∧ swE (opL L N k) (opN L N k) := by
  unfold opN
  rw [hv, nI_clamp (by omega)]
  by_cases hc : cntI (opL L N k) (nI v) + usN N.1 N.2.1 (nI v) 8 16 = 0
  · rw [if_pos hc]
    refine ⟨swR_out (swR_rf _ _) h8 h24 hc, fun j j8 j24 hj => ?_⟩
    have hne : j ≠ v := by
      intro z
      subst z
      exact hj (va_up_self _ _ _)
    simp only [nsOut, va_up_ne _ _ hne] at hj ⊢
    by_cases h1 : N.1 v = nI j
    · rw [opL_is hv h24, cntI_mid, if_pos h1]; omega
    · by_cases h2 : N.2.1 v = nI j
      · rw [opL_is hv h24, cntI_mid, cntI, if_pos h2]; omega
      · rw [usN_outE h1 h2 (nI_nm1 (by omega))]
        have a1 := us j j8 j24 hj
        have a2 := op_ge (N := N) hk hv h24 j24 hne
        omega
  · rw [if_neg hc]
    refine ⟨swR_rf _ _, fun j j8 j24 hj => ?_⟩
    by_cases hne : j = v
    · rw [hne]; exact hc
    · have a1 := us j j8 j24 hj
      have a2 := op_ge (N := N) hk hv h24 j24 hne
      omega
theorem M_open {t : Int32} {P : pP} (p : isMP h m t P) (w0 : wfN P.1.2.1 d l) (pr : rPr P.1.1 P.1.2.1) (us : swE P.1.1 P.1.2.1) (v : Int32) : outM m P cdA h (xev 122 [.ref m, .int v] h) (sp_open P v) := by
  obtain ⟨⟨L, N, T⟩, Hs, C⟩ := P
  obtain ⟨Z, D, A, q, z0, r, z4, h6, w, z6, hC, hT⟩ := p
  simp only at r z4 h6 w z6 hC hT w0 pr us
  have hl := r.2.1
  have r1 := r.1
  simp only at hl r1
  have pp := m_in (h := h) v 0 (nI L.length - 1)
  unfold sp_open
  rw [e_X8_open]
  simp only
  by_cases h1 : v < 0 ∨ ¬ v < nI L.length
  · rw [if_pos h1]
    have hz : ¬ (¬ v < 0 ∧ ¬ nI L.length - 1 < v) := by
      intro z
      rcases h1 with y | y
      · exact z.1 y
      · apply z.2
        obtain ⟨k, k1, k2⟩ := nI_of z.1
        have k3 : L.length ≤ k := by
          apply Nat.le_of_not_lt
          intro x
          exact y (by rw [k2]; exact nI_lt x (by omega))
        rw [k2]
        by_cases e : L.length = 0
        · rw [e]
          exact Int32.lt_of_lt_of_le (show nI 0 - 1 < 0 by decide) (nI_pos' k1)
        · rw [show (1 : Int32) = nI 1 from rfl, nI_sub (by omega)]
          exact nI_lt (by omega) k1
    rw [if_neg hz] at pp
    have ph := m_holds q 1
    rw [if_neg i10] at ph
    refine ⟨_, 0, ?_, MP_no (P := ((L, N, T), Hs, C)) q r z4 h6 w z6 hC hT, xFr_mo _ _ _ _⟩
    simp only [u_X8_open_0, u_X8_open_1, u_X8_open_2, u_X8_open_3, u_X8_open_6, u_X8_open_7, u_X8_open_8, u_X8_open_9, u_X8_open_10, u_X8_open_13, u_X8_open_14, u_X8_open_15, u_X8_open_16, u_X8_open_19, u_X8_open_20, u_X8_open_23, u_X8_open_24, u_X8_open_27, u_X8_open_28, u_X8_open_29, u_X8_open_30, u_X8_open_31, u_X8_open_33, u_X8_open_36, u_X8_open_37, u_X8_open_40, u_X8_open_41, u_X8_open_42, u_X8_open_44, u_X8_open_47, u_X8_open_48, u_X8_open_51, u_X8_open_52, u_X8_open_55, u_X8_open_58, u_X8_open_59, u_X8_open_60, u_X8_open_61, u_X8_open_64, u_X8_open_65, u_X8_open_68, u_X8_open_69, u_X8_open_70, u_X8_open_71, u_X8_open_72, u_X8_open_73, u_X8_open_74, u_X8_open_75, u_X8_open_78, u_X8_open_79, u_X8_open_82, u_X8_open_83, q.ob, q.a1, x0117, c00, r1, pp, ph, if_true, xgo_some, xgo_none, xgoI_none, xcat_n, xcat_i, xcat_r, xcat_z, List.length_nil, List.length_cons, List.getD_cons_zero, List.getD_cons_succ, List.set_cons_zero, List.set_cons_succ, Nat.zero_le, Nat.reduceAdd, Nat.reduceLeDiff, Nat.reduceEqDiff, reduceIte]
    rfl
  · rw [if_neg h1]
    have v0 : ¬ v < 0 := fun z => h1 (Or.inl z)
    have v1 : v < nI L.length := Classical.byContradiction (fun z => h1 (Or.inr z))
    obtain ⟨k, k1, k2⟩ := nI_of v0
    have k3 : k < L.length := by rw [k2] at v1; exact (nI_ltI k1 (by omega)).mp v1
    have hz : ¬ v < 0 ∧ ¬ nI L.length - 1 < v := by
      refine ⟨v0, ?_⟩
      rw [k2, show (1 : Int32) = nI 1 from rfl, nI_sub (by omega)]
      exact nI_nlt (by omega) (by omega)
    rw [if_pos hz] at pp
    rw [show v.toNatClampNeg = k by rw [k2, nI_clamp k1]]
    obtain ⟨n, n24, en, hn⟩ := rPr_at pr k3
    have es := r.2.2.1 k k3
    simp only at es
    rw [en] at es
    have ei : (1 : Int32) + v = nI (1 + k) := by rw [k2]; exact nI_s1 k
    have hx : xix (nI (1 + k)) 117 := xix_nI (by omega) (by decide)
    have ck := nI_clamp (show 1 + k < 2 ^ 31 by omega)
    rw [en]
    by_cases h2 : nI n < 8 ∨ ¬ L.length + 1 ≤ 64
    · rw [if_pos h2]
      have ph := m_holds q 2
      rw [if_neg (by decide)] at ph
      refine ⟨_, 0, ?_, MP_no (P := ((L, N, T), Hs, C)) q r z4 h6 w z6 hC hT, xFr_mo _ _ _ _⟩
      by_cases c8 : nI n < 8
      · simp only [u_X8_open_0, u_X8_open_1, u_X8_open_2, u_X8_open_3, u_X8_open_6, u_X8_open_7, u_X8_open_8, u_X8_open_9, u_X8_open_10, u_X8_open_13, u_X8_open_14, u_X8_open_15, u_X8_open_16, u_X8_open_19, u_X8_open_20, u_X8_open_23, u_X8_open_24, u_X8_open_27, u_X8_open_28, u_X8_open_29, u_X8_open_30, u_X8_open_31, u_X8_open_33, u_X8_open_36, u_X8_open_37, u_X8_open_40, u_X8_open_41, u_X8_open_42, u_X8_open_44, u_X8_open_47, u_X8_open_48, u_X8_open_51, u_X8_open_52, u_X8_open_55, u_X8_open_58, u_X8_open_59, u_X8_open_60, u_X8_open_61, u_X8_open_64, u_X8_open_65, u_X8_open_68, u_X8_open_69, u_X8_open_70, u_X8_open_71, u_X8_open_72, u_X8_open_73, u_X8_open_74, u_X8_open_75, u_X8_open_78, u_X8_open_79, u_X8_open_82, u_X8_open_83, q.ob, q.a1, x0117, c00, r1, pp, i10, ei, hx, ck, es, c8, ph, if_true, if_false, xgo_some, xgo_none, xgoI_none, xcat_n, xcat_i, xcat_r, xcat_z, List.length_nil, List.length_cons, List.getD_cons_zero, List.getD_cons_succ, List.set_cons_zero, List.set_cons_succ, Nat.zero_le, Nat.reduceAdd, Nat.reduceLeDiff, Nat.reduceEqDiff, reduceIte]
        rfl
      · have n64 : nI L.length = 64 := by
          have := h2.elim (fun z => absurd z c8) id
          rw [show L.length = 64 by omega]; rfl
        rw [n64] at pp
        simp only [u_X8_open_0, u_X8_open_1, u_X8_open_2, u_X8_open_3, u_X8_open_6, u_X8_open_7, u_X8_open_8, u_X8_open_9, u_X8_open_10, u_X8_open_13, u_X8_open_14, u_X8_open_15, u_X8_open_16, u_X8_open_19, u_X8_open_20, u_X8_open_23, u_X8_open_24, u_X8_open_27, u_X8_open_28, u_X8_open_29, u_X8_open_30, u_X8_open_31, u_X8_open_33, u_X8_open_36, u_X8_open_37, u_X8_open_40, u_X8_open_41, u_X8_open_42, u_X8_open_44, u_X8_open_47, u_X8_open_48, u_X8_open_51, u_X8_open_52, u_X8_open_55, u_X8_open_58, u_X8_open_59, u_X8_open_60, u_X8_open_61, u_X8_open_64, u_X8_open_65, u_X8_open_68, u_X8_open_69, u_X8_open_70, u_X8_open_71, u_X8_open_72, u_X8_open_73, u_X8_open_74, u_X8_open_75, u_X8_open_78, u_X8_open_79, u_X8_open_82, u_X8_open_83, q.ob, q.a1, x0117, c00, r1, pp, i10, ei, hx, ck, es, c8, n64, ph, if_true, if_false, xgo_some, xgo_none, xgoI_none, xcat_n, xcat_i, xcat_r, xcat_z, List.length_nil, List.length_cons, List.getD_cons_zero, List.getD_cons_succ, List.set_cons_zero, List.set_cons_succ, Nat.zero_le, Nat.reduceAdd, Nat.reduceLeDiff, Nat.reduceEqDiff, reduceIte]
        rfl
    · rw [if_neg h2]
      have c8 : ¬ nI n < 8 := fun z => h2 (Or.inl z)
      have h64 : L.length + 1 ≤ 64 := Classical.byContradiction (fun z => h2 (Or.inr z))
      have n64 : ¬ nI L.length = 64 := fun z => by
        have := (nI_eq (b := 64) (by omega) (by omega)).mp z
        omega
      have n8 : 8 ≤ n := by
        apply Nat.le_of_not_lt
        intro z
        exact c8 (nI_lt (b := 8) z (by decide))
      have hn1 : N.1 n ≠ -1 := hn.elim (fun z => absurd z (by omega)) id
      have ph := m_holds q 0
      rw [if_pos rfl] at ph
      have q0 := mo_z0 q 0
      obtain ⟨h1', f, a1, a2, a3, a4⟩ := MP_save q0 r (by rw [va_up_ne _ _ (by decide)]; exact z4) h6 w
      have e13 : va_up A 3 f 1 = A 1 := va_up_ne _ _ (by decide)
      obtain ⟨h2', f2, b1, b2, b3, b4⟩ := m_openAt a2 (by rw [e13]; exact r) k3 (by omega) en n8 n24 hn1
      obtain ⟨h3', g, N', c1, c2, c3, c4, c5, c6⟩ := m_sweep w0.1 b2 (by rw [va_up_self]; exact b3)
      obtain ⟨s1, s2⟩ := op_sw us k3 en n8 n24
      have eN := swR_uq w0.1 c4 c5 s1 s2
      rw [va_up_up] at c2
      rw [eN] at c3
      rw [← k2] at b1
      refine ⟨h3', ?_, MP_mk c2 (by rw [va_up_ne _ _ (by decide), va_up_self]) c3 (va_up_self _ _ _) (take6_le _) a3 (by rw [va_up_ne _ _ (by decide), va_up_ne _ _ (by decide)]; exact z6) hC hT, (((xFr_mo _ _ _ _).tr a4).tr b4).tr c6⟩
      simp only [u_X8_open_0, u_X8_open_1, u_X8_open_2, u_X8_open_3, u_X8_open_6, u_X8_open_7, u_X8_open_8, u_X8_open_9, u_X8_open_10, u_X8_open_13, u_X8_open_14, u_X8_open_15, u_X8_open_16, u_X8_open_19, u_X8_open_20, u_X8_open_23, u_X8_open_24, u_X8_open_27, u_X8_open_28, u_X8_open_29, u_X8_open_30, u_X8_open_31, u_X8_open_33, u_X8_open_36, u_X8_open_37, u_X8_open_40, u_X8_open_41, u_X8_open_42, u_X8_open_44, u_X8_open_47, u_X8_open_48, u_X8_open_51, u_X8_open_52, u_X8_open_55, u_X8_open_58, u_X8_open_59, u_X8_open_60, u_X8_open_61, u_X8_open_64, u_X8_open_65, u_X8_open_68, u_X8_open_69, u_X8_open_70, u_X8_open_71, u_X8_open_72, u_X8_open_73, u_X8_open_74, u_X8_open_75, u_X8_open_78, u_X8_open_79, u_X8_open_82, u_X8_open_83, q.ob, q.a1, q0.ob, x0117, c00, r1, pp, i10, ei, hx, ck, es, c8, n64, ph, a1, a2.ob, a2.a1, e13, b1, b2.ob, c1, if_true, if_false, xgo_some, xgo_none, xgoI_none, xcat_n, xcat_i, xcat_r, xcat_z, List.length_nil, List.length_cons, List.getD_cons_zero, List.getD_cons_succ, List.set_cons_zero, List.set_cons_succ, Nat.zero_le, Nat.reduceAdd, Nat.reduceLeDiff, Nat.reduceEqDiff, reduceIte]
theorem M_openAll {t : Int32} {P : pP} (p : isMP h m t P) (w0 : wfN P.1.2.1 d l) (pr : rPr P.1.1 P.1.2.1) : outM m P (fun _ => 1) h (xev 131 [.ref m] h) (sp_openAll P) := by
  obtain ⟨⟨L, N, T⟩, Hs, C⟩ := P
  obtain ⟨Z, D, A, q, z0, r, z4, h6, w, z6, hC, hT⟩ := p
  simp only at r z4 h6 w z6 hC hT w0 pr
  have hl := r.2.1
  simp only at hl
  obtain ⟨h1, A1, a1, a2, a3, a4, a5⟩ := m_layOut q r w0
  have e1 := a3 1 (by decide)
  have e3 := a3 3 (by decide)
  have e4 := a3 4 (by decide)
  have r' : rS (A1 1) (L, N, T) := by rw [e1]; exact r
  have w' : svR (A1 3) Hs.reverse := by rw [e3]; exact w
  have hT' : ∀ i, i < C.length → A1 4 i = gd C i := by rw [e4]; exact hT
  have pt := m_txt a2 r' a4 pr
  have et := txF_ln w0 L pr
  obtain ⟨b1, b2⟩ := lnL_bd w0 L pr
  simp only at pt
  rw [et] at pt
  unfold sp_openAll
  rw [e_X8_openAll]
  simp only
  rw [et, nI_clamp (by omega)]
  by_cases h2 : (64 : Int32) < nI (lnL l L)
  · rw [if_pos h2]
    have ph := m_holds a2 1
    rw [if_neg i10] at ph
    refine ⟨_, 0, ?_, MP_no (P := ((L, N, T), Hs, C)) a2 r' z4 h6 w' z6 hC hT', a5.tr (xFr_mo _ _ _ _)⟩
    simp only [u_X8_openAll_0, u_X8_openAll_1, u_X8_openAll_4, u_X8_openAll_5, u_X8_openAll_6, u_X8_openAll_9, u_X8_openAll_11, u_X8_openAll_14, u_X8_openAll_15, u_X8_openAll_18, u_X8_openAll_19, u_X8_openAll_22, u_X8_openAll_25, u_X8_openAll_26, u_X8_openAll_27, u_X8_openAll_28, u_X8_openAll_31, u_X8_openAll_32, u_X8_openAll_34, u_X8_openAll_35, u_X8_openAll_38, u_X8_openAll_39, u_X8_openAll_40, u_X8_openAll_43, u_X8_openAll_44, u_X8_openAll_47, u_X8_openAll_48, u_X8_openAll_49, u_X8_openAll_50, u_X8_openAll_51, u_X8_openAll_53, u_X8_openAll_56, u_X8_openAll_59, u_X8_openAll_62, u_X8_openAll_63, u_X8_openAll_64, u_X8_openAll_67, u_X8_openAll_71, u_X8_openAll_74, u_X8_openAll_75, u_X8_openAll_78, u_X8_openAll_79, u_X8_openAll_80, q.ob, a1, a2.ob, pt, h2, ph, if_true, xgo_some, xgo_none, xgoI_none, xcat_n, xcat_i, xcat_r, xcat_z, List.length_nil, List.length_cons, List.getD_cons_zero, List.getD_cons_succ, List.set_cons_zero, List.set_cons_succ, Nat.zero_le, Nat.reduceAdd, Nat.reduceLeDiff, Nat.reduceEqDiff, reduceIte]
  · rw [if_neg h2]
    have h64 : lnL l L ≤ 64 := by
      apply Nat.le_of_not_lt
      intro z
      exact h2 (nI_lt (a := 64) z (by omega))
    have ph := m_holds a2 0
    rw [if_pos rfl] at ph
    have q0 := mo_z0 a2 0
    obtain ⟨h2', f, c1, c2, c3, c4⟩ := MP_save q0 r' (by rw [va_up_ne _ _ (by decide)]; exact z4) h6 w'
    have e13 : va_up A1 3 f 1 = A1 1 := va_up_ne _ _ (by decide)
    obtain ⟨h3, f3, o1, o2, o3, o4⟩ := lp_oa w0 (2 * lnL l L) [] L h2' _ (by omega) pr (by simp only [List.length_nil]; omega) c2 (by rw [e13]; exact r')
    simp only [List.nil_append, List.length_nil] at o1 o3
    obtain ⟨h4, g, N', s1, s2, s3, s4, s5, s6⟩ := m_sweep w0.1 o2 (by rw [va_up_self]; exact o3)
    have eN := sw_fg w0.1 (wf_dpt w0) s4 s5
    rw [va_up_up] at s2
    rw [eN] at s3
    have eo : oaF (L, N, T) 0 (lnL l L) = exL N L := by rw [oaF_ex w0 pr (by omega) _ 0 (Nat.zero_add _), List.drop_zero]
    have el := exL_len w0 L pr
    rw [eo]
    have g0 := s3.1
    simp only at g0
    rw [el] at g0
    refine ⟨h4, ?_, MP_mk s2 (by rw [va_up_ne _ _ (by decide), va_up_self]) s3 (va_up_self _ _ _) (take6_le _) c3 (by rw [va_up_ne _ _ (by decide), va_up_ne _ _ (by decide)]; exact z6) hC hT', (((a5.tr (xFr_mo _ _ _ _)).tr c4).tr o4).tr s6⟩
    simp only [u_X8_openAll_0, u_X8_openAll_1, u_X8_openAll_4, u_X8_openAll_5, u_X8_openAll_6, u_X8_openAll_9, u_X8_openAll_11, u_X8_openAll_14, u_X8_openAll_15, u_X8_openAll_18, u_X8_openAll_19, u_X8_openAll_22, u_X8_openAll_25, u_X8_openAll_26, u_X8_openAll_27, u_X8_openAll_28, u_X8_openAll_31, u_X8_openAll_32, u_X8_openAll_34, u_X8_openAll_35, u_X8_openAll_38, u_X8_openAll_39, u_X8_openAll_40, u_X8_openAll_43, u_X8_openAll_44, u_X8_openAll_47, u_X8_openAll_48, u_X8_openAll_49, u_X8_openAll_50, u_X8_openAll_51, u_X8_openAll_53, u_X8_openAll_56, u_X8_openAll_59, u_X8_openAll_62, u_X8_openAll_63, u_X8_openAll_64, u_X8_openAll_67, u_X8_openAll_71, u_X8_openAll_74, u_X8_openAll_75, u_X8_openAll_78, u_X8_openAll_79, u_X8_openAll_80, q.ob, a1, a2.ob, pt, h2, ph, i10, q0.ob, c1, if_false, xgo_some, xgo_none, xgoI_none, xcat_n, xcat_i, xcat_r, xcat_z, List.length_nil, List.length_cons, List.getD_cons_zero, List.getD_cons_succ, List.set_cons_zero, List.set_cons_succ, Nat.zero_le, Nat.reduceAdd, Nat.reduceLeDiff, Nat.reduceEqDiff, reduceIte]
    rw [show (0 : Int32) = nI 0 from rfl, o1]
    simp only [u_X8_openAll_70, u_X8_openAll_71, u_X8_openAll_74, u_X8_openAll_75, u_X8_openAll_78, u_X8_openAll_79, u_X8_openAll_80, o2.ob, s1, s2.ob, s2.a1, x0117, c00, va_up_self, g0, xgo_some, xgo_none, xgoI_none, xcat_n, xcat_i, xcat_r, xcat_z, List.length_nil, List.length_cons, List.getD_cons_zero, List.getD_cons_succ, List.set_cons_zero, List.set_cons_succ, Nat.zero_le, Nat.reduceAdd, Nat.reduceLeDiff, Nat.reduceEqDiff, reduceIte]
end NF
