/-! The model: grow, firstError, setting, set, undo. -/
section NE
variable {h : xH} {m : Nat}
theorem M_first {t : Int32} {P : pP} (p : isMP h m t P) (cd : Nat → Int32) : outM m P cd h (xev 135 [.ref m] h) (sp_first P) := by
  obtain ⟨X, Hs, C⟩ := P
  obtain ⟨Z, D, A, q, z0, r, z4, h6, w, z6, hC, hT⟩ := p
  simp only at r z4 h6 w z6 hC hT
  have q0 := mo_z0 q 0
  obtain ⟨h1, Z1, a1, a2, a3, a4, a5, a6, a7⟩ := m_go0 hC q0 (by rw [va_up_ne _ _ (by decide)]; exact z6) hT
  refine ⟨h1, ?_, ⟨Z1, D, A, a2, by rw [a3 0 (by decide) (by decide) (by decide), va_up_self], r, by rw [a3 4 (by decide) (by decide) (by decide), va_up_ne _ _ (by decide)]; exact z4, h6, w, by rw [a3 6 (by decide) (by decide) (by decide), va_up_ne _ _ (by decide)]; exact z6, hC, hT⟩, (xFr_mo _ _ _ _).tr a7⟩
  rw [e_X8_firstError]
  simp only [u_X8_firstError_0, u_X8_firstError_1, u_X8_firstError_2, u_X8_firstError_5, u_X8_firstError_6, u_X8_firstError_7, u_X8_firstError_10, u_X8_firstError_11, u_X8_firstError_14, q.ob, q0.ob, a1, a2.ob, a4, xgo_some, xgo_none, xgoI_none, xcat_n, xcat_i, xcat_r, xcat_z, List.length_nil, List.length_cons, List.getD_cons_zero, List.getD_cons_succ, List.set_cons_zero, List.set_cons_succ, Nat.zero_le, Nat.reduceAdd, Nat.reduceLeDiff, Nat.reduceEqDiff, reduceIte]
theorem M_grow {t : Int32} {P : pP} (p : isMP h m t P) : outM m P cdB h (xev 117 [.ref m] h) (sp_grow P) := by
  obtain ⟨⟨L, T⟩, Hs, C⟩ := P
  obtain ⟨Z, D, A, q, z0, r, z4, h6, w, z6, hC, hT⟩ := p
  simp only at r z4 h6 w z6 hC hT
  have hl := r.2.1
  have r1 := r.1
  simp only at hl r1
  obtain ⟨h1, Z1, a1, a2, a3, a4, a5, a6, a7⟩ := m_go0 hC q z6 hT
  have y4 : Z1 4 = nI Hs.length := by rw [a3 4 (by decide) (by decide) (by decide)]; exact z4
  have y6 : Z1 6 = nI C.length := by rw [a3 6 (by decide) (by decide) (by decide)]; exact z6
  unfold sp_grow
  rw [e_X8_grow]
  simp only
  by_cases hc : C.length = 0 ∨ fwC C ≠ C.length
  · rw [if_pos hc]
    have ph := m_holds a2 1
    rw [if_neg i10] at ph
    refine ⟨_, 0, ?_, MP_no (P := ((L, T), Hs, C)) a2 r y4 h6 w y6 hC hT, a7.tr (xFr_mo _ _ _ _)⟩
    by_cases h5 : fwC C = C.length
    · rw [if_pos h5] at a5
      have h0 : nI C.length = 0 := by rw [hc.elim id (fun z => absurd h5 z)]; rfl
      simp only [u_X8_grow_0, u_X8_grow_1, u_X8_grow_2, u_X8_grow_5, u_X8_grow_6, u_X8_grow_7, u_X8_grow_10, u_X8_grow_13, u_X8_grow_14, u_X8_grow_17, u_X8_grow_20, u_X8_grow_21, u_X8_grow_24, u_X8_grow_25, u_X8_grow_28, u_X8_grow_29, u_X8_grow_30, u_X8_grow_31, u_X8_grow_34, u_X8_grow_35, u_X8_grow_37, u_X8_grow_40, u_X8_grow_41, u_X8_grow_44, u_X8_grow_45, u_X8_grow_48, u_X8_grow_51, u_X8_grow_52, u_X8_grow_53, u_X8_grow_54, u_X8_grow_57, u_X8_grow_58, u_X8_grow_59, u_X8_grow_62, u_X8_grow_63, u_X8_grow_64, u_X8_grow_67, u_X8_grow_68, u_X8_grow_71, u_X8_grow_72, u_X8_grow_73, q.ob, a1, a2.ob, a5, y6, h0, ph, if_true, xgo_some, xgo_none, xgoI_none, xcat_n, xcat_i, xcat_r, xcat_z, List.length_nil, List.length_cons, List.getD_cons_zero, List.getD_cons_succ, List.set_cons_zero, List.set_cons_succ, Nat.zero_le, Nat.reduceAdd, Nat.reduceLeDiff, Nat.reduceEqDiff, reduceIte]
      rfl
    · rw [if_neg h5] at a5
      simp only [u_X8_grow_0, u_X8_grow_1, u_X8_grow_2, u_X8_grow_5, u_X8_grow_6, u_X8_grow_7, u_X8_grow_10, u_X8_grow_13, u_X8_grow_14, u_X8_grow_17, u_X8_grow_20, u_X8_grow_21, u_X8_grow_24, u_X8_grow_25, u_X8_grow_28, u_X8_grow_29, u_X8_grow_30, u_X8_grow_31, u_X8_grow_34, u_X8_grow_35, u_X8_grow_37, u_X8_grow_40, u_X8_grow_41, u_X8_grow_44, u_X8_grow_45, u_X8_grow_48, u_X8_grow_51, u_X8_grow_52, u_X8_grow_53, u_X8_grow_54, u_X8_grow_57, u_X8_grow_58, u_X8_grow_59, u_X8_grow_62, u_X8_grow_63, u_X8_grow_64, u_X8_grow_67, u_X8_grow_68, u_X8_grow_71, u_X8_grow_72, u_X8_grow_73, q.ob, a1, a2.ob, a5, i10, ph, if_true, if_false, xgo_some, xgo_none, xgoI_none, xcat_n, xcat_i, xcat_r, xcat_z, List.length_nil, List.length_cons, List.getD_cons_zero, List.getD_cons_succ, List.set_cons_zero, List.set_cons_succ, Nat.zero_le, Nat.reduceAdd, Nat.reduceLeDiff, Nat.reduceEqDiff, reduceIte]
      rfl
  · rw [if_neg hc]
    have h5 : fwC C = C.length := Classical.byContradiction (fun z => hc (Or.inr z))
    have n0 : ¬ nI C.length = 0 := fun z => hc (Or.inl ((nI_eq (b := 0) (by omega) (by decide)).mp z))
    rw [if_pos h5] at a5
    have y14 := a6 h5
    have hw : (wbC C).length ≤ 9 * C.length := wbF_le _ _ _ _
    by_cases h2 : L.length + (wbC C).length ≤ 64
    · rw [if_pos h2]
      have n64 : ¬ (64 : Int32) < nI (L.length + (wbC C).length) := nI_nlt (a := 64) (by omega) (by omega)
      have ph := m_holds a2 0
      rw [if_pos rfl] at ph
      have q0 := mo_z0 a2 0
      obtain ⟨h2', f, b1, b2, b3, b4⟩ := MP_save q0 r (by rw [va_up_ne _ _ (by decide)]; exact y4) h6 w
      obtain ⟨h3, Z3, g, c1, c2, c3, c4, c5⟩ := m_go1 hC b2 (by rw [va_up_ne _ _ (by decide), va_up_ne _ _ (by decide)]; exact y6) (fun i hi => by rw [va_up_ne _ _ (show 4 ≠ 3 by decide)]; exact hT i hi) h5 (by rw [va_up_ne _ _ (show 1 ≠ 3 by decide)]; exact r) h2
      have q4 := mo_z6 c2 0
      have c40 := c4.1
      simp only [List.length_append] at c40
      refine ⟨_, ?_, MP_mk q4 ?_ c4 ?_ (take6_le _) b3 (va_up_self _ _ _) (Nat.zero_le _) (fun i hi => absurd hi (Nat.not_lt_zero _)), (((a7.tr (xFr_mo _ _ _ _)).tr b4).tr c5).tr (xFr_mo _ _ _ _)⟩
      · simp only [u_X8_grow_0, u_X8_grow_1, u_X8_grow_2, u_X8_grow_5, u_X8_grow_6, u_X8_grow_7, u_X8_grow_10, u_X8_grow_13, u_X8_grow_14, u_X8_grow_17, u_X8_grow_20, u_X8_grow_21, u_X8_grow_24, u_X8_grow_25, u_X8_grow_28, u_X8_grow_29, u_X8_grow_30, u_X8_grow_31, u_X8_grow_34, u_X8_grow_35, u_X8_grow_37, u_X8_grow_40, u_X8_grow_41, u_X8_grow_44, u_X8_grow_45, u_X8_grow_48, u_X8_grow_51, u_X8_grow_52, u_X8_grow_53, u_X8_grow_54, u_X8_grow_57, u_X8_grow_58, u_X8_grow_59, u_X8_grow_62, u_X8_grow_63, u_X8_grow_64, u_X8_grow_67, u_X8_grow_68, u_X8_grow_71, u_X8_grow_72, u_X8_grow_73, q.ob, a1, a2.ob, a2.a1, a5, y6, y14, n0, x0117, c00, r1, nI_add, n64, ph, i10, q0.ob, b1, b2.ob, c1, c2.ob, q4.ob, q4.a1, va_up_self, c40, if_true, if_false, xgo_some, xgo_none, xgoI_none, xcat_n, xcat_i, xcat_r, xcat_z, List.length_nil, List.length_cons, List.getD_cons_zero, List.getD_cons_succ, List.set_cons_zero, List.set_cons_succ, Nat.zero_le, Nat.reduceAdd, Nat.reduceLeDiff, Nat.reduceEqDiff, reduceIte]
      · rw [va_up_ne _ _ (by decide), c3 0 (by decide) (by decide) (by decide), va_up_ne _ _ (by decide), va_up_self]
      · rw [va_up_ne _ _ (by decide), c3 4 (by decide) (by decide) (by decide), va_up_self]
    · rw [if_neg h2]
      have n64 : (64 : Int32) < nI (L.length + (wbC C).length) := nI_lt (a := 64) (by omega) (by omega)
      have ph := m_holds a2 2
      rw [if_neg (by decide)] at ph
      refine ⟨_, 0, ?_, MP_no (P := ((L, T), Hs, C)) a2 r y4 h6 w y6 hC hT, a7.tr (xFr_mo _ _ _ _)⟩
      simp only [u_X8_grow_0, u_X8_grow_1, u_X8_grow_2, u_X8_grow_5, u_X8_grow_6, u_X8_grow_7, u_X8_grow_10, u_X8_grow_13, u_X8_grow_14, u_X8_grow_17, u_X8_grow_20, u_X8_grow_21, u_X8_grow_24, u_X8_grow_25, u_X8_grow_28, u_X8_grow_29, u_X8_grow_30, u_X8_grow_31, u_X8_grow_34, u_X8_grow_35, u_X8_grow_37, u_X8_grow_40, u_X8_grow_41, u_X8_grow_44, u_X8_grow_45, u_X8_grow_48, u_X8_grow_51, u_X8_grow_52, u_X8_grow_53, u_X8_grow_54, u_X8_grow_57, u_X8_grow_58, u_X8_grow_59, u_X8_grow_62, u_X8_grow_63, u_X8_grow_64, u_X8_grow_67, u_X8_grow_68, u_X8_grow_71, u_X8_grow_72, u_X8_grow_73, q.ob, a1, a2.ob, a2.a1, a5, y6, y14, n0, x0117, c00, r1, nI_add, n64, ph, if_true, if_false, xgo_some, xgo_none, xgoI_none, xcat_n, xcat_i, xcat_r, xcat_z, List.length_nil, List.length_cons, List.getD_cons_zero, List.getD_cons_succ, List.set_cons_zero, List.set_cons_succ, Nat.zero_le, Nat.reduceAdd, Nat.reduceLeDiff, Nat.reduceEqDiff, reduceIte]
      rfl
theorem se_ix {s : Int32} {k : Nat} (e : s = nI k) (hk : k < 2) : (113 : Int32) + s = nI (113 + k) ∧ xix (nI (113 + k)) 117 ∧ (nI (113 + k)).toNatClampNeg = 113 + k := by
  refine ⟨?_, xix_nI (by omega) (by decide), nI_clamp (by omega)⟩
  rw [e, show (113 : Int32) = nI 113 from rfl, nI_add]
theorem se_at {s : Nat → Int32} {X : xS} (r : rS s X) {k : Nat} (hk : k < 2) : s (113 + k) = seX X (nI k) := by
  match k, hk with
  | 0, _ => exact r.2.2.2.2.1
  | 1, _ => exact r.2.2.2.2.2.1
theorem in_01 {s : Int32} (h1 : ¬ s < 0) (h2 : s < 2) (h : xH) : xev 99 [.int s, .int 0, .int 1] h = some (.inl (some (.int 1)), h) := by
  rw [m_in, if_pos]
  refine ⟨h1, fun z => ?_⟩
  rcases is01 h1 h2 with e | e
  · rw [e] at z; exact absurd z (by decide)
  · rw [e] at z; exact absurd z (by decide)
theorem in_02 {s : Int32} (hs : ¬ (¬ s < 0 ∧ s < 2)) (h : xH) : xev 99 [.int s, .int 0, .int 1] h = some (.inl (some (.int 0)), h) := by
  rw [m_in, if_neg]
  intro z
  obtain ⟨k, k1, k2⟩ := nI_of z.1
  have k3 : k ≤ 1 := by
    apply Nat.le_of_not_lt
    intro y
    exact z.2 (by rw [k2]; exact nI_lt (a := 1) y k1)
  exact hs ⟨z.1, by rw [k2]; exact nI_lt (b := 2) (by omega) (by decide)⟩
theorem M_setting {t : Int32} {P : pP} (p : isMP h m t P) (s : Int32) : outM m P (fun _ => 1) h (xev 149 [.ref m, .int s] h) (sp_setting P s) := by
  obtain ⟨Z, D, A, q, z0, r, z4, h6, w, z6, hC, hT⟩ := p
  unfold sp_setting
  rw [e_X8_setting]
  by_cases hs : ¬ s < 0 ∧ s < 2
  · rw [if_pos hs]
    have pp := in_01 hs.1 hs.2
    have ph := m_holds q 0
    rw [if_pos rfl] at ph
    have q0 := mo_z0 q 0
    obtain ⟨k, k2, ek⟩ : ∃ k, k < 2 ∧ s = nI k := (is01 hs.1 hs.2).elim (fun e => ⟨0, by decide, e⟩) (fun e => ⟨1, by decide, e⟩)
    obtain ⟨e1, hx, ec⟩ := se_ix ek k2
    have ea := se_at r k2
    rw [← ek] at ea
    refine ⟨_, ?_, MP_no q r z4 h6 w z6 hC hT, xFr_mo _ _ _ _⟩
    simp only [u_X8_setting_0, u_X8_setting_1, u_X8_setting_2, u_X8_setting_3, u_X8_setting_4, u_X8_setting_7, u_X8_setting_10, u_X8_setting_11, u_X8_setting_14, u_X8_setting_15, u_X8_setting_18, u_X8_setting_21, u_X8_setting_22, u_X8_setting_25, u_X8_setting_27, u_X8_setting_28, u_X8_setting_29, u_X8_setting_30, u_X8_setting_33, u_X8_setting_34, q.ob, q0.ob, q0.a1, pp, ph, e1, hx, ec, ea, i10, if_true, if_false, xgo_some, xgo_none, xgoI_none, xcat_n, xcat_i, xcat_r, xcat_z, List.length_nil, List.length_cons, List.getD_cons_zero, List.getD_cons_succ, List.set_cons_zero, List.set_cons_succ, Nat.zero_le, Nat.reduceAdd, Nat.reduceLeDiff, Nat.reduceEqDiff, reduceIte]
  · rw [if_neg hs]
    have pp := in_02 hs
    have ph := m_holds q 1
    rw [if_neg i10] at ph
    refine ⟨_, 0, ?_, MP_no q r z4 h6 w z6 hC hT, xFr_mo _ _ _ _⟩
    simp only [u_X8_setting_0, u_X8_setting_1, u_X8_setting_2, u_X8_setting_3, u_X8_setting_4, u_X8_setting_7, u_X8_setting_10, u_X8_setting_11, u_X8_setting_14, u_X8_setting_15, u_X8_setting_18, u_X8_setting_21, u_X8_setting_22, u_X8_setting_25, u_X8_setting_27, u_X8_setting_28, u_X8_setting_29, u_X8_setting_30, u_X8_setting_33, u_X8_setting_34, q.ob, pp, ph, if_true, xgo_some, xgo_none, xgoI_none, xcat_n, xcat_i, xcat_r, xcat_z, List.length_nil, List.length_cons, List.getD_cons_zero, List.getD_cons_succ, List.set_cons_zero, List.set_cons_succ, Nat.zero_le, Nat.reduceAdd, Nat.reduceLeDiff, Nat.reduceEqDiff, reduceIte]
theorem rS_set {s : Nat → Int32} {X : xS} (r : rS s X) {k : Nat} (hk : k < 2) (v : Int32) : rS (va_up s (113 + k) v) (seU X (nI k) v) := by
  obtain ⟨L, N, a, rr, sp, go⟩ := X
  obtain ⟨r1, r2, r3, r4, r5, r6, r7, r8⟩ := r
  simp only at r1 r2 r3 r4 r5 r6 r7 r8
  match k, hk with
  | 0, _ =>
    rw [show seU (L, N, a, rr, sp, go) (nI 0) v = (L, N, v, rr, sp, go) from if_pos rfl]
    refine ⟨by rw [va_up_ne _ _ (by omega)]; exact r1, r2, fun i hi => by rw [va_up_ne _ _ (by simp only at hi; omega)]; exact r3 i hi, fun k k8 k24 => ?_, va_up_self _ _ _, by rw [va_up_ne _ _ (by omega)]; exact r6, by rw [va_up_ne _ _ (by omega)]; exact r7, by rw [va_up_ne _ _ (by omega)]; exact r8⟩
    rw [va_up_ne _ _ (show 57 + k ≠ 113 + 0 by omega), va_up_ne _ _ (show 73 + k ≠ 113 + 0 by omega), va_up_ne _ _ (show 89 + k ≠ 113 + 0 by omega)]
    exact r4 k k8 k24
  | 1, _ =>
    rw [show seU (L, N, a, rr, sp, go) (nI 1) v = (L, N, a, v, sp, go) from if_neg (by decide)]
    refine ⟨by rw [va_up_ne _ _ (by omega)]; exact r1, r2, fun i hi => by rw [va_up_ne _ _ (by simp only at hi; omega)]; exact r3 i hi, fun k k8 k24 => ?_, by rw [va_up_ne _ _ (by omega)]; exact r5, va_up_self _ _ _, by rw [va_up_ne _ _ (by omega)]; exact r7, by rw [va_up_ne _ _ (by omega)]; exact r8⟩
    rw [va_up_ne _ _ (show 57 + k ≠ 113 + 1 by omega), va_up_ne _ _ (show 73 + k ≠ 113 + 1 by omega), va_up_ne _ _ (show 89 + k ≠ 113 + 1 by omega)]
    exact r4 k k8 k24
theorem M_set {t : Int32} {P : pP} (p : isMP h m t P) (s v : Int32) : outM m P cdA h (xev 132 [.ref m, .int s, .int v] h) (sp_set P s v) := by
  obtain ⟨X, Hs, C⟩ := P
  obtain ⟨Z, D, A, q, z0, r, z4, h6, w, z6, hC, hT⟩ := p
  simp only at r z4 h6 w z6 hC hT
  unfold sp_set
  rw [e_X8_set]
  by_cases hs : ¬ s < 0 ∧ s < 2
  · rw [if_pos hs]
    have pp := in_01 hs.1 hs.2
    obtain ⟨k, k2, ek⟩ : ∃ k, k < 2 ∧ s = nI k := (is01 hs.1 hs.2).elim (fun e => ⟨0, by decide, e⟩) (fun e => ⟨1, by decide, e⟩)
    obtain ⟨e1, hx, ec⟩ := se_ix ek k2
    have ea := se_at r k2
    rw [← ek] at ea
    have hlo : ∀ h, xev 99 [.int v, .int (if s = 0 then 2 else 1), .int 9] h = some (.inl (some (.int (if v < (if s = 0 then 2 else 1) ∨ 9 < v then 0 else 1))), h) := by
      intro h
      rw [m_in]
      by_cases hv : v < (if s = 0 then 2 else 1) ∨ 9 < v
      · rw [if_pos hv, if_neg (fun z => hv.elim z.1 z.2)]
      · rw [if_neg hv, if_pos ⟨fun z => hv (Or.inl z), fun z => hv (Or.inr z)⟩]
    by_cases hv : v < (if s = 0 then 2 else 1) ∨ 9 < v
    · rw [if_pos hv] at hlo ⊢
      have ph := m_holds q 2
      rw [if_neg (by decide)] at ph
      refine ⟨_, 0, ?_, MP_no (P := (X, Hs, C)) q r z4 h6 w z6 hC hT, xFr_mo _ _ _ _⟩
      by_cases s0 : s = 0
      · rw [if_pos s0] at hlo
        simp only [u_X8_set_0, u_X8_set_1, u_X8_set_2, u_X8_set_3, u_X8_set_4, u_X8_set_7, u_X8_set_10, u_X8_set_11, u_X8_set_14, u_X8_set_15, u_X8_set_16, u_X8_set_19, u_X8_set_20, u_X8_set_23, u_X8_set_24, u_X8_set_26, u_X8_set_29, u_X8_set_32, u_X8_set_33, u_X8_set_36, u_X8_set_37, u_X8_set_40, u_X8_set_43, u_X8_set_44, u_X8_set_45, u_X8_set_46, u_X8_set_49, u_X8_set_50, u_X8_set_53, u_X8_set_55, u_X8_set_56, u_X8_set_57, u_X8_set_58, u_X8_set_59, u_X8_set_60, u_X8_set_63, u_X8_set_65, u_X8_set_66, u_X8_set_67, u_X8_set_68, u_X8_set_69, u_X8_set_70, q.ob, pp, i10, s0, hlo, ph, if_true, if_false, xgo_some, xgo_none, xgoI_none, xcat_n, xcat_i, xcat_r, xcat_z, List.length_nil, List.length_cons, List.getD_cons_zero, List.getD_cons_succ, List.set_cons_zero, List.set_cons_succ, Nat.zero_le, Nat.reduceAdd, Nat.reduceLeDiff, Nat.reduceEqDiff, reduceIte]
        rw [s0] at pp
        simp only [u_X8_set_0, u_X8_set_1, u_X8_set_2, u_X8_set_3, u_X8_set_4, u_X8_set_7, u_X8_set_10, u_X8_set_11, u_X8_set_14, u_X8_set_15, u_X8_set_16, u_X8_set_19, u_X8_set_20, u_X8_set_23, u_X8_set_24, u_X8_set_26, u_X8_set_29, u_X8_set_32, u_X8_set_33, u_X8_set_36, u_X8_set_37, u_X8_set_40, u_X8_set_43, u_X8_set_44, u_X8_set_45, u_X8_set_46, u_X8_set_49, u_X8_set_50, u_X8_set_53, u_X8_set_55, u_X8_set_56, u_X8_set_57, u_X8_set_58, u_X8_set_59, u_X8_set_60, u_X8_set_63, u_X8_set_65, u_X8_set_66, u_X8_set_67, u_X8_set_68, u_X8_set_69, u_X8_set_70, q.ob, pp, i10, hlo, ph, if_true, if_false, xgo_some, xgo_none, xgoI_none, xcat_n, xcat_i, xcat_r, xcat_z, List.length_nil, List.length_cons, List.getD_cons_zero, List.getD_cons_succ, List.set_cons_zero, List.set_cons_succ, Nat.zero_le, Nat.reduceAdd, Nat.reduceLeDiff, Nat.reduceEqDiff, reduceIte]
        rfl
      · rw [if_neg s0] at hlo
        simp only [u_X8_set_0, u_X8_set_1, u_X8_set_2, u_X8_set_3, u_X8_set_4, u_X8_set_7, u_X8_set_10, u_X8_set_11, u_X8_set_14, u_X8_set_15, u_X8_set_16, u_X8_set_19, u_X8_set_20, u_X8_set_23, u_X8_set_24, u_X8_set_26, u_X8_set_29, u_X8_set_32, u_X8_set_33, u_X8_set_36, u_X8_set_37, u_X8_set_40, u_X8_set_43, u_X8_set_44, u_X8_set_45, u_X8_set_46, u_X8_set_49, u_X8_set_50, u_X8_set_53, u_X8_set_55, u_X8_set_56, u_X8_set_57, u_X8_set_58, u_X8_set_59, u_X8_set_60, u_X8_set_63, u_X8_set_65, u_X8_set_66, u_X8_set_67, u_X8_set_68, u_X8_set_69, u_X8_set_70, q.ob, pp, i10, s0, hlo, ph, if_true, if_false, xgo_some, xgo_none, xgoI_none, xcat_n, xcat_i, xcat_r, xcat_z, List.length_nil, List.length_cons, List.getD_cons_zero, List.getD_cons_succ, List.set_cons_zero, List.set_cons_succ, Nat.zero_le, Nat.reduceAdd, Nat.reduceLeDiff, Nat.reduceEqDiff, reduceIte]
        rfl
    · rw [if_neg hv] at hlo ⊢
      have ph := m_holds q 0
      rw [if_pos rfl] at ph
      have q0 := mo_z0 q 0
      obtain ⟨h1, f, a1, a2, a3, a4⟩ := MP_save q0 r (by rw [va_up_ne _ _ (by decide)]; exact z4) h6 w
      have q1 := mo_w a2 (k := 1) (by decide) (by decide) (113 + k) v
      rw [va_up_ne _ _ (show 1 ≠ 3 by decide)] at q1
      have rs := rS_set r k2 v
      rw [← ek] at rs
      have e13 : va_up A 3 f 1 = A 1 := va_up_ne _ _ (by decide)
      refine ⟨_, ?_, MP_mk q1 (by rw [va_up_ne _ _ (by decide), va_up_self]) rs (va_up_self _ _ _) (take6_le _) a3 (by rw [va_up_ne _ _ (by decide), va_up_ne _ _ (by decide)]; exact z6) hC hT, ((xFr_mo _ _ _ _).tr a4).tr (xFr_si _ _ _ _ _ (by decide))⟩
      by_cases s0 : s = 0
      · rw [if_pos s0] at hlo
        subst s0
        simp only [u_X8_set_0, u_X8_set_1, u_X8_set_2, u_X8_set_3, u_X8_set_4, u_X8_set_7, u_X8_set_10, u_X8_set_11, u_X8_set_14, u_X8_set_15, u_X8_set_16, u_X8_set_19, u_X8_set_20, u_X8_set_23, u_X8_set_24, u_X8_set_26, u_X8_set_29, u_X8_set_32, u_X8_set_33, u_X8_set_36, u_X8_set_37, u_X8_set_40, u_X8_set_43, u_X8_set_44, u_X8_set_45, u_X8_set_46, u_X8_set_49, u_X8_set_50, u_X8_set_53, u_X8_set_55, u_X8_set_56, u_X8_set_57, u_X8_set_58, u_X8_set_59, u_X8_set_60, u_X8_set_63, u_X8_set_65, u_X8_set_66, u_X8_set_67, u_X8_set_68, u_X8_set_69, u_X8_set_70, q.ob, pp, i10, hlo, ph, q0.ob, a1, a2.ob, a2.a1, e13, e1, hx, ec, ea, if_true, if_false, xgo_some, xgo_none, xgoI_none, xcat_n, xcat_i, xcat_r, xcat_z, List.length_nil, List.length_cons, List.getD_cons_zero, List.getD_cons_succ, List.set_cons_zero, List.set_cons_succ, Nat.zero_le, Nat.reduceAdd, Nat.reduceLeDiff, Nat.reduceEqDiff, reduceIte]
      · rw [if_neg s0] at hlo
        simp only [u_X8_set_0, u_X8_set_1, u_X8_set_2, u_X8_set_3, u_X8_set_4, u_X8_set_7, u_X8_set_10, u_X8_set_11, u_X8_set_14, u_X8_set_15, u_X8_set_16, u_X8_set_19, u_X8_set_20, u_X8_set_23, u_X8_set_24, u_X8_set_26, u_X8_set_29, u_X8_set_32, u_X8_set_33, u_X8_set_36, u_X8_set_37, u_X8_set_40, u_X8_set_43, u_X8_set_44, u_X8_set_45, u_X8_set_46, u_X8_set_49, u_X8_set_50, u_X8_set_53, u_X8_set_55, u_X8_set_56, u_X8_set_57, u_X8_set_58, u_X8_set_59, u_X8_set_60, u_X8_set_63, u_X8_set_65, u_X8_set_66, u_X8_set_67, u_X8_set_68, u_X8_set_69, u_X8_set_70, q.ob, pp, i10, s0, hlo, ph, q0.ob, a1, a2.ob, a2.a1, e13, e1, hx, ec, ea, if_true, if_false, xgo_some, xgo_none, xgoI_none, xcat_n, xcat_i, xcat_r, xcat_z, List.length_nil, List.length_cons, List.getD_cons_zero, List.getD_cons_succ, List.set_cons_zero, List.set_cons_succ, Nat.zero_le, Nat.reduceAdd, Nat.reduceLeDiff, Nat.reduceEqDiff, reduceIte]
  · rw [if_neg hs]
    have pp := in_02 hs
    have ph := m_holds q 1
    rw [if_neg i10] at ph
    refine ⟨_, 0, ?_, MP_no (P := (X, Hs, C)) q r z4 h6 w z6 hC hT, xFr_mo _ _ _ _⟩
    simp only [u_X8_set_0, u_X8_set_1, u_X8_set_2, u_X8_set_3, u_X8_set_4, u_X8_set_7, u_X8_set_10, u_X8_set_11, u_X8_set_14, u_X8_set_15, u_X8_set_16, u_X8_set_19, u_X8_set_20, u_X8_set_23, u_X8_set_24, u_X8_set_26, u_X8_set_29, u_X8_set_32, u_X8_set_33, u_X8_set_36, u_X8_set_37, u_X8_set_40, u_X8_set_43, u_X8_set_44, u_X8_set_45, u_X8_set_46, u_X8_set_49, u_X8_set_50, u_X8_set_53, u_X8_set_55, u_X8_set_56, u_X8_set_57, u_X8_set_58, u_X8_set_59, u_X8_set_60, u_X8_set_63, u_X8_set_65, u_X8_set_66, u_X8_set_67, u_X8_set_68, u_X8_set_69, u_X8_set_70, q.ob, pp, ph, if_true, xgo_some, xgo_none, xgoI_none, xcat_n, xcat_i, xcat_r, xcat_z, List.length_nil, List.length_cons, List.getD_cons_zero, List.getD_cons_succ, List.set_cons_zero, List.set_cons_succ, Nat.zero_le, Nat.reduceAdd, Nat.reduceLeDiff, Nat.reduceEqDiff, reduceIte]
    rfl
theorem lp_undo {Z : Nat → Int32} {D : Int64} {n : Nat} (hn : n < 6) (z4 : Z 4 = nI n) : ∀ (k i : Nat) (h : xH) (A : Nat → Nat → Int32), i + k = 117 → isMo h m Z D A →
    ∃ h', xf 136 33 [some (.ref m), some (.int (nI i))] [] h = some (.inl (some (.int (nI n))), h') ∧ isMo h' m Z D (va_up A 1 (cpG i 117 (A 1) (fun j => A 3 (117 * n + j)))) ∧ xFr m (m + 10) h h' := by
  intro k
  induction k with
  | zero =>
    intro i h A hk q
    have h2 : ¬ nI i < 117 := nI_nlt (b := 117) (by omega) (by omega)
    have hi : i = 117 := by omega
    subst hi
    refine ⟨h, ?_, by rw [cpG_end, va_up_eta]; exact q, xFr.rf⟩
    rw [u_X8_undo_33]
    simp only [u_X8_undo_0, u_X8_undo_1, u_X8_undo_2, u_X8_undo_5, u_X8_undo_8, u_X8_undo_9, u_X8_undo_12, u_X8_undo_13, u_X8_undo_16, u_X8_undo_19, u_X8_undo_20, u_X8_undo_21, u_X8_undo_22, u_X8_undo_23, u_X8_undo_26, u_X8_undo_27, u_X8_undo_28, u_X8_undo_31, u_X8_undo_32, u_X8_undo_34, u_X8_undo_36, u_X8_undo_39, u_X8_undo_40, u_X8_undo_43, u_X8_undo_44, u_X8_undo_45, u_X8_undo_48, u_X8_undo_50, u_X8_undo_51, u_X8_undo_54, u_X8_undo_55, u_X8_undo_56, u_X8_undo_57, u_X8_undo_58, u_X8_undo_59, u_X8_undo_62, u_X8_undo_65, u_X8_undo_66, u_X8_undo_69, q.ob, z4, h2, if_false, xgo_some, xgo_none, xgoI_none, xcat_n, xcat_i, xcat_r, xcat_z, List.length_nil, List.length_cons, List.getD_cons_zero, List.getD_cons_succ, List.set_cons_zero, List.set_cons_succ, Nat.zero_le, Nat.reduceAdd, Nat.reduceLeDiff, Nat.reduceEqDiff, reduceIte]
  | succ k ih =>
    intro i h A hk q
    have h2 : nI i < 117 := nI_lt (b := 117) (by omega) (by omega)
    have hx : xix (nI i) 117 := xix_nI (by omega) (by decide)
    have hx2 : xix (nI (117 * n + i)) 702 := xix_nI (by omega) (by decide)
    have ei : (117 : Int32) * nI n + nI i = nI (117 * n + i) := by
      rw [← nI_add]
      exact congrArg (· + nI i) (Int32.ofNat_mul 117 n).symm
    have q1 := mo_w q (k := 1) (by decide) (by decide) i (A 3 (117 * n + i))
    obtain ⟨h', a1, a2, a3⟩ := ih (i + 1) _ _ (by omega) q1
    refine ⟨h', ?_, ?_, (xFr_si h m 1 i _ (by decide)).tr a3⟩
    · rw [u_X8_undo_33]
      simp only [u_X8_undo_0, u_X8_undo_1, u_X8_undo_2, u_X8_undo_5, u_X8_undo_8, u_X8_undo_9, u_X8_undo_12, u_X8_undo_13, u_X8_undo_16, u_X8_undo_19, u_X8_undo_20, u_X8_undo_21, u_X8_undo_22, u_X8_undo_23, u_X8_undo_26, u_X8_undo_27, u_X8_undo_28, u_X8_undo_31, u_X8_undo_32, u_X8_undo_34, u_X8_undo_36, u_X8_undo_39, u_X8_undo_40, u_X8_undo_43, u_X8_undo_44, u_X8_undo_45, u_X8_undo_48, u_X8_undo_50, u_X8_undo_51, u_X8_undo_54, u_X8_undo_55, u_X8_undo_56, u_X8_undo_57, u_X8_undo_58, u_X8_undo_59, u_X8_undo_62, u_X8_undo_65, u_X8_undo_66, u_X8_undo_69, h2, q.ob, q.a1, q.a3, z4, hx, hx2, ei, nI_clamp (show i < 2 ^ 31 by omega), nI_clamp (show 117 * n + i < 2 ^ 31 by omega), nI_of1, if_true, xgo_some, xgo_none, xgoI_none, xcat_n, xcat_i, xcat_r, xcat_z, List.length_nil, List.length_cons, List.getD_cons_zero, List.getD_cons_succ, List.set_cons_zero, List.set_cons_succ, Nat.zero_le, Nat.reduceAdd, Nat.reduceLeDiff, Nat.reduceEqDiff, reduceIte]
      exact a1
    · rw [va_up_self, va_up_ne _ _ (show 3 ≠ 1 by decide), va_up_up] at a2
      rw [cpG_up (g := fun j => A 3 (117 * n + j)) (by omega)] at a2
      exact a2
theorem svR_front {v : Nat → Int32} {R : List xS} {X : xS} (w : svR v (R ++ [X])) : svR v R ∧ rS (fun i => v (117 * R.length + i)) X := by
  constructor
  · intro k hk
    have := w k (by rw [List.length_append]; omega)
    rw [List.getElem_append_left hk] at this
    exact this
  · have := w R.length (by rw [List.length_append]; simp only [List.length_cons, List.length_nil]; omega)
    rw [List.getElem_append_right (Nat.le_refl _)] at this
    simp only [Nat.sub_self, List.getElem_cons_zero] at this
    exact this
theorem M_undo {t : Int32} {P : pP} (p : isMP h m t P) : outM m P (fun _ => 1) h (xev 136 [.ref m] h) (sp_undo P) := by
  obtain ⟨X, Hs, C⟩ := P
  obtain ⟨Z, D, A, q, z0, r, z4, h6, w, z6, hC, hT⟩ := p
  simp only at r z4 h6 w z6 hC hT
  rw [e_X8_undo]
  match Hs, z4, h6, w with
  | [], z4, h6, w =>
    have ph := m_holds q 1
    rw [if_neg i10] at ph
    have e0 : ¬ (0 : Int32) < Z 4 := by rw [z4]; decide
    refine ⟨_, 0, ?_, MP_no (P := (X, [], C)) q r z4 h6 w z6 hC hT, xFr_mo _ _ _ _⟩
    simp only [u_X8_undo_0, u_X8_undo_1, u_X8_undo_2, u_X8_undo_5, u_X8_undo_8, u_X8_undo_9, u_X8_undo_12, u_X8_undo_13, u_X8_undo_16, u_X8_undo_19, u_X8_undo_20, u_X8_undo_21, u_X8_undo_22, u_X8_undo_23, u_X8_undo_26, u_X8_undo_27, u_X8_undo_28, u_X8_undo_31, u_X8_undo_32, u_X8_undo_33, u_X8_undo_34, u_X8_undo_36, u_X8_undo_39, u_X8_undo_40, u_X8_undo_43, u_X8_undo_44, u_X8_undo_45, u_X8_undo_48, u_X8_undo_50, u_X8_undo_51, u_X8_undo_54, u_X8_undo_55, u_X8_undo_56, u_X8_undo_57, u_X8_undo_58, u_X8_undo_59, u_X8_undo_62, u_X8_undo_65, u_X8_undo_66, u_X8_undo_69, q.ob, e0, ph, if_true, if_false, xgo_some, xgo_none, xgoI_none, xcat_n, xcat_i, xcat_r, xcat_z, List.length_nil, List.length_cons, List.getD_cons_zero, List.getD_cons_succ, List.set_cons_zero, List.set_cons_succ, Nat.zero_le, Nat.reduceAdd, Nat.reduceLeDiff, Nat.reduceEqDiff, reduceIte]
  | Y :: Hs, z4, h6, w =>
    simp only [List.length_cons] at z4 h6
    rw [List.reverse_cons] at w
    obtain ⟨w1, w2⟩ := svR_front w
    rw [List.length_reverse] at w2
    have ph := m_holds q 0
    rw [if_pos rfl] at ph
    have q0 := mo_z0 q 0
    have q1 := mo_z4 q0 (nI Hs.length)
    have e0 : (0 : Int32) < nI (Hs.length + 1) := nI_lt (a := 0) (by omega) (by omega)
    have e1 : va_up Z 0 0 4 = nI (Hs.length + 1) := by rw [va_up_ne _ _ (by decide)]; exact z4
    obtain ⟨h', a1, a2, a3⟩ := lp_undo (n := Hs.length) (by omega) (va_up_self _ _ _) 117 0 _ A (by omega) q1
    refine ⟨h', ?_, ⟨_, D, _, a2, by rw [va_up_ne _ _ (by decide), va_up_self], ?_, va_up_self _ _ _, by simp only; omega, by rw [va_up_ne _ _ (show 3 ≠ 1 by decide)]; exact w1, by rw [va_up_ne _ _ (by decide), va_up_ne _ _ (by decide)]; exact z6, hC, fun i hi => by rw [va_up_ne _ _ (show 4 ≠ 1 by decide)]; exact hT i hi⟩, ((xFr_mo _ _ _ _).tr (xFr_mo _ _ _ _)).tr a3⟩
    · simp only [u_X8_undo_0, u_X8_undo_1, u_X8_undo_2, u_X8_undo_5, u_X8_undo_8, u_X8_undo_9, u_X8_undo_12, u_X8_undo_13, u_X8_undo_16, u_X8_undo_19, u_X8_undo_20, u_X8_undo_21, u_X8_undo_22, u_X8_undo_23, u_X8_undo_26, u_X8_undo_27, u_X8_undo_28, u_X8_undo_31, u_X8_undo_32, u_X8_undo_34, u_X8_undo_36, u_X8_undo_39, u_X8_undo_40, u_X8_undo_43, u_X8_undo_44, u_X8_undo_45, u_X8_undo_48, u_X8_undo_50, u_X8_undo_51, u_X8_undo_54, u_X8_undo_55, u_X8_undo_56, u_X8_undo_57, u_X8_undo_58, u_X8_undo_59, u_X8_undo_62, u_X8_undo_65, u_X8_undo_66, u_X8_undo_69, q.ob, z4, e0, ph, i10, q0.ob, e1, nI_pred, if_true, if_false, xgo_some, xgo_none, xgoI_none, xcat_n, xcat_i, xcat_r, xcat_z, List.length_nil, List.length_cons, List.getD_cons_zero, List.getD_cons_succ, List.set_cons_zero, List.set_cons_succ, Nat.zero_le, Nat.reduceAdd, Nat.reduceLeDiff, Nat.reduceEqDiff, reduceIte]
      exact a1
    · rw [va_up_self]
      exact rS_cg (fun i hi => (if_pos ⟨Nat.zero_le _, hi⟩).symm) w2
end NE
