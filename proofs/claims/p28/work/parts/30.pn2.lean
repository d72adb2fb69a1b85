/-! The class: what changes the row. -/
section PO
variable {h : xH} {x : Nat}
theorem seg_drop (f : Nat → Int32) (n k : Nat) (hk : k ≤ n) : seg f k (n - k) = (seg f 0 n).drop k := by
  have e := seg_app f k 0 (n - k)
  rw [show k + (n - k) = n by omega, Nat.zero_add] at e
  rw [e, List.drop_append_of_le_length (by rw [seg_len]; omega), List.drop_of_length_le (by rw [seg_len]; omega)]
  rfl
theorem c_openAt {b k : Nat} {L : List Int32} {N : xNs} {a r sp go : Int32} (q : isS h b (L, N, a, r, sp, go)) (hk : k < L.length) (hL : L.length < 64) : ∃ h', xev 57 [.ref b, .int (nI k)] h = some (.inl none, h') ∧ isS h' b (L.take k ++ clAt 24 N.1 (gd L k) :: clAt 24 N.2.1 (gd L k) :: L.drop (k + 1), N, a, r, sp, go) ∧ xFr b (b + 16) h h' := by
  obtain ⟨z, n, f, se, ti, e, e2, e3, o⟩ := q
  simp only at e e2 e3 o z
  have el : L.length = n := by rw [← e, seg_len]
  rw [el] at hk hL
  have p1 := m_State_openAt o hL hk
  have eg : gd L k = f k := by
    unfold gd
    rw [← e, seg_get _ _ _ _ hk, Nat.zero_add]
  rw [eg]
  refine ⟨_, p1, ⟨z, n + 1, _, se, ti, ?_, e2, e3, st_row o (by omega)⟩, xFr.wd xFr_row (by omega) (by omega)⟩
  rw [seg_ins _ _ _ _ _ hk, seg_take f n k (by omega), show n - k - 1 = n - (k + 1) by omega, seg_drop f n (k + 1) (by omega), e]
theorem c_uses {b : Nat} {X : xS} (q : isS h b X) (p : Int32) : xev 49 [.ref b, .int p] h = some (.inl (some (.int (nI (cntI X.1 p + usN X.2.1.1 X.2.1.2.1 p 8 16)))), h) := by
  obtain ⟨_, n, f, _, _, e, _, _, o⟩ := q
  rw [← e]
  exact m_State_usesOf o p
theorem c_nforget {b m : Nat} {L : List Int32} {N : xNs} {a r sp go : Int32} (q : isS h b (L, N, a, r, sp, go)) (hm : m < 24) : ∃ h', xev 24 [.ref (b + 3), .int (nI m)] h = some (.inl none, h') ∧ isS h' b (L, nsOut N m, a, r, sp, go) ∧ xFr b (b + 16) h h' := by
  obtain ⟨z, n, f, se, ti, e, e2, e3, o⟩ := q
  simp only at e e2 e3 o z
  exact ⟨_, m_Names_forget o.2.2.1 hm, ⟨zN_out z hm, n, f, se, ti, e, e2, e3, st_nm o⟩, xFr.wd xFr_nm (by omega) (by omega)⟩
def sp_add (P : pP) (p : Int32) : (Int32 × pP) ⊕ Nat := if hasP P.1.2.1.1 p = true then (if P.1.1.length + 1 ≤ 64 then .inl (nI (P.1.1.length + 1), (P.1.1 ++ [p], P.1.2), (P.1 :: P.2.1).take 6, P.2.2) else .inr 1) else .inr 2
theorem P_add {P : pP} (q : isP h x P) (p : Int32) : outP x h (xev 64 [.ref x, .int p] h) (sp_add P p) := by
  obtain ⟨⟨L, T⟩, Hs, C⟩ := P
  have p1 := c_has q.2.1 p
  have p3 := c_takes q.2.1 (k := 1) (by omega)
  obtain ⟨fr, ho⟩ := q.2.2.1.ob
  unfold sp_add
  rw [e_X7_add]
  simp only at p1 p3 ⊢
  cases e1 : hasP T.1.1 p with
  | false =>
    rw [e1] at p1
    rw [if_neg (by decide)]
    unfold outP
    simp only [u_X7_add_0, u_X7_add_1, u_X7_add_4, u_X7_add_7, u_X7_add_8, u_X7_add_11, u_X7_add_14, u_X7_add_24, u_X7_add_25, u_X7_add_28, u_X7_add_31, u_X7_add_32, u_X7_add_35, u_X7_add_38, u_X7_add_48, u_X7_add_49, u_X7_add_52, u_X7_add_53, u_X7_add_56, u_X7_add_59, u_X7_add_60, u_X7_add_63, u_X7_add_66, u_X7_add_67, u_X7_add_70, u_X7_add_71, u_X7_add_74, u_X7_add_77, u_X7_add_80, q.ob, q.2.1.ob, q.2.1.nm, p1, b32_f, if_true, xgo_some, xgo_none, xgoI_none, xcat_n, xcat_i, xcat_r, xcat_z, List.length_nil, List.length_cons, List.getD_cons_zero, List.getD_cons_succ, List.set_cons_zero, List.set_cons_succ, Nat.zero_le, Nat.reduceAdd, Nat.reduceLeDiff, Nat.reduceEqDiff, reduceIte]
  | true =>
    rw [e1] at p1
    rw [if_pos rfl]
    by_cases h2 : L.length + 1 ≤ 64
    · rw [if_pos h2] at p3 ⊢
      obtain ⟨h1', b1, b2, b3⟩ := P_save q
      obtain ⟨h2', c1, c2, c3⟩ := c_push b2.2.1 p (by omega)
      have r2 := P_st b2 c2 (by exact xFr.wd c3 (by omega) (by omega))
      refine ⟨h2', ?_, r2, b3.tr (xFr.wd c3 (by omega) (by omega))⟩
      have ro := r2.2.1.rw
      simp only [List.length_append] at ro
      simp only [u_X7_add_0, u_X7_add_1, u_X7_add_4, u_X7_add_7, u_X7_add_8, u_X7_add_11, u_X7_add_14, u_X7_add_24, u_X7_add_25, u_X7_add_28, u_X7_add_31, u_X7_add_32, u_X7_add_35, u_X7_add_38, u_X7_add_48, u_X7_add_49, u_X7_add_52, u_X7_add_53, u_X7_add_56, u_X7_add_59, u_X7_add_60, u_X7_add_63, u_X7_add_66, u_X7_add_67, u_X7_add_70, u_X7_add_71, u_X7_add_74, u_X7_add_77, u_X7_add_80, q.ob, q.2.1.ob, q.2.1.rw, q.2.1.nm, b2.ob, b2.2.1.ob, b2.2.1.rw, r2.ob, r2.2.1.ob, ro, ho, p1, show (1 : Int32) = nI 1 from rfl, p3, b1, c1, b32_t, i10, if_true, if_false, xgo_some, xgo_none, xgoI_none, xcat_n, xcat_i, xcat_r, xcat_z, List.length_nil, List.length_cons, List.getD_cons_zero, List.getD_cons_succ, List.set_cons_zero, List.set_cons_succ, Nat.zero_le, Nat.reduceAdd, Nat.reduceLeDiff, Nat.reduceEqDiff, reduceIte]
      rfl
    · rw [if_neg h2] at p3 ⊢
      unfold outP
      simp only [u_X7_add_0, u_X7_add_1, u_X7_add_4, u_X7_add_7, u_X7_add_8, u_X7_add_11, u_X7_add_14, u_X7_add_24, u_X7_add_25, u_X7_add_28, u_X7_add_31, u_X7_add_32, u_X7_add_35, u_X7_add_38, u_X7_add_48, u_X7_add_49, u_X7_add_52, u_X7_add_53, u_X7_add_56, u_X7_add_59, u_X7_add_60, u_X7_add_63, u_X7_add_66, u_X7_add_67, u_X7_add_70, u_X7_add_71, u_X7_add_74, u_X7_add_77, u_X7_add_80, q.ob, q.2.1.ob, q.2.1.rw, q.2.1.nm, p1, show (1 : Int32) = nI 1 from rfl, p3, b32_t, i10, if_true, if_false, xgo_some, xgo_none, xgoI_none, xcat_n, xcat_i, xcat_r, xcat_z, List.length_nil, List.length_cons, List.getD_cons_zero, List.getD_cons_succ, List.set_cons_zero, List.set_cons_succ, Nat.zero_le, Nat.reduceAdd, Nat.reduceLeDiff, Nat.reduceEqDiff, reduceIte]
      rfl
def sp_cut (P : pP) (p : Int32) : (Int32 × pP) ⊕ Nat := if p < 0 ∨ nI P.1.1.length < p then .inr 2 else .inl (nI (namN (fgOut (P.1.1.take p.toNatClampNeg) 16 P.1.2.1).1 8 16), (P.1.1.take p.toNatClampNeg, fgOut (P.1.1.take p.toNatClampNeg) 16 P.1.2.1, P.1.2.2), (P.1 :: P.2.1).take 6, P.2.2)
theorem P_cut {P : pP} (q : isP h x P) (p : Int32) : outP x h (xev 65 [.ref x, .int p] h) (sp_cut P p) := by
  obtain ⟨⟨L, N, a, r, sp, go⟩, Hs, C⟩ := P
  obtain ⟨fr, ho⟩ := q.2.2.1.ob
  have hL := q.2.1.len
  unfold sp_cut
  rw [e_X7_cut]
  simp only at hL ⊢
  by_cases h1 : p < 0
  · rw [if_pos (Or.inl h1)]
    unfold outP
    simp only [u_X7_cut_0, u_X7_cut_1, u_X7_cut_4, u_X7_cut_5, u_X7_cut_6, u_X7_cut_9, u_X7_cut_12, u_X7_cut_15, u_X7_cut_18, u_X7_cut_28, u_X7_cut_29, u_X7_cut_32, u_X7_cut_33, u_X7_cut_36, u_X7_cut_39, u_X7_cut_40, u_X7_cut_43, u_X7_cut_46, u_X7_cut_47, u_X7_cut_50, u_X7_cut_51, u_X7_cut_54, u_X7_cut_57, u_X7_cut_58, u_X7_cut_61, u_X7_cut_64, u_X7_cut_67, h1, if_true, xgo_some, xgo_none, xgoI_none, xcat_n, xcat_i, xcat_r, xcat_z, List.length_nil, List.length_cons, List.getD_cons_zero, List.getD_cons_succ, List.set_cons_zero, List.set_cons_succ, Nat.zero_le, Nat.reduceAdd, Nat.reduceLeDiff, Nat.reduceEqDiff, reduceIte]
  · by_cases h2 : nI L.length < p
    · rw [if_pos (Or.inr h2)]
      unfold outP
      simp only [u_X7_cut_0, u_X7_cut_1, u_X7_cut_4, u_X7_cut_5, u_X7_cut_6, u_X7_cut_9, u_X7_cut_12, u_X7_cut_15, u_X7_cut_18, u_X7_cut_28, u_X7_cut_29, u_X7_cut_32, u_X7_cut_33, u_X7_cut_36, u_X7_cut_39, u_X7_cut_40, u_X7_cut_43, u_X7_cut_46, u_X7_cut_47, u_X7_cut_50, u_X7_cut_51, u_X7_cut_54, u_X7_cut_57, u_X7_cut_58, u_X7_cut_61, u_X7_cut_64, u_X7_cut_67, q.ob, q.2.1.ob, q.2.1.rw, h1, h2, if_true, if_false, xgo_some, xgo_none, xgoI_none, xcat_n, xcat_i, xcat_r, xcat_z, List.length_nil, List.length_cons, List.getD_cons_zero, List.getD_cons_succ, List.set_cons_zero, List.set_cons_succ, Nat.zero_le, Nat.reduceAdd, Nat.reduceLeDiff, Nat.reduceEqDiff, reduceIte]
    · rw [if_neg (fun z => z.elim h1 h2)]
      obtain ⟨k, k1, k2⟩ := nI_of h1
      have k3 : k ≤ L.length := by
        apply Nat.le_of_not_lt
        intro z
        exact h2 (by rw [k2]; exact nI_lt z k1)
      rw [show p.toNatClampNeg = k by rw [k2, nI_clamp k1]]
      obtain ⟨h1', b1, b2, b3⟩ := P_save q
      obtain ⟨h2', c1, c2, c3⟩ := c_short b2.2.1 k3
      have r2 := P_st b2 c2 (by exact xFr.wd c3 (by omega) (by omega))
      obtain ⟨h3', d1, d2, d3⟩ := c_forget c2
      have r3 := P_st r2 d2 (by exact xFr.wd d3 (by omega) (by omega))
      refine ⟨h3', ?_, r3, (b3.tr (xFr.wd c3 (by omega) (by omega))).tr (xFr.wd d3 (by omega) (by omega))⟩
      have p4 := c_amount r3.2.1
      simp only at p4
      rw [← k2] at c1
      simp only [u_X7_cut_0, u_X7_cut_1, u_X7_cut_4, u_X7_cut_5, u_X7_cut_6, u_X7_cut_9, u_X7_cut_12, u_X7_cut_15, u_X7_cut_18, u_X7_cut_28, u_X7_cut_29, u_X7_cut_32, u_X7_cut_33, u_X7_cut_36, u_X7_cut_39, u_X7_cut_40, u_X7_cut_43, u_X7_cut_46, u_X7_cut_47, u_X7_cut_50, u_X7_cut_51, u_X7_cut_54, u_X7_cut_57, u_X7_cut_58, u_X7_cut_61, u_X7_cut_64, u_X7_cut_67, q.ob, q.2.1.ob, q.2.1.rw, h1, h2, b2.ob, b2.2.1.ob, b2.2.1.rw, r2.ob, r2.2.1.ob, r3.ob, r3.2.1.ob, r3.2.1.nm, ho, b1, c1, d1, p4, if_false, xgo_some, xgo_none, xgoI_none, xcat_n, xcat_i, xcat_r, xcat_z, List.length_nil, List.length_cons, List.getD_cons_zero, List.getD_cons_succ, List.set_cons_zero, List.set_cons_succ, Nat.zero_le, Nat.reduceAdd, Nat.reduceLeDiff, Nat.reduceEqDiff, reduceIte]
def opL (L : List Int32) (N : xNs) (k : Nat) : List Int32 := L.take k ++ clAt 24 N.1 (gd L k) :: clAt 24 N.2.1 (gd L k) :: L.drop (k + 1)
def opN (L : List Int32) (N : xNs) (k : Nat) : xNs := if cntI (opL L N k) (gd L k) + usN N.1 N.2.1 (gd L k) 8 16 = 0 then nsOut N (gd L k).toNatClampNeg else N
def sp_open (P : pP) (p : Int32) : (Int32 × pP) ⊕ Nat := if p < 0 ∨ ¬ p < nI P.1.1.length then .inr 2 else if gd P.1.1 p.toNatClampNeg < 8 ∨ ¬ P.1.1.length + 1 ≤ 64 then .inr 1 else .inl (gd P.1.1 p.toNatClampNeg, (opL P.1.1 P.1.2.1 p.toNatClampNeg, opN P.1.1 P.1.2.1 p.toNatClampNeg, P.1.2.2), (P.1 :: P.2.1).take 6, P.2.2)
theorem gd_ok {L : List Int32} (hL : rOk L) {k : Nat} (hk : k < L.length) : gd L k = nI (gd L k).toNatClampNeg ∧ (gd L k).toNatClampNeg < 24 := by
  refine hL _ ?_
  unfold gd
  rw [List.getD_eq_getElem?_getD, List.getElem?_eq_getElem hk]
  exact List.getElem_mem hk
theorem P_open {P : pP} (q : isP h x P) (hR : rOk P.1.1) (p : Int32) : outP x h (xev 66 [.ref x, .int p] h) (sp_open P p) := by
  obtain ⟨⟨L, N, a, r, sp, go⟩, Hs, C⟩ := P
  obtain ⟨fr, ho⟩ := q.2.2.1.ob
  have hL := q.2.1.len
  unfold sp_open
  rw [e_X7_open]
  simp only at hL hR ⊢
  by_cases h1 : p < 0
  · rw [if_pos (Or.inl h1)]
    unfold outP
    simp only [u_X7_open_0, u_X7_open_1, u_X7_open_4, u_X7_open_5, u_X7_open_6, u_X7_open_9, u_X7_open_12, u_X7_open_15, u_X7_open_18, u_X7_open_28, u_X7_open_29, u_X7_open_32, u_X7_open_35, u_X7_open_36, u_X7_open_39, u_X7_open_40, u_X7_open_41, u_X7_open_43, u_X7_open_46, u_X7_open_47, u_X7_open_50, u_X7_open_53, u_X7_open_54, u_X7_open_57, u_X7_open_60, u_X7_open_70, u_X7_open_71, u_X7_open_74, u_X7_open_75, u_X7_open_78, u_X7_open_81, u_X7_open_82, u_X7_open_85, u_X7_open_86, u_X7_open_89, u_X7_open_90, u_X7_open_93, u_X7_open_94, u_X7_open_97, u_X7_open_100, u_X7_open_101, u_X7_open_104, u_X7_open_107, u_X7_open_108, u_X7_open_111, u_X7_open_112, h1, if_true, xgo_some, xgo_none, xgoI_none, xcat_n, xcat_i, xcat_r, xcat_z, List.length_nil, List.length_cons, List.getD_cons_zero, List.getD_cons_succ, List.set_cons_zero, List.set_cons_succ, Nat.zero_le, Nat.reduceAdd, Nat.reduceLeDiff, Nat.reduceEqDiff, reduceIte]
  · by_cases h2 : p < nI L.length
    · rw [if_neg (fun z => z.elim h1 (fun w => w h2))]
      obtain ⟨k, k1, k2⟩ := nI_of h1
      have k3 : k < L.length := by rw [k2] at h2; exact (nI_ltI k1 (by omega)).mp h2
      rw [show p.toNatClampNeg = k by rw [k2, nI_clamp k1]]
      have pa := c_at q.2.1 p
      simp only at pa
      rw [show clAt L.length (gd L) p = gd L k by rw [k2]; exact clAt_nI k3 (by omega)] at pa
      have p3 := c_takes q.2.1 (k := 1) (by omega)
      simp only at p3
      by_cases h3 : gd L k < 8
      · rw [if_pos (Or.inl h3)]
        unfold outP
        simp only [u_X7_open_0, u_X7_open_1, u_X7_open_4, u_X7_open_5, u_X7_open_6, u_X7_open_9, u_X7_open_12, u_X7_open_15, u_X7_open_18, u_X7_open_28, u_X7_open_29, u_X7_open_32, u_X7_open_35, u_X7_open_36, u_X7_open_39, u_X7_open_40, u_X7_open_41, u_X7_open_43, u_X7_open_46, u_X7_open_47, u_X7_open_50, u_X7_open_53, u_X7_open_54, u_X7_open_57, u_X7_open_60, u_X7_open_70, u_X7_open_71, u_X7_open_74, u_X7_open_75, u_X7_open_78, u_X7_open_81, u_X7_open_82, u_X7_open_85, u_X7_open_86, u_X7_open_89, u_X7_open_90, u_X7_open_93, u_X7_open_94, u_X7_open_97, u_X7_open_100, u_X7_open_101, u_X7_open_104, u_X7_open_107, u_X7_open_108, u_X7_open_111, u_X7_open_112, q.ob, q.2.1.ob, q.2.1.rw, h1, h2, h3, pa, if_true, if_false, xgo_some, xgo_none, xgoI_none, xcat_n, xcat_i, xcat_r, xcat_z, List.length_nil, List.length_cons, List.getD_cons_zero, List.getD_cons_succ, List.set_cons_zero, List.set_cons_succ, Nat.zero_le, Nat.reduceAdd, Nat.reduceLeDiff, Nat.reduceEqDiff, reduceIte]
      · by_cases h4 : L.length + 1 ≤ 64
        · rw [if_neg (fun z => z.elim h3 (fun w => w h4))]
          rw [if_pos h4] at p3
          obtain ⟨h1', b1, b2, b3⟩ := P_save q
          obtain ⟨h2', c1, c2, c3⟩ := c_openAt b2.2.1 k3 (by omega)
          have r2 := P_st b2 c2 (by exact xFr.wd c3 (by omega) (by omega))
          have p5 := c_uses r2.2.1 (gd L k)
          simp only at p5
          rw [← k2] at c1
          obtain ⟨v1, v2⟩ := gd_ok hR k3
          by_cases h5 : cntI (opL L N k) (gd L k) + usN N.1 N.2.1 (gd L k) 8 16 = 0
          · obtain ⟨h3', d1, d2, d3⟩ := c_nforget c2 v2
            rw [← v1] at d1
            have r3 := P_st r2 d2 (by exact xFr.wd d3 (by omega) (by omega))
            rw [show opN L N k = nsOut N (gd L k).toNatClampNeg from if_pos h5]
            refine ⟨h3', ?_, r3, (b3.tr (xFr.wd c3 (by omega) (by omega))).tr (xFr.wd d3 (by omega) (by omega))⟩
            unfold opL at h5
            simp only [u_X7_open_0, u_X7_open_1, u_X7_open_4, u_X7_open_5, u_X7_open_6, u_X7_open_9, u_X7_open_12, u_X7_open_15, u_X7_open_18, u_X7_open_28, u_X7_open_29, u_X7_open_32, u_X7_open_35, u_X7_open_36, u_X7_open_39, u_X7_open_40, u_X7_open_41, u_X7_open_43, u_X7_open_46, u_X7_open_47, u_X7_open_50, u_X7_open_53, u_X7_open_54, u_X7_open_57, u_X7_open_60, u_X7_open_70, u_X7_open_71, u_X7_open_74, u_X7_open_75, u_X7_open_78, u_X7_open_81, u_X7_open_82, u_X7_open_85, u_X7_open_86, u_X7_open_89, u_X7_open_90, u_X7_open_93, u_X7_open_94, u_X7_open_97, u_X7_open_100, u_X7_open_101, u_X7_open_104, u_X7_open_107, u_X7_open_108, u_X7_open_111, u_X7_open_112, q.ob, q.2.1.ob, q.2.1.rw, h1, h2, h3, h5, nI_0, pa, show (1 : Int32) = nI 1 from rfl, p3, show ¬ nI 1 = 0 from i10, ho, b1, b2.ob, b2.2.1.ob, c1, r2.ob, r2.2.1.ob, r2.2.1.nm, p5, d1, if_true, if_false, xgo_some, xgo_none, xgoI_none, xcat_n, xcat_i, xcat_r, xcat_z, List.length_nil, List.length_cons, List.getD_cons_zero, List.getD_cons_succ, List.set_cons_zero, List.set_cons_succ, Nat.zero_le, Nat.reduceAdd, Nat.reduceLeDiff, Nat.reduceEqDiff, reduceIte]
          · rw [show opN L N k = N from if_neg h5]
            refine ⟨h2', ?_, r2, b3.tr (xFr.wd c3 (by omega) (by omega))⟩
            have h6 : ¬ nI (cntI (opL L N k) (gd L k) + usN N.1 N.2.1 (gd L k) 8 16) = 0 := by
              have t1 := cntI_le (opL L N k) (gd L k)
              have t2 := usN_le N.1 N.2.1 (gd L k) 16 8
              have t3 := r2.2.1.len
              simp only at t3
              unfold opL at t1 h5 ⊢
              exact nI_ne0 (by omega) (by omega)
            unfold opL at h6
            simp only [u_X7_open_0, u_X7_open_1, u_X7_open_4, u_X7_open_5, u_X7_open_6, u_X7_open_9, u_X7_open_12, u_X7_open_15, u_X7_open_18, u_X7_open_28, u_X7_open_29, u_X7_open_32, u_X7_open_35, u_X7_open_36, u_X7_open_39, u_X7_open_40, u_X7_open_41, u_X7_open_43, u_X7_open_46, u_X7_open_47, u_X7_open_50, u_X7_open_53, u_X7_open_54, u_X7_open_57, u_X7_open_60, u_X7_open_70, u_X7_open_71, u_X7_open_74, u_X7_open_75, u_X7_open_78, u_X7_open_81, u_X7_open_82, u_X7_open_85, u_X7_open_86, u_X7_open_89, u_X7_open_90, u_X7_open_93, u_X7_open_94, u_X7_open_97, u_X7_open_100, u_X7_open_101, u_X7_open_104, u_X7_open_107, u_X7_open_108, u_X7_open_111, u_X7_open_112, q.ob, q.2.1.ob, q.2.1.rw, h1, h2, h3, h6, pa, show (1 : Int32) = nI 1 from rfl, p3, show ¬ nI 1 = 0 from i10, ho, b1, b2.ob, b2.2.1.ob, c1, r2.ob, r2.2.1.ob, r2.2.1.nm, p5, if_true, if_false, xgo_some, xgo_none, xgoI_none, xcat_n, xcat_i, xcat_r, xcat_z, List.length_nil, List.length_cons, List.getD_cons_zero, List.getD_cons_succ, List.set_cons_zero, List.set_cons_succ, Nat.zero_le, Nat.reduceAdd, Nat.reduceLeDiff, Nat.reduceEqDiff, reduceIte]
        · rw [if_pos (Or.inr h4)]
          rw [if_neg h4] at p3
          unfold outP
          simp only [u_X7_open_0, u_X7_open_1, u_X7_open_4, u_X7_open_5, u_X7_open_6, u_X7_open_9, u_X7_open_12, u_X7_open_15, u_X7_open_18, u_X7_open_28, u_X7_open_29, u_X7_open_32, u_X7_open_35, u_X7_open_36, u_X7_open_39, u_X7_open_40, u_X7_open_41, u_X7_open_43, u_X7_open_46, u_X7_open_47, u_X7_open_50, u_X7_open_53, u_X7_open_54, u_X7_open_57, u_X7_open_60, u_X7_open_70, u_X7_open_71, u_X7_open_74, u_X7_open_75, u_X7_open_78, u_X7_open_81, u_X7_open_82, u_X7_open_85, u_X7_open_86, u_X7_open_89, u_X7_open_90, u_X7_open_93, u_X7_open_94, u_X7_open_97, u_X7_open_100, u_X7_open_101, u_X7_open_104, u_X7_open_107, u_X7_open_108, u_X7_open_111, u_X7_open_112, q.ob, q.2.1.ob, q.2.1.rw, h1, h2, h3, pa, show (1 : Int32) = nI 1 from rfl, p3, if_true, if_false, xgo_some, xgo_none, xgoI_none, xcat_n, xcat_i, xcat_r, xcat_z, List.length_nil, List.length_cons, List.getD_cons_zero, List.getD_cons_succ, List.set_cons_zero, List.set_cons_succ, Nat.zero_le, Nat.reduceAdd, Nat.reduceLeDiff, Nat.reduceEqDiff, reduceIte]
    · rw [if_pos (Or.inr h2)]
      unfold outP
      simp only [u_X7_open_0, u_X7_open_1, u_X7_open_4, u_X7_open_5, u_X7_open_6, u_X7_open_9, u_X7_open_12, u_X7_open_15, u_X7_open_18, u_X7_open_28, u_X7_open_29, u_X7_open_32, u_X7_open_35, u_X7_open_36, u_X7_open_39, u_X7_open_40, u_X7_open_41, u_X7_open_43, u_X7_open_46, u_X7_open_47, u_X7_open_50, u_X7_open_53, u_X7_open_54, u_X7_open_57, u_X7_open_60, u_X7_open_70, u_X7_open_71, u_X7_open_74, u_X7_open_75, u_X7_open_78, u_X7_open_81, u_X7_open_82, u_X7_open_85, u_X7_open_86, u_X7_open_89, u_X7_open_90, u_X7_open_93, u_X7_open_94, u_X7_open_97, u_X7_open_100, u_X7_open_101, u_X7_open_104, u_X7_open_107, u_X7_open_108, u_X7_open_111, u_X7_open_112, q.ob, q.2.1.ob, q.2.1.rw, h1, h2, if_true, if_false, xgo_some, xgo_none, xgoI_none, xcat_n, xcat_i, xcat_r, xcat_z, List.length_nil, List.length_cons, List.getD_cons_zero, List.getD_cons_succ, List.set_cons_zero, List.set_cons_succ, Nat.zero_le, Nat.reduceAdd, Nat.reduceLeDiff, Nat.reduceEqDiff, reduceIte]
end PO
