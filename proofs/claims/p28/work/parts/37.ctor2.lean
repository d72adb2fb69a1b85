/-! What the constructors make: states and what holds them. -/
section CU
theorem isNm_G {h h' : xH} {lo k s c : Nat} {fs sn dp ln : Nat → Int32} (q : isNm h c fs sn dp ln) (w : xMk lo k s h h') (hc : c + 9 ≤ lo) : isNm h' c fs sn dp ln := ⟨by rw [w.2.2.2 c (by omega)]; exact q.1, isCl_G q.2.1 w (by omega), isCl_G q.2.2.1 w (by omega), isCl_G q.2.2.2.1 w (by omega), isCl_G q.2.2.2.2 w (by omega)⟩
theorem isS_G {h h' : xH} {lo k s b : Nat} {X : xS} (q : isS h b X) (w : xMk lo k s h h') (hc : b + 16 ≤ lo) : isS h' b X := by
  obtain ⟨z, n, f, se, ti, e1, e2, e3, o⟩ := q
  exact ⟨z, n, f, se, ti, e1, e2, e3, by rw [w.2.2.2 b (by omega)]; exact o.1, isRow_G o.2.1 w (by omega), isNm_G o.2.2.1 w (by omega), isCl_G o.2.2.2.1 w (by omega), isCl_G o.2.2.2.2 w (by omega)⟩
def S0 : xS := ([], (fM, fM, f0, fL), 2, 2, 0, 0)
theorem zN_0 : zN (fM, fM, f0, fL) := fun i hi => ⟨if_neg (by omega), if_neg (by omega), rfl, if_neg (by omega)⟩
theorem k_State {h : xH} {N : Nat} (hN : h.2.1 = N) (h0 : N ≠ 0) : ∃ h', xev 47 [.ref N] (xnew h (.inr (6, xdef 6)) 6) = some (.inl none, h') ∧ isS h' N S0 ∧ xMk N 16 204 h h' := by
  obtain ⟨h1, e1⟩ : ∃ h1, h1 = xnew h (.inr (6, xdef 6)) 6 := ⟨_, rfl⟩
  have g1 : xMk N 1 6 h h1 := by rw [e1]; exact xMk_new _ (by omega)
  have c1 : h1.1 N = some (.inr (6, [.null, .null, .null, .int 0, .int 0, .null])) := by rw [e1, ← hN]; exact new_at _ _ _
  have n1 : h1.2.1 = N + 1 := by rw [g1.1, hN]
  obtain ⟨h2, a1, a2, a3⟩ := k_Row n1 (by omega)
  have b2 : h2.1 N = some (.inr (6, [.null, .null, .null, .int 0, .int 0, .null])) := by rw [a3.2.2.2 N (by omega)]; exact c1
  obtain ⟨h3, e3⟩ : ∃ h3, h3 = xso h2 N 0 (.ref (N + 1)) := ⟨_, rfl⟩
  have b3 : h3.1 N = some (.inr (6, [.ref (N + 1), .null, .null, .int 0, .int 0, .null])) := by rw [e3]; exact so_at _ b2 rfl
  have w3 : xFr N (N + 1) h2 h3 := by rw [e3]; exact xFr_so _ _ _ _
  have n3 : h3.2.1 = N + 3 := by rw [w3.1, a3.1, n1]
  obtain ⟨h4, f1, f2, f3⟩ := k_Names n3 (by omega)
  have b4 : h4.1 N = some (.inr (6, [.ref (N + 1), .null, .null, .int 0, .int 0, .null])) := by rw [f3.2.2.2 N (by omega)]; exact b3
  obtain ⟨h5, e5⟩ : ∃ h5, h5 = xso h4 N 1 (.ref (N + 3)) := ⟨_, rfl⟩
  have b5 : h5.1 N = some (.inr (6, [.ref (N + 1), .ref (N + 3), .null, .int 0, .int 0, .null])) := by rw [e5]; exact so_at _ b4 rfl
  have w5 : xFr N (N + 1) h4 h5 := by rw [e5]; exact xFr_so _ _ _ _
  have n5 : h5.2.1 = N + 12 := by rw [w5.1, f3.1, n3]
  obtain ⟨h6, i1, i2, i3⟩ := k_Cells (n := 2) n5 (by omega) (by omega)
  have b6 : h6.1 N = some (.inr (6, [.ref (N + 1), .ref (N + 3), .null, .int 0, .int 0, .null])) := by rw [i3.2.2.2 N (by omega)]; exact b5
  obtain ⟨h7, e7⟩ : ∃ h7, h7 = xso h6 N 2 (.ref (N + 12)) := ⟨_, rfl⟩
  have b7 : h7.1 N = some (.inr (6, [.ref (N + 1), .ref (N + 3), .ref (N + 12), .int 0, .int 0, .null])) := by rw [e7]; exact so_at _ b6 rfl
  have w7 : xFr N (N + 1) h6 h7 := by rw [e7]; exact xFr_so _ _ _ _
  have n7 : h7.2.1 = N + 14 := by rw [w7.1, i3.1, n5]
  obtain ⟨h8, j1, j2, j3⟩ := k_Cells (n := 24) n7 (by omega) (by omega)
  have b8 : h8.1 N = some (.inr (6, [.ref (N + 1), .ref (N + 3), .ref (N + 12), .int 0, .int 0, .null])) := by rw [j3.2.2.2 N (by omega)]; exact b7
  obtain ⟨h9, e9⟩ : ∃ h9, h9 = xso h8 N 5 (.ref (N + 14)) := ⟨_, rfl⟩
  have b9 : h9.1 N = some (.inr (6, [.ref (N + 1), .ref (N + 3), .ref (N + 12), .int 0, .int 0, .ref (N + 14)])) := by rw [e9]; exact so_at _ b8 rfl
  have w9 : xFr N (N + 1) h8 h9 := by rw [e9]; exact xFr_so _ _ _ _
  have q9 : isSt h9 N 0 f0 fM fM f0 fL f0 0 0 f0 := ⟨b9, isRow_fr (isRow_G (isRow_fr (isRow_G (isRow_fr (isRow_G (isRow_fr a2 w3 (by omega)) f3 (by omega)) w5 (by omega)) i3 (by omega)) w7 (by omega)) j3 (by omega)) w9 (by omega), isNm_fr (isNm_G (isNm_fr (isNm_G (isNm_fr f2 w5 (by omega)) i3 (by omega)) w7 (by omega)) j3 (by omega)) w9 (by omega), isCl_fr (isCl_G (isCl_fr i2 w7 (by omega)) j3 (by omega)) w9 (by omega), isCl_fr j2 w9 (by omega)⟩
  have s9 : isS h9 N ([], (fM, fM, f0, fL), 0, 0, 0, 0) := ⟨zN_0, 0, f0, f0, f0, rfl, rfl, rfl, q9⟩
  obtain ⟨h10, p1, p2, p3⟩ := c_sePut s9 (s := 0) (by decide) (by decide) 2
  obtain ⟨h11, r1, r2, r3⟩ := c_sePut p2 (s := 1) (by decide) (by decide) 2
  refine ⟨h11, ?_, r2, ?_⟩
  · have m1 : h1.2.1 ≠ 0 := by omega
    have m3 : h3.2.1 ≠ 0 := by omega
    have m5 : h5.2.1 ≠ 0 := by omega
    have m7 : h7.2.1 ≠ 0 := by omega
    replace i1 : xev 11 [.ref (N + 12), .int 2] _ = _ := i1
    replace j1 : xev 11 [.ref (N + 14), .int 24] _ = _ := j1
    rw [e_X6_init, ← e1]
    simp only [u_X6_init_0, u_X6_init_1, u_X6_init_4, u_X6_init_5, u_X6_init_8, u_X6_init_9, u_X6_init_12, u_X6_init_15, u_X6_init_16, u_X6_init_19, u_X6_init_20, u_X6_init_23, u_X6_init_26, u_X6_init_27, u_X6_init_30, u_X6_init_31, u_X6_init_32, u_X6_init_35, u_X6_init_38, u_X6_init_39, u_X6_init_42, u_X6_init_43, u_X6_init_45, u_X6_init_48, u_X6_init_51, u_X6_init_52, u_X6_init_55, u_X6_init_56, u_X6_init_57, u_X6_init_60, u_X6_init_61, u_X6_init_64, u_X6_init_65, u_X6_init_66, u_X6_init_69, m1, m3, m5, m7, n1, n3, n5, n7, a1, f1, i1, j1, ob_of b2 rfl, ob_of b4 rfl, ob_of b6 rfl, ob_of b8 rfl, ← e3, ← e5, ← e7, ← e9, q9.ob, s9.se, p1, p2.ob, p2.se, r1, ne_eq, not_false_eq_true, xgo_some, xgo_none, xgoI_none, xcat_n, xcat_i, xcat_r, xcat_z, List.length_nil, List.length_cons, List.getD_cons_zero, List.getD_cons_succ, List.set_cons_zero, List.set_cons_succ, Nat.zero_le, Nat.reduceAdd, Nat.reduceLeDiff, Nat.reduceEqDiff, reduceIte]
  · exact ((((((((((g1.tr (a3.wd (by omega))).tr (xMk.fr w3 (Nat.le_refl _))).tr (f3.wd (by omega))).tr (xMk.fr w5 (Nat.le_refl _))).tr (i3.wd (by omega))).tr (xMk.fr w7 (Nat.le_refl _))).tr (j3.wd (by omega))).tr (xMk.fr w9 (Nat.le_refl _))).tr (xMk.fr p3 (Nat.le_refl _))).tr (xMk.fr r3 (Nat.le_refl _)))
theorem k_Buf {h : xH} {N : Nat} (hN : h.2.1 = N) (h0 : N ≠ 0) : ∃ h', xev 0 [.ref N] (xnew h (.inr (0, xdef 0)) 2) = some (.inl none, h') ∧ isB h' N [] ∧ xMk N 3 63 h h' := by
  obtain ⟨h1, e1⟩ : ∃ h1, h1 = xnew h (.inr (0, xdef 0)) 2 := ⟨_, rfl⟩
  have g1 : xMk N 1 2 h h1 := by rw [e1]; exact xMk_new _ (by omega)
  have c1 : h1.1 N = some (.inr (0, [.null, .int 0])) := by rw [e1, ← hN]; exact new_at _ _ _
  have n1 : h1.2.1 = N + 1 := by rw [g1.1, hN]
  obtain ⟨h2, a1, a2, a3⟩ := k_Cells (n := 60) n1 (by omega) (by omega)
  have b2 : h2.1 N = some (.inr (0, [.null, .int 0])) := by rw [a3.2.2.2 N (by omega)]; exact c1
  have w3 := xFr_so h2 N 0 (.ref (N + 1))
  refine ⟨_, ?_, ⟨fun _ => 0, ⟨so_at _ b2 rfl, isCl_fr a2 w3 (by omega), Nat.zero_le _⟩, rfl⟩, (g1.tr (a3.wd (by omega))).tr (xMk.fr w3 (Nat.le_refl _))⟩
  have m1 : h1.2.1 ≠ 0 := by omega
  replace a1 : xev 11 [.ref (N + 1), .int 60] _ = _ := a1
  rw [e_X0_init, ← e1]
  simp only [u_X0_init_0, u_X0_init_1, u_X0_init_4, u_X0_init_5, u_X0_init_8, u_X0_init_9, u_X0_init_11, u_X0_init_14, u_X0_init_17, m1, n1, a1, ob_of b2 rfl, ne_eq, not_false_eq_true, xgo_some, xgo_none, xgoI_none, xcat_n, xcat_i, xcat_r, xcat_z, List.length_nil, List.length_cons, List.getD_cons_zero, List.getD_cons_succ, List.set_cons_zero, List.set_cons_succ, Nat.zero_le, Nat.reduceAdd, Nat.reduceLeDiff, Nat.reduceEqDiff, reduceIte]
theorem k_Naming {h : xH} {N : Nat} (hN : h.2.1 = N) (h0 : N ≠ 0) : ∃ h', xev 28 [.ref N] (xnew h (.inr (4, xdef 4)) 6) = some (.inl none, h') ∧ isN h' N (-1, -1, -1, -1) ∧ xMk N 5 648 h h' := by
  obtain ⟨h1, e1⟩ : ∃ h1, h1 = xnew h (.inr (4, xdef 4)) 6 := ⟨_, rfl⟩
  have g1 : xMk N 1 6 h h1 := by rw [e1]; exact xMk_new _ (by omega)
  have c1 : h1.1 N = some (.inr (4, [.null, .null, .int 0, .int 0, .int 0, .int 0])) := by rw [e1, ← hN]; exact new_at _ _ _
  have n1 : h1.2.1 = N + 1 := by rw [g1.1, hN]
  obtain ⟨h2, a1, a2, a3⟩ := k_Cells (n := 576) n1 (by omega) (by omega)
  have b2 : h2.1 N = some (.inr (4, [.null, .null, .int 0, .int 0, .int 0, .int 0])) := by rw [a3.2.2.2 N (by omega)]; exact c1
  obtain ⟨h3, e3⟩ : ∃ h3, h3 = xso h2 N 0 (.ref (N + 1)) := ⟨_, rfl⟩
  have b3 : h3.1 N = some (.inr (4, [.ref (N + 1), .null, .int 0, .int 0, .int 0, .int 0])) := by rw [e3]; exact so_at _ b2 rfl
  have w3 : xFr N (N + 1) h2 h3 := by rw [e3]; exact xFr_so _ _ _ _
  have n3 : h3.2.1 = N + 3 := by rw [w3.1, a3.1, n1]
  obtain ⟨h4, f1, f2, f3⟩ := k_Cells (n := 64) n3 (by omega) (by omega)
  have b4 : h4.1 N = some (.inr (4, [.ref (N + 1), .null, .int 0, .int 0, .int 0, .int 0])) := by rw [f3.2.2.2 N (by omega)]; exact b3
  obtain ⟨h5, e5⟩ : ∃ h5, h5 = xso h4 N 1 (.ref (N + 3)) := ⟨_, rfl⟩
  have b5 : h5.1 N = some (.inr (4, [.ref (N + 1), .ref (N + 3), .int 0, .int 0, .int 0, .int 0])) := by rw [e5]; exact so_at _ b4 rfl
  have w5 : xFr N (N + 1) h4 h5 := by rw [e5]; exact xFr_so _ _ _ _
  have q5 : isNg h5 N (fun _ => 0) (fun _ => 0) 0 0 0 0 := ⟨b5, isCl_fr (isCl_G (isCl_fr a2 w3 (by omega)) f3 (by omega)) w5 (by omega), isCl_fr f2 w5 (by omega)⟩
  have q6 := ng_a q5 (-1)
  have q7 := ng_c q6 (-1)
  have q8 := ng_o q7 (-1)
  have q9 := ng_g q8 (-1)
  refine ⟨_, ?_, ⟨_, _, q9⟩, ((((((((g1.tr (a3.wd (by omega))).tr (xMk.fr w3 (Nat.le_refl _))).tr (f3.wd (by omega))).tr (xMk.fr w5 (Nat.le_refl _))).tr (xMk.fr (xFr_so _ _ _ _) (Nat.le_refl _))).tr (xMk.fr (xFr_so _ _ _ _) (Nat.le_refl _))).tr (xMk.fr (xFr_so _ _ _ _) (Nat.le_refl _))).tr (xMk.fr (xFr_so _ _ _ _) (Nat.le_refl _)))⟩
  have m1 : h1.2.1 ≠ 0 := by omega
  have m3 : h3.2.1 ≠ 0 := by omega
  replace a1 : xev 11 [.ref (N + 1), .int 576] _ = _ := a1
  replace f1 : xev 11 [.ref (N + 3), .int 64] _ = _ := f1
  rw [e_X4_init, ← e1]
  simp only [u_X4_init_0, u_X4_init_1, u_X4_init_4, u_X4_init_5, u_X4_init_8, u_X4_init_9, u_X4_init_12, u_X4_init_15, u_X4_init_18, u_X4_init_19, u_X4_init_22, u_X4_init_23, u_X4_init_25, u_X4_init_28, u_X4_init_31, u_X4_init_32, u_X4_init_33, u_X4_init_36, u_X4_init_37, u_X4_init_38, u_X4_init_41, u_X4_init_42, u_X4_init_43, u_X4_init_46, u_X4_init_47, u_X4_init_48, u_X4_init_51, m1, m3, n1, n3, a1, f1, ob_of b2 rfl, ob_of b4 rfl, ← e3, ← e5, q5.ob, q6.ob, q7.ob, q8.ob, ne_eq, not_false_eq_true, xgo_some, xgo_none, xgoI_none, xcat_n, xcat_i, xcat_r, xcat_z, List.length_nil, List.length_cons, List.getD_cons_zero, List.getD_cons_succ, List.set_cons_zero, List.set_cons_succ, Nat.zero_le, Nat.reduceAdd, Nat.reduceLeDiff, Nat.reduceEqDiff, reduceIte]
end CU
