/-! What the constructors make: the history, the whole object. -/
section CV
theorem lp_Hist {N : Nat} (h0 : N ≠ 0) : ∀ (k i : Nat) (h : xH) (g : Nat → Option Nat), i + k = 6 → h.2.1 = N + 2 + 16 * i → h.1 N = some (.inr (2, [.ref (N + 1), .int 0, .int 0])) → h.1 (N + 1) = some (.inl (2, 6, .inr (.inr (.inr (.inr g))))) → (∀ j, j < i → g j = some (N + 2 + 16 * j)) → (∀ j, j < i → isS h (N + 2 + 16 * j) S0) →
    ∃ h', xf 16 15 [some (.ref N), some (.int (nI i))] [] h = some (.inl none, h') ∧ isHi h' N [] ∧ xMk N (16 * k) (204 * k) h h' := by
  intro k
  induction k with
  | zero =>
    intro i h g hk hn c1 c2 c3 c4
    have hi : i = 6 := by omega
    subst hi
    have h2 : ¬ nI 6 < Int32.ofNat 6 := by decide
    have aq : xaq h (N + 1) = (6, g) := by unfold xaq; rw [c2]; rfl
    refine ⟨h, ?_, ⟨0, g, fun _ => S0, ⟨c1, c2, by omega, by simp, c3⟩, c4, rfl⟩, xMk.fr (xFr.rf (lo := N) (hi := N)) (Nat.le_refl N)⟩
    rw [u_X2_init_15]
    simp only [u_X2_init_16, u_X2_init_17, u_X2_init_20, u_X2_init_21, u_X2_init_43, ob_of c1 rfl, aq, h2, Nat.lt_add_one, Nat.zero_lt_succ, if_false, xgo_some, xgo_none, xgoI_none, xcat_n, xcat_i, xcat_r, xcat_z, List.length_nil, List.length_cons, List.getD_cons_zero, List.getD_cons_succ, List.set_cons_zero, List.set_cons_succ, Nat.zero_le, Nat.reduceAdd, Nat.reduceLeDiff, Nat.reduceEqDiff, reduceIte]
  | succ k ih =>
    intro i h g hk hn c1 c2 c3 c4
    have h2 : nI i < Int32.ofNat 6 := nI_lt (by omega) (by decide)
    have hx : xix (nI i) 6 := xix_nI (by omega) (by decide)
    have aq : xaq h (N + 1) = (6, g) := by unfold xaq; rw [c2]; rfl
    obtain ⟨h1, a1, a2, a3⟩ := k_State hn (by omega)
    have d1 : h1.1 N = some (.inr (2, [.ref (N + 1), .int 0, .int 0])) := by rw [a3.2.2.2 N (by omega)]; exact c1
    have d2 : h1.1 (N + 1) = some (.inl (2, 6, .inr (.inr (.inr (.inr g))))) := by rw [a3.2.2.2 (N + 1) (by omega)]; exact c2
    have aq1 : xaq h1 (N + 1) = (6, g) := by unfold xaq; rw [d2]; rfl
    obtain ⟨h2', e2⟩ : ∃ h2', h2' = xsq h1 (N + 1) i (N + 2 + 16 * i) := ⟨_, rfl⟩
    have w2 : xFr (N + 1) (N + 2) h1 h2' := by rw [e2]; exact xFr_up
    have s2 : h2'.1 (N + 1) = some (.inl (2, 6, .inr (.inr (.inr (.inr (va_up g i (some (N + 2 + 16 * i)))))))) := by
      rw [e2]
      unfold xsq
      rw [aq1]
      exact xup_at _ _ _
    obtain ⟨h', b1, b2, b3⟩ := ih (i + 1) h2' (va_up g i (some (N + 2 + 16 * i))) (by omega) (by rw [w2.1, a3.1, hn]; omega) (by rw [w2.2 N (by omega)]; exact d1) s2 (by
      intro j hj
      by_cases h5 : j = i
      · rw [h5]; exact va_up_self _ _ _
      · rw [va_up_ne _ _ h5]; exact c3 j (by omega)) (by
      intro j hj
      by_cases h5 : j = i
      · rw [h5]; exact isS_fr a2 w2 (by omega)
      · exact isS_fr (isS_G (c4 j (by omega)) a3 (by omega)) w2 (by omega))
    refine ⟨h', ?_, b2, ?_⟩
    · have m1 : h.2.1 ≠ 0 := by omega
      rw [hn] at m1
      rw [u_X2_init_15]
      simp only [u_X2_init_0, u_X2_init_1, u_X2_init_4, u_X2_init_5, u_X2_init_7, u_X2_init_10, u_X2_init_13, u_X2_init_14, u_X2_init_16, u_X2_init_17, u_X2_init_20, u_X2_init_21, u_X2_init_24, u_X2_init_25, u_X2_init_28, u_X2_init_29, u_X2_init_32, u_X2_init_33, u_X2_init_36, u_X2_init_37, u_X2_init_40, u_X2_init_43, ob_of c1 rfl, aq, aq1, hx, hn, m1, h2, a1, a2.ob, nI_clamp (show i < 2 ^ 31 by omega), ← e2, nI_of1, Nat.lt_add_one, Nat.zero_lt_succ, ne_eq, not_false_eq_true, if_true, xgo_some, xgo_none, xgoI_none, xcat_n, xcat_i, xcat_r, xcat_z, List.length_nil, List.length_cons, List.getD_cons_zero, List.getD_cons_succ, List.set_cons_zero, List.set_cons_succ, Nat.zero_le, Nat.reduceAdd, Nat.reduceLeDiff, Nat.reduceEqDiff, reduceIte]
      exact b1
    · have := ((a3.wd (show N ≤ N + 2 + 16 * i by omega)).tr (xMk.fr w2 (by omega))).tr b3
      rw [show 16 * (k + 1) = 16 + 0 + 16 * k by omega, show 204 * (k + 1) = 204 + 0 + 204 * k by omega]
      exact this
theorem k_Hist {h : xH} {N : Nat} (hN : h.2.1 = N) (h0 : N ≠ 0) : ∃ h', xev 16 [.ref N] (xnew h (.inr (2, xdef 2)) 3) = some (.inl none, h') ∧ isHi h' N [] ∧ xMk N 98 1233 h h' := by
  obtain ⟨h1, e1⟩ : ∃ h1, h1 = xnew h (.inr (2, xdef 2)) 3 := ⟨_, rfl⟩
  have g1 : xMk N 1 3 h h1 := by rw [e1]; exact xMk_new _ (by omega)
  have c1 : h1.1 N = some (.inr (2, [.null, .int 0, .int 0])) := by rw [e1, ← hN]; exact new_at _ _ _
  have n1 : h1.2.1 = N + 1 := by rw [g1.1, hN]
  obtain ⟨h2, e2⟩ : ∃ h2, h2 = xnew h1 (.inl (2, 6, .inr (.inr (.inr (.inr (fun _ => none)))))) 6 := ⟨_, rfl⟩
  have g2 : xMk (N + 1) 1 6 h1 h2 := by rw [e2]; exact xMk_new _ (by omega)
  have c2 : h2.1 N = some (.inr (2, [.null, .int 0, .int 0])) := by rw [g2.2.2.2 _ (by omega)]; exact c1
  have a2 : h2.1 (N + 1) = some (.inl (2, 6, .inr (.inr (.inr (.inr (fun _ => none)))))) := by rw [e2, ← n1]; exact new_at _ _ _
  obtain ⟨h3, e3⟩ : ∃ h3, h3 = xso h2 N 0 (.ref (N + 1)) := ⟨_, rfl⟩
  have c3 : h3.1 N = some (.inr (2, [.ref (N + 1), .int 0, .int 0])) := by rw [e3]; exact so_at _ c2 rfl
  have w3 : xFr N (N + 1) h2 h3 := by rw [e3]; exact xFr_so _ _ _ _
  obtain ⟨h', b1, b2, b3⟩ := lp_Hist h0 6 0 h3 (fun _ => none) (by omega) (by rw [w3.1, g2.1, n1]) c3 (by rw [w3.2 (N + 1) (by omega)]; exact a2) (fun j hj => by omega) (fun j hj => by omega)
  have hi : ¬ (6 : Int32) < 0 ∧ (6 : Int32).toNatClampNeg = 6 ∧ 6 ≤ 1000 := ⟨by decide, by decide, by decide⟩
  have m1 : h1.2.1 ≠ 0 := by omega
  refine ⟨h', ?_, b2, ((g1.tr (g2.wd (by omega))).tr (xMk.fr w3 (Nat.le_refl _))).tr b3⟩
  rw [e_X2_init, ← e1]
  simp only [u_X2_init_0, u_X2_init_1, u_X2_init_4, u_X2_init_5, xgo_some, xgo_none, xgoI_none, xcat_n, xcat_i, xcat_r, xcat_z, List.length_nil, List.length_cons, List.getD_cons_zero, List.getD_cons_succ, List.set_cons_zero, List.set_cons_succ, Nat.zero_le, Nat.reduceAdd, Nat.reduceLeDiff, Nat.reduceEqDiff, reduceIte]
  rw [u_X2_init_7 (m := 6) (hi := hi) (hn := m1), ← e2, n1]
  simp only [u_X2_init_10, u_X2_init_13, u_X2_init_14, ob_of c2 rfl, ← e3, xgo_some, xgo_none, xgoI_none, xcat_n, xcat_i, xcat_r, xcat_z, List.length_nil, List.length_cons, List.getD_cons_zero, List.getD_cons_succ, List.set_cons_zero, List.set_cons_succ, Nat.zero_le, Nat.reduceAdd, Nat.reduceLeDiff, Nat.reduceEqDiff, reduceIte]
  exact b1
theorem isHi_G {h h' : xH} {lo k s b : Nat} {Hs : List xS} (q : isHi h b Hs) (w : xMk lo k s h h') (hc : b + 98 ≤ lo) : isHi h' b Hs := by
  obtain ⟨fr, g, S, q1, q2, q3⟩ := q
  exact ⟨fr, g, S, ⟨by rw [w.2.2.2 b (by omega)]; exact q1.1, by rw [w.2.2.2 (b + 1) (by omega)]; exact q1.2.1, q1.2.2⟩, fun i hi => isS_G (q2 i hi) w (by omega), q3⟩
theorem isB_G {h h' : xH} {lo k s b : Nat} {C : List Int32} (q : isB h b C) (w : xMk lo k s h h') (hc : b + 3 ≤ lo) : isB h' b C := by
  obtain ⟨f, q, e⟩ := q
  exact ⟨f, ⟨by rw [w.2.2.2 b (by omega)]; exact q.1, isCl_G q.2.1 w (by omega), q.2.2⟩, e⟩
theorem isN_G {h h' : xH} {lo k s b : Nat} {Z : Int32 × Int32 × Int32 × Int32} (q : isN h b Z) (w : xMk lo k s h h') (hc : b + 5 ≤ lo) : isN h' b Z := by
  obtain ⟨T, K, q⟩ := q
  exact ⟨T, K, by rw [w.2.2.2 b (by omega)]; exact q.1, isCl_G q.2.1 w (by omega), isCl_G q.2.2 w (by omega)⟩
theorem isP_G {h h' : xH} {lo k s x : Nat} {P : pP} (q : isP h x P) (w : xMk lo k s h h') (hc : x + 139 ≤ lo) : isP h' x P := by
  obtain ⟨q1, q2, q3, q4, ⟨Z, q5⟩, Y, q6⟩ := q
  exact ⟨by rw [w.2.2.2 x (by omega)]; exact q1, isS_G q2 w (by omega), isHi_G q3 w (by omega), isB_G q4 w (by omega), ⟨Z, isN_G q5 w (by omega)⟩, Y, isS_G q6 w (by omega)⟩
def P0 : pP := (S0, [], [])
theorem k_PN {h : xH} {N : Nat} (hN : h.2.1 = N) (h0 : N ≠ 0) : ∃ h', xev 62 [.ref N] (xnew h (.inr (7, xdef 7)) 5) = some (.inl none, h') ∧ isP h' N P0 ∧ xMk N 139 2357 h h' := by
  obtain ⟨h1, e1⟩ : ∃ h1, h1 = xnew h (.inr (7, xdef 7)) 5 := ⟨_, rfl⟩
  have g1 : xMk N 1 5 h h1 := by rw [e1]; exact xMk_new _ (by omega)
  have c1 : h1.1 N = some (.inr (7, [.null, .null, .null, .null, .null])) := by rw [e1, ← hN]; exact new_at _ _ _
  have n1 : h1.2.1 = N + 1 := by rw [g1.1, hN]
  obtain ⟨h2, a1, a2, a3⟩ := k_State n1 (by omega)
  have b2 : h2.1 N = some (.inr (7, [.null, .null, .null, .null, .null])) := by rw [a3.2.2.2 N (by omega)]; exact c1
  obtain ⟨h3, e3⟩ : ∃ h3, h3 = xso h2 N 0 (.ref (N + 1)) := ⟨_, rfl⟩
  have b3 : h3.1 N = some (.inr (7, [.ref (N + 1), .null, .null, .null, .null])) := by rw [e3]; exact so_at _ b2 rfl
  have w3 : xFr N (N + 1) h2 h3 := by rw [e3]; exact xFr_so _ _ _ _
  have n3 : h3.2.1 = N + 17 := by rw [w3.1, a3.1, n1]
  obtain ⟨h4, f1, f2, f3⟩ := k_Hist n3 (by omega)
  have b4 : h4.1 N = some (.inr (7, [.ref (N + 1), .null, .null, .null, .null])) := by rw [f3.2.2.2 N (by omega)]; exact b3
  obtain ⟨h5, e5⟩ : ∃ h5, h5 = xso h4 N 1 (.ref (N + 17)) := ⟨_, rfl⟩
  have b5 : h5.1 N = some (.inr (7, [.ref (N + 1), .ref (N + 17), .null, .null, .null])) := by rw [e5]; exact so_at _ b4 rfl
  have w5 : xFr N (N + 1) h4 h5 := by rw [e5]; exact xFr_so _ _ _ _
  have n5 : h5.2.1 = N + 115 := by rw [w5.1, f3.1, n3]
  obtain ⟨h6, i1, i2, i3⟩ := k_Buf n5 (by omega)
  have b6 : h6.1 N = some (.inr (7, [.ref (N + 1), .ref (N + 17), .null, .null, .null])) := by rw [i3.2.2.2 N (by omega)]; exact b5
  obtain ⟨h7, e7⟩ : ∃ h7, h7 = xso h6 N 2 (.ref (N + 115)) := ⟨_, rfl⟩
  have b7 : h7.1 N = some (.inr (7, [.ref (N + 1), .ref (N + 17), .ref (N + 115), .null, .null])) := by rw [e7]; exact so_at _ b6 rfl
  have w7 : xFr N (N + 1) h6 h7 := by rw [e7]; exact xFr_so _ _ _ _
  have n7 : h7.2.1 = N + 118 := by rw [w7.1, i3.1, n5]
  obtain ⟨h8, j1, j2, j3⟩ := k_Naming n7 (by omega)
  have b8 : h8.1 N = some (.inr (7, [.ref (N + 1), .ref (N + 17), .ref (N + 115), .null, .null])) := by rw [j3.2.2.2 N (by omega)]; exact b7
  obtain ⟨h9, e9⟩ : ∃ h9, h9 = xso h8 N 3 (.ref (N + 118)) := ⟨_, rfl⟩
  have b9 : h9.1 N = some (.inr (7, [.ref (N + 1), .ref (N + 17), .ref (N + 115), .ref (N + 118), .null])) := by rw [e9]; exact so_at _ b8 rfl
  have w9 : xFr N (N + 1) h8 h9 := by rw [e9]; exact xFr_so _ _ _ _
  have n9 : h9.2.1 = N + 123 := by rw [w9.1, j3.1, n7]
  obtain ⟨h10, k1, k2, k3⟩ := k_State n9 (by omega)
  have b10 : h10.1 N = some (.inr (7, [.ref (N + 1), .ref (N + 17), .ref (N + 115), .ref (N + 118), .null])) := by rw [k3.2.2.2 N (by omega)]; exact b9
  obtain ⟨h11, e11⟩ : ∃ h11, h11 = xso h10 N 4 (.ref (N + 123)) := ⟨_, rfl⟩
  have b11 : h11.1 N = some (.inr (7, [.ref (N + 1), .ref (N + 17), .ref (N + 115), .ref (N + 118), .ref (N + 123)])) := by rw [e11]; exact so_at _ b10 rfl
  have w11 : xFr N (N + 1) h10 h11 := by rw [e11]; exact xFr_so _ _ _ _
  refine ⟨h11, ?_, ⟨b11, isS_fr (isS_G (isS_fr (isS_G (isS_fr (isS_G (isS_fr (isS_G (isS_fr a2 w3 (by omega)) f3 (by omega)) w5 (by omega)) i3 (by omega)) w7 (by omega)) j3 (by omega)) w9 (by omega)) k3 (by omega)) w11 (by omega), isHi_fr (isHi_G (isHi_fr (isHi_G (isHi_fr (isHi_G (isHi_fr f2 w5 (by omega)) i3 (by omega)) w7 (by omega)) j3 (by omega)) w9 (by omega)) k3 (by omega)) w11 (by omega), isB_fr (isB_G (isB_fr (isB_G (isB_fr i2 w7 (by omega)) j3 (by omega)) w9 (by omega)) k3 (by omega)) w11 (by omega), ⟨_, isN_fr (isN_G (isN_fr j2 w9 (by omega)) k3 (by omega)) w11 (by omega)⟩, _, isS_fr k2 w11 (by omega)⟩, ?_⟩
  · have m1 : h1.2.1 ≠ 0 := by omega
    have m3 : h3.2.1 ≠ 0 := by omega
    have m5 : h5.2.1 ≠ 0 := by omega
    have m7 : h7.2.1 ≠ 0 := by omega
    have m9 : h9.2.1 ≠ 0 := by omega
    rw [e_X7_init, ← e1]
    simp only [u_X7_init_0, u_X7_init_1, u_X7_init_4, u_X7_init_5, u_X7_init_8, u_X7_init_9, u_X7_init_12, u_X7_init_15, u_X7_init_16, u_X7_init_19, u_X7_init_20, u_X7_init_23, u_X7_init_26, u_X7_init_27, u_X7_init_30, u_X7_init_31, u_X7_init_34, u_X7_init_37, u_X7_init_38, u_X7_init_41, u_X7_init_42, u_X7_init_45, u_X7_init_48, u_X7_init_49, u_X7_init_52, u_X7_init_53, u_X7_init_56, u_X7_init_59, m1, m3, m5, m7, m9, n1, n3, n5, n7, n9, a1, f1, i1, j1, k1, ob_of b2 rfl, ob_of b4 rfl, ob_of b6 rfl, ob_of b8 rfl, ob_of b10 rfl, ← e3, ← e5, ← e7, ← e9, ← e11, ne_eq, not_false_eq_true, xgo_some, xgo_none, xgoI_none, xcat_n, xcat_i, xcat_r, xcat_z, List.length_nil, List.length_cons, List.getD_cons_zero, List.getD_cons_succ, List.set_cons_zero, List.set_cons_succ, Nat.zero_le, Nat.reduceAdd, Nat.reduceLeDiff, Nat.reduceEqDiff, reduceIte]
  · exact ((((((((((g1.tr (a3.wd (by omega))).tr (xMk.fr w3 (Nat.le_refl _))).tr (f3.wd (by omega))).tr (xMk.fr w5 (Nat.le_refl _))).tr (i3.wd (by omega))).tr (xMk.fr w7 (Nat.le_refl _))).tr (j3.wd (by omega))).tr (xMk.fr w9 (Nat.le_refl _))).tr (k3.wd (by omega))).tr (xMk.fr w11 (Nat.le_refl _)))
end CV
