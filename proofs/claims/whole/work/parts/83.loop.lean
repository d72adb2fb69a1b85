/-! The law: its loop, and the whole of it. -/
section LD
variable {b x m o L : Nat} {xs : Nat → Int32}
theorem C_all (hb : b < x) (hm : x + 139 ≤ m) (hmo : m + 10 ≤ o) {h : xH} {P : pP} {i : Nat} (I : LI b x m o L xs h P) (hi : i + 2 < L) (hL : L ≤ 1536) (l5 l6 l7 l8 : Option Value) (a : Int32) : CR b x m o L xs h i (xf 178 39 [some (.ref b), some (.ref x), some (.ref m), some (.ref o), some (.int (nI i)), l5, l6, l7, l8] [.int a] h) := by
  rw [u_L_law_39]
  by_cases a0 : a = 0
  · rw [if_pos a0]
    exact C_grow hb hm hmo I hi hL l5 l6 l7 l8
  rw [if_neg a0]
  by_cases a1 : a = 1
  · rw [if_pos a1]
    exact C_add hb hm hmo I hi hL l5 l6 l7 l8
  rw [if_neg a1]
  by_cases a2 : a = 2
  · rw [if_pos a2]
    exact C_cut hb hm hmo I hi hL l5 l6 l7 l8
  rw [if_neg a2]
  by_cases a3 : a = 3
  · rw [if_pos a3]
    exact C_open hb hm hmo I hi hL l5 l6 l7 l8
  rw [if_neg a3]
  by_cases a4 : a = 4
  · rw [if_pos a4]
    exact C_name hb hm hmo I l5 l6 l7 l8
  rw [if_neg a4]
  by_cases a5 : a = 5
  · rw [if_pos a5]
    exact C_nameAll hb hm hmo I l5 l6 l7 l8
  rw [if_neg a5]
  by_cases a6 : a = 6
  · rw [if_pos a6]
    exact C_letGo hb hm hmo I l5 l6 l7 l8
  rw [if_neg a6]
  by_cases a7 : a = 7
  · rw [if_pos a7]
    exact C_openAll hb hm hmo I hi hL l5 l6 l7 l8
  rw [if_neg a7]
  by_cases a8 : a = 8
  · rw [if_pos a8]
    exact C_set hb hm hmo I hi hL l5 l6 l7 l8
  rw [if_neg a8]
  by_cases a9 : a = 9
  · rw [if_pos a9]
    exact C_append hb hm hmo I hi hL l5 l6 l7 l8
  rw [if_neg a9]
  by_cases a10 : a = 10
  · rw [if_pos a10]
    exact C_clearBuffer hb hm hmo I l5 l6 l7 l8
  rw [if_neg a10]
  by_cases a11 : a = 11
  · rw [if_pos a11]
    exact C_firstError hb hm hmo I l5 l6 l7 l8
  rw [if_neg a11]
  by_cases a12 : a = 12
  · rw [if_pos a12]
    exact C_undo hb hm hmo I hi hL l5 l6 l7 l8
  rw [if_neg a12]
  by_cases a13 : a = 13
  · rw [if_pos a13]
    exact C_part hb hm hmo I hi hL l5 l6 l7 l8
  rw [if_neg a13]
  by_cases a14 : a = 14
  · rw [if_pos a14]
    exact C_sign hb hm hmo I hi hL l5 l6 l7 l8
  rw [if_neg a14]
  by_cases a15 : a = 15
  · rw [if_pos a15]
    exact C_about hb hm hmo I hi hL l5 l6 l7 l8
  rw [if_neg a15]
  by_cases a16 : a = 16
  · rw [if_pos a16]
    exact C_pair hb hm hmo I hi hL l5 l6 l7 l8
  rw [if_neg a16]
  by_cases a17 : a = 17
  · rw [if_pos a17]
    exact C_next hb hm hmo I hi hL l5 l6 l7 l8
  rw [if_neg a17]
  by_cases a18 : a = 18
  · rw [if_pos a18]
    exact C_count hb hm hmo I hi hL l5 l6 l7 l8
  rw [if_neg a18]
  by_cases a19 : a = 19
  · rw [if_pos a19]
    exact C_times hb hm hmo I hi hL l5 l6 l7 l8
  rw [if_neg a19]
  by_cases a20 : a = 20
  · rw [if_pos a20]
    exact C_setting hb hm hmo I hi hL l5 l6 l7 l8
  rw [if_neg a20]
  by_cases a21 : a = 21
  · rw [if_pos a21]
    exact C_ifNamed hb hm hmo I hi hL l5 l6 l7 l8
  rw [if_neg a21]
  by_cases a22 : a = 22
  · rw [if_pos a22]
    exact C_bestOften hb hm hmo I l5 l6 l7 l8
  rw [if_neg a22]
  by_cases a23 : a = 23
  · rw [if_pos a23]
    exact C_saved hb hm hmo I l5 l6 l7 l8
  rw [if_neg a23]
  by_cases a24 : a = 24
  · rw [if_pos a24]
    exact C_digest hb hm hmo I l5 l6 l7 l8
  rw [if_neg a24]
  exact ⟨h, P, l5, l6, l7, l8, rfl, I, by omega, by omega⟩
theorem nI_3' (i : Nat) : nI i + 3 = nI (i + 3) := nI_add i 3
theorem lp_law (hb : b < x) (hm : x + 139 ≤ m) (hmo : m + 10 ≤ o) (hL : L ≤ 1536) : ∀ (n i : Nat) (h : xH) (P : pP) (l5 l6 l7 l8 : Option Value), L ≤ 3 * n + i → i ≤ L → LI b x m o L xs h P →
    ∃ h', xf 178 23 [some (.ref b), some (.ref x), some (.ref m), some (.ref o), some (.int (nI i)), l5, l6, l7, l8] [] h = some (.inl (some (.int 1)), h') ∧ h'.2.2.1 ≤ h.2.2.1 + n ∧ h'.2.2.2 ≤ h.2.2.2 + 6 * n := by
  intro n
  induction n with
  | zero =>
    intro i h P l5 l6 l7 l8 hn hi I
    have s0 := xa3_is I.2.2.2.2
    have k0 := xk3_is I.2.2.2.2
    have eL : Int32.ofNat L - 3 < nI i := by
      show nI L - nI 3 < nI i
      by_cases h3 : 3 ≤ L
      · rw [nI_sub h3]
        exact nI_lt (by omega) (by omega)
      · have : L = 0 ∨ L = 1 ∨ L = 2 := by omega
        have hi : i = L := by omega
        subst hi
        rcases this with z | z | z <;> subst z <;> decide
    refine ⟨h, ?_, by omega, by omega⟩
    rw [u_L_law_23]
    simp only [u_L_law_25, u_L_law_26, u_L_law_27, u_L_law_28, u_L_law_29, u_L_law_1243, u_L_law_1244, s0, k0, eL, eq_self, or_true, if_true, xgo_some, xgo_none, xgoI_none, xcat_n, xcat_i, xcat_r, xcat_z, List.length_nil, List.length_cons, List.getD_cons_zero, List.getD_cons_succ, List.set_cons_zero, List.set_cons_succ, Nat.zero_le, Nat.reduceAdd, Nat.reduceLeDiff, Nat.reduceEqDiff, reduceIte]
  | succ n ih =>
    intro i h P l5 l6 l7 l8 hn hi I
    have s0 := xa3_is I.2.2.2.2
    have k0 := xk3_is I.2.2.2.2
    by_cases h2 : i + 2 < L
    · have eL : ¬ Int32.ofNat L - 3 < nI i := by
        show ¬ nI L - nI 3 < nI i
        rw [nI_sub (by omega)]
        exact nI_nlt (by omega) (by omega)
      have hx : xix (nI i) L := xix_nI (by omega) (by omega)
      have ci := nI_clamp (show i < 2 ^ 31 by omega)
      obtain ⟨h1, P1, l5', l6', l7', l8', c1, c2, c3, c4⟩ := C_all hb hm hmo I h2 hL l5 l6 l7 l8 (xs i &&& 31)
      obtain ⟨h', d1, d2, d3⟩ := ih (i + 3) h1 P1 l5' l6' l7' l8' (by omega) (by omega) c2
      refine ⟨h', ?_, by omega, by omega⟩
      rw [u_L_law_23]
      simp only [u_L_law_25, u_L_law_26, u_L_law_27, u_L_law_28, u_L_law_29, u_L_law_32, u_L_law_33, u_L_law_35, u_L_law_36, u_L_law_38, s0, k0, eL, hx, ci, if_false, xgo_some, xgo_none, xgoI_none, xcat_n, xcat_i, xcat_r, xcat_z, List.length_nil, List.length_cons, List.getD_cons_zero, List.getD_cons_succ, List.set_cons_zero, List.set_cons_succ, Nat.zero_le, Nat.reduceAdd, Nat.reduceLeDiff, Nat.reduceEqDiff, reduceIte]
      rw [c1, u_L_law_1237]
      simp only [u_L_law_1240, nI_3', xgo_some, xgo_none, xgoI_none, xcat_n, xcat_i, xcat_r, xcat_z, List.length_nil, List.length_cons, List.getD_cons_zero, List.getD_cons_succ, List.set_cons_zero, List.set_cons_succ, Nat.zero_le, Nat.reduceAdd, Nat.reduceLeDiff, Nat.reduceEqDiff, reduceIte]
      exact d1
    · have eL : Int32.ofNat L - 3 < nI i := by
        show nI L - nI 3 < nI i
        by_cases h3 : 3 ≤ L
        · rw [nI_sub h3]
          exact nI_lt (by omega) (by omega)
        · have e : nI L - nI 3 < 0 := by
            have : L = 0 ∨ L = 1 ∨ L = 2 := by omega
            rcases this with z | z | z <;> subst z <;> decide
          exact Int32.lt_of_lt_of_le e (nI_pos' (by omega))
      refine ⟨h, ?_, by omega, by omega⟩
      rw [u_L_law_23]
      simp only [u_L_law_25, u_L_law_26, u_L_law_27, u_L_law_28, u_L_law_29, u_L_law_1243, u_L_law_1244, s0, k0, eL, eq_self, or_true, if_true, xgo_some, xgo_none, xgoI_none, xcat_n, xcat_i, xcat_r, xcat_z, List.length_nil, List.length_cons, List.getD_cons_zero, List.getD_cons_succ, List.set_cons_zero, List.set_cons_succ, Nat.zero_le, Nat.reduceAdd, Nat.reduceLeDiff, Nat.reduceEqDiff, reduceIte]
theorem ok_P0 : okP P0 := by
  refine ⟨⟨Nat.zero_le _, ⟨fun _ => 0, fun _ => 1, ?_, ?_, ?_⟩, fun y hy => absurd hy (by intro z; cases z), ?_, 2, Nat.le_refl _, by decide, rfl⟩, fun Y hY => by cases hY⟩
  · intro k k8 k24 _
    exact ⟨if_pos k24, rfl, if_neg (by omega)⟩
  · intro k k8
    exact ⟨if_pos (by omega), if_pos (by omega), rfl, if_pos k8, rfl, rfl⟩
  · intro k k8 k24 hk
    exact absurd (if_pos k24) hk
  · intro k k8 k24 hk
    exact absurd (if_pos k24) hk
theorem xlaw_ok : xLawRuns := by
  intro b N0 L xs hL hb
  have n0 : N0 ≠ 0 := by omega
  have hN : (xh0 b N0 L xs).2.1 = N0 := rfl
  obtain ⟨h1, a1, a2, a3⟩ := k_PN hN n0
  have hN1 : h1.2.1 = N0 + 139 := by rw [a3.1, hN]
  obtain ⟨h2, b1, b2, b3⟩ := k_Mo hN1 (by omega)
  have hN2 : h2.2.1 = N0 + 149 := by rw [b3.1, hN1]
  obtain ⟨h3, e3⟩ : ∃ h3, h3 = xnew h2 (.inl (1, 1, .inr (.inl (fun _ => 0)))) 1 := ⟨_, rfl⟩
  have g3 : xMk (N0 + 149) 1 1 h2 h3 := by rw [e3]; exact xMk_new _ (by omega)
  have o3 : h3.1 (N0 + 149) = some (.inl (1, 1, .inr (.inl (fun _ => 0)))) := by rw [e3, ← hN2]; exact new_at _ _ _
  have q3 : isP h3 N0 P0 := isP_G (isP_G a2 b3 (Nat.le_refl _)) g3 (by omega)
  have p3 : isMP h3 (N0 + 139) 0 P0 := isMP_fr b2 (fun a a1 a2 => g3.2.2.2 a (by omega))
  have s3 : h3.1 b = some (.inl (3, L, .inl xs)) := by
    rw [g3.2.2.2 b (by omega), b3.2.2.2 b (by omega), a3.2.2.2 b (by omega)]
    exact if_pos rfl
  obtain ⟨h', c1, c2, c3⟩ := lp_law (x := N0) (m := N0 + 139) (o := N0 + 149) hb (Nat.le_refl _) (Nat.le_refl _) hL 512 0 h3 P0 none none none none (by omega) (Nat.zero_le _) ⟨q3, ⟨0, p3⟩, ok_P0, ⟨_, o3⟩, s3⟩
  have t1 : h3.2.2.1 = 150 := by
    rw [g3.2.1, b3.2.1, a3.2.1]
    rfl
  have t2 : h3.2.2.2 = 3662 := by
    rw [g3.2.2.1, b3.2.2.1, a3.2.2.1]
    rfl
  refine ⟨h', ?_, by omega, by omega⟩
  have m0 : (xh0 b N0 L xs).2.1 ≠ 0 := n0
  have m1 : h1.2.1 ≠ 0 := by omega
  have m2 : h2.2.1 ≠ 0 := by omega
  show xf 178 0 [some (.ref b), none, none, none, none, none, none, none, none] [] _ = _
  rw [u_L_law_0 _ _ _ m0]
  simp only [u_L_law_3, u_L_law_4, u_L_law_7, hN, a1, xgo_some, xgo_none, xgoI_none, xcat_n, xcat_i, xcat_r, xcat_z, List.length_nil, List.length_cons, List.getD_cons_zero, List.getD_cons_succ, List.set_cons_zero, List.set_cons_succ, Nat.zero_le, Nat.reduceAdd, Nat.reduceLeDiff, Nat.reduceEqDiff, reduceIte]
  rw [u_L_law_8 _ _ _ m1]
  simp only [u_L_law_11, u_L_law_12, u_L_law_15, u_L_law_16, hN1, b1, xgo_some, xgo_none, xgoI_none, xcat_n, xcat_i, xcat_r, xcat_z, List.length_nil, List.length_cons, List.getD_cons_zero, List.getD_cons_succ, List.set_cons_zero, List.set_cons_succ, Nat.zero_le, Nat.reduceAdd, Nat.reduceLeDiff, Nat.reduceEqDiff, reduceIte]
  rw [u_L_law_17 (m := 1) (hi := ⟨by decide, by decide, by decide⟩) (hn := m2), ← e3, hN2]
  simp only [u_L_law_19, u_L_law_20, u_L_law_21, xgo_some, xgo_none, xgoI_none, xcat_n, xcat_i, xcat_r, xcat_z, List.length_nil, List.length_cons, List.getD_cons_zero, List.getD_cons_succ, List.set_cons_zero, List.set_cons_succ, Nat.zero_le, Nat.reduceAdd, Nat.reduceLeDiff, Nat.reduceEqDiff, reduceIte]
  exact c1
end LD
