/-! The law: a number of the script, a number below another, what is reached, what is a name. -/
section LA
variable {h : xH} {x : Nat} {P : pP}
theorem xa3_is {b L : Nat} {xs : Nat → Int32} (e : h.1 b = some (.inl (3, L, .inl xs))) : xa3 h b = (L, xs) := by
  unfold xa3
  rw [e]
  rfl
theorem xk3_is {b L : Nat} {xs : Nat → Int32} (e : h.1 b = some (.inl (3, L, .inl xs))) : xk3 h b = true := by
  unfold xk3
  rw [e]
  rfl
theorem xcat_l (v : Int64) : xcat (some (.long v)) = none := rfl
theorem n01 : ¬ (0 : Int32) = 1 := by decide
theorem l_cell {b L : Nat} {xs : Nat → Int32} (e : h.1 b = some (.inl (3, L, .inl xs))) (hL : L < 2 ^ 31) {k : Nat} (hk : k < 2 ^ 31) : ∃ v, xev 91 [.ref b, .int (nI k)] h = some (.inl (some (.int v)), h) := by
  have s0 := xa3_is e
  have k0 := xk3_is e
  rw [e_L_cell]
  by_cases h1 : k < L
  · have h2 : nI k < Int32.ofNat L := nI_lt h1 hL
    have hx : xix (nI k) L := xix_nI h1 hL
    refine ⟨xs (nI k).toNatClampNeg, ?_⟩
    simp only [u_L_cell_0, u_L_cell_1, u_L_cell_2, u_L_cell_3, u_L_cell_6, u_L_cell_7, u_L_cell_8, u_L_cell_9, u_L_cell_12, u_L_cell_15, u_L_cell_16, u_L_cell_17, u_L_cell_18, u_L_cell_19, u_L_cell_20, u_L_cell_22, u_L_cell_23, u_L_cell_24, s0, k0, h2, hx, if_true, xgo_some, xgo_none, xgoI_none, xcat_n, xcat_i, xcat_r, xcat_z, List.length_nil, List.length_cons, List.getD_cons_zero, List.getD_cons_succ, List.set_cons_zero, List.set_cons_succ, Nat.zero_le, Nat.reduceAdd, Nat.reduceLeDiff, Nat.reduceEqDiff, reduceIte]
  · have h2 : ¬ nI k < Int32.ofNat L := nI_nlt (by omega) hk
    refine ⟨7919 * (nI k + 3) * (nI k + 11), ?_⟩
    simp only [u_L_cell_0, u_L_cell_1, u_L_cell_2, u_L_cell_3, u_L_cell_6, u_L_cell_7, u_L_cell_8, u_L_cell_9, u_L_cell_12, u_L_cell_15, u_L_cell_16, u_L_cell_17, u_L_cell_18, u_L_cell_19, u_L_cell_20, u_L_cell_22, u_L_cell_23, u_L_cell_24, s0, k0, h2, if_false, xgo_some, xgo_none, xgoI_none, xcat_n, xcat_i, xcat_r, xcat_z, List.length_nil, List.length_cons, List.getD_cons_zero, List.getD_cons_succ, List.set_cons_zero, List.set_cons_succ, Nat.zero_le, Nat.reduceAdd, Nat.reduceLeDiff, Nat.reduceEqDiff, reduceIte]
theorem l_low (a : Int32) {c : Int32} {n : Nat} (ec : c = nI n) (h0 : 0 < n) (hn : n < 2 ^ 31) : ∃ m, m < n ∧ xev 92 [.int a, .int c] h = some (.inl (some (.int (nI m))), h) := by
  subst ec
  obtain ⟨j, j1, j2⟩ := pk_andE a (m := 2147483647) 31 (by decide +kernel)
  have hne : ¬ nI n = 0 := nI_ne0 h0 hn
  refine ⟨j % n, Nat.mod_lt _ h0, ?_⟩
  rw [e_L_low]
  simp only [u_L_low_0, u_L_low_1, u_L_low_3, u_L_low_4, u_L_low_5, u_L_low_6, j2, hne, not_false_eq_true, xgo_some, xgo_none, xgoI_none, xcat_n, xcat_i, xcat_r, xcat_z, List.length_nil, List.length_cons, List.getD_cons_zero, List.getD_cons_succ, List.set_cons_zero, List.set_cons_succ, Nat.zero_le, Nat.reduceAdd, Nat.reduceLeDiff, Nat.reduceEqDiff, reduceIte]
  rw [pk_rem (by omega) h0 hn]
theorem b_sel (S D : Int32) (i : Nat) : (bt S i && !bt D i) = true ↔ (bt S i = true ∧ ¬ bt D i = true) := by
  cases bt S i <;> cases bt D i <;> simp
theorem lp_next (f m S D : Int32) : ∀ (k i : Nat), i + k = 24 → xf 94 17 [some (.ref x), some (.int f), some (.int m), some (.int S), some (.int D), some (.int (nI i))] [] h = xf 94 44 [some (.ref x), some (.int f), some (.int m), some (.int S), some (.int D), some (.int (nI (fsB S D i k)))] [] h := by
  intro k
  induction k with
  | zero =>
    intro i hk
    have h2 : ¬ nI i < 24 := nI_nlt (b := 24) (by omega) (by omega)
    rw [u_L_reaches_17]
    simp only [u_L_reaches_19, u_L_reaches_21, h2, if_false, fsB, xgo_some, xgo_none, xgoI_none, xcat_n, xcat_i, xcat_r, xcat_z, List.length_nil, List.length_cons, List.getD_cons_zero, List.getD_cons_succ, List.set_cons_zero, List.set_cons_succ, Nat.zero_le, Nat.reduceAdd, Nat.reduceLeDiff, Nat.reduceEqDiff, reduceIte]
  | succ k ih =>
    intro i hk
    have h2 : nI i < 24 := nI_lt (b := 24) (by omega) (by omega)
    have hb := b_at (S &&& (D ^^^ -1)) (k := i) (by omega)
    rw [b_less S D (by omega)] at hb
    rw [u_L_reaches_17, fsB]
    by_cases h3 : bt S i = true ∧ ¬ bt D i = true
    · rw [if_pos ((b_sel S D i).mpr h3)] at hb
      rw [if_pos h3]
      simp only [u_L_reaches_19, u_L_reaches_21, u_L_reaches_24, u_L_reaches_25, u_L_reaches_27, u_L_reaches_28, u_L_reaches_29, u_L_reaches_30, u_L_reaches_32, u_L_reaches_33, u_L_reaches_34, u_L_reaches_35, h2, hb, i10, if_true, if_false, xgo_some, xgo_none, xgoI_none, xcat_n, xcat_i, xcat_r, xcat_z, List.length_nil, List.length_cons, List.getD_cons_zero, List.getD_cons_succ, List.set_cons_zero, List.set_cons_succ, Nat.zero_le, Nat.reduceAdd, Nat.reduceLeDiff, Nat.reduceEqDiff, reduceIte]
    · rw [if_neg (fun z => h3 ((b_sel S D i).mp z))] at hb
      rw [if_neg h3]
      simp only [u_L_reaches_19, u_L_reaches_21, u_L_reaches_24, u_L_reaches_25, u_L_reaches_27, u_L_reaches_28, u_L_reaches_29, u_L_reaches_30, u_L_reaches_32, u_L_reaches_33, u_L_reaches_34, u_L_reaches_35, u_L_reaches_38, u_L_reaches_41, h2, hb, if_true, nI_of1, xgo_some, xgo_none, xgoI_none, xcat_n, xcat_i, xcat_r, xcat_z, List.length_nil, List.length_cons, List.getD_cons_zero, List.getD_cons_succ, List.set_cons_zero, List.set_cons_succ, Nat.zero_le, Nat.reduceAdd, Nat.reduceLeDiff, Nat.reduceEqDiff, reduceIte]
      exact ih (i + 1) (by omega)
theorem Q_a01 (q : isP h x P) {v a b : Nat} (v8 : 8 ≤ v) (v24 : v < 24) (hv : hsN P.1.2.1 v) (ea : P.1.2.1.1 v = nI a) (eb : P.1.2.1.2.1 v = nI b) :
    xev 77 [.ref x, .int (nI v), .int 0] h = some (.inl (some (.int (nI a))), h) ∧ xev 77 [.ref x, .int (nI v), .int 1] h = some (.inl (some (.int (nI b))), h) := by
  have hp := (hs_hasP v24).mpr hv
  have q0 := Q_about q (p := nI v) (w := 0) hp (by decide) (by decide)
  have q1 := Q_about q (p := nI v) (w := 1) hp (by decide) (by decide)
  have e0 : prX P.1 (nI v) 0 = nI a := by
    unfold prX
    rw [if_pos rfl, clAt_nI v24 (by decide), ea]
  have e1 : prX P.1 (nI v) 1 = nI b := by
    unfold prX
    rw [if_neg (by decide), if_pos rfl, clAt_nI v24 (by decide), eb]
  rw [e0] at q0
  rw [e1] at q1
  exact ⟨q0, q1⟩
theorem lp_rch (q : isP h x P) (k : okS P.1) {f m : Nat} : ∀ (n : Nat) (S D : Int32) (l5 : Option Value), nob D 8 16 < n → rcI P.1.2.1 f S D →
    ∃ S' l5', xf 94 7 [some (.ref x), some (.int (nI f)), some (.int (nI m)), some (.int S), some (.int D), l5] [] h = xf 94 91 [some (.ref x), some (.int (nI f)), some (.int (nI m)), some (.int S'), some (.int S'), l5'] [] h ∧ ∀ j, bt S' j = true ↔ rch P.1.2.1 f j := by
  obtain ⟨_, ⟨d, l, w⟩, _, _, _⟩ := k
  intro n
  induction n with
  | zero => intro S D l5 hn; omega
  | succ n ih =>
    intro S D l5 hn I
    by_cases e : S = D
    · subst e
      refine ⟨S, l5, ?_, rcI_end I (fun _ _ _ z => z)⟩
      rw [u_L_reaches_7]
      simp only [u_L_reaches_8, u_L_reaches_10, eq_self, if_true, xgo_some, xgo_none, xgoI_none, xcat_n, xcat_i, xcat_r, xcat_z, List.length_nil, List.length_cons, List.getD_cons_zero, List.getD_cons_succ, List.set_cons_zero, List.set_cons_succ, Nat.zero_le, Nat.reduceAdd, Nat.reduceLeDiff, Nat.reduceEqDiff, reduceIte]
    · have ln := lp_next (h := h) (x := x) (nI f) (nI m) S D 16 8 (by omega)
      rcases fsB_is S D 16 8 with ⟨a1, a2⟩ | ⟨a1, a2, a3, a4⟩
      · refine ⟨S, some (.int (nI 24)), ?_, rcI_end I (fun j j8 j24 z => a2 j j8 (by omega) z)⟩
        rw [a1] at ln
        rw [u_L_reaches_7]
        simp only [u_L_reaches_8, u_L_reaches_10, u_L_reaches_13, u_L_reaches_15, e, if_false, xgo_some, xgo_none, xgoI_none, xcat_n, xcat_i, xcat_r, xcat_z, List.length_nil, List.length_cons, List.getD_cons_zero, List.getD_cons_succ, List.set_cons_zero, List.set_cons_succ, Nat.zero_le, Nat.reduceAdd, Nat.reduceLeDiff, Nat.reduceEqDiff, reduceIte]
        rw [show (8 : Int32) = nI 8 from rfl, ln, u_L_reaches_44]
        simp only [u_L_reaches_46, u_L_reaches_48, u_L_reaches_51, u_L_reaches_52, u_L_reaches_54, u_L_reaches_88, show nI (8 + 16) = 24 from rfl, eq_self, if_true, xgo_some, xgo_none, xgoI_none, xcat_n, xcat_i, xcat_r, xcat_z, List.length_nil, List.length_cons, List.getD_cons_zero, List.getD_cons_succ, List.set_cons_zero, List.set_cons_succ, Nat.zero_le, Nat.reduceAdd, Nat.reduceLeDiff, Nat.reduceEqDiff, reduceIte]
        rw [u_L_reaches_7]
        simp only [u_L_reaches_8, u_L_reaches_10, eq_self, if_true, xgo_some, xgo_none, xgoI_none, xcat_n, xcat_i, xcat_r, xcat_z, List.length_nil, List.length_cons, List.getD_cons_zero, List.getD_cons_succ, List.set_cons_zero, List.set_cons_succ, Nat.zero_le, Nat.reduceAdd, Nat.reduceLeDiff, Nat.reduceEqDiff, reduceIte]
        all_goals rfl
      · obtain ⟨v, ev⟩ : ∃ v, v = fsB S D 8 16 := ⟨_, rfl⟩
        rw [← ev] at a1 a2 a3 a4 ln
        obtain ⟨v24, hsv, rv⟩ := I.2.1 v a3
        obtain ⟨p1, p2, a, b, a24, b24, ea, eb, ha, hb, ed, el⟩ := wf_pr w v24 hsv a1
        obtain ⟨c0, c1⟩ := Q_a01 q a1 v24 hsv ea eb
        have I2 := rcI_st w I a1 a3 a24 b24 ea eb ha hb
        have hd := (nob_set (D := D) (D' := D ||| ((1 : Int32) <<< (nI v &&& 31))) (v := v) a4 ((b_add (by omega)).mpr (Or.inr rfl)) (fun j hj => ⟨fun z => ((b_add (by omega)).mp z).elim id (fun y => absurd y hj), fun z => (b_add (by omega)).mpr (Or.inl z)⟩) 16 8).1 a1 (by omega)
        obtain ⟨S', l5', g1, g2⟩ := ih _ _ (some (.int (nI v))) (by omega) I2
        refine ⟨S', l5', ?_, g2⟩
        have hne : ¬ nI v = 24 := fun z => by
          have := (nI_eq (a := v) (b := 24) (by omega) (by omega)).mp z
          omega
        rw [u_L_reaches_7]
        simp only [u_L_reaches_8, u_L_reaches_10, u_L_reaches_13, u_L_reaches_15, e, if_false, xgo_some, xgo_none, xgoI_none, xcat_n, xcat_i, xcat_r, xcat_z, List.length_nil, List.length_cons, List.getD_cons_zero, List.getD_cons_succ, List.set_cons_zero, List.set_cons_succ, Nat.zero_le, Nat.reduceAdd, Nat.reduceLeDiff, Nat.reduceEqDiff, reduceIte]
        rw [show (8 : Int32) = nI 8 from rfl, ln, u_L_reaches_44]
        simp only [u_L_reaches_46, u_L_reaches_48, u_L_reaches_57, u_L_reaches_59, u_L_reaches_60, u_L_reaches_62, u_L_reaches_63, u_L_reaches_64, u_L_reaches_66, u_L_reaches_67, u_L_reaches_68, u_L_reaches_69, u_L_reaches_71, u_L_reaches_72, u_L_reaches_75, u_L_reaches_76, u_L_reaches_77, u_L_reaches_78, u_L_reaches_80, u_L_reaches_81, u_L_reaches_84, u_L_reaches_85, u_L_reaches_86, u_L_reaches_87, u_L_reaches_88, hne, q.ob, c0, c1, if_false, xgo_some, xgo_none, xgoI_none, xcat_n, xcat_i, xcat_r, xcat_z, List.length_nil, List.length_cons, List.getD_cons_zero, List.getD_cons_succ, List.set_cons_zero, List.set_cons_succ, Nat.zero_le, Nat.reduceAdd, Nat.reduceLeDiff, Nat.reduceEqDiff, reduceIte]
        exact g1
theorem l_reaches (q : isP h x P) (k : okS P.1) {f m : Nat} (hf : f < 24) (hs : hsN P.1.2.1 f) (hm : m < 24) : ∃ v, xev 94 [.ref x, .int (nI f), .int (nI m)] h = some (.inl (some (.int v)), h) ∧ ((v = 1 ∧ rch P.1.2.1 f m) ∨ (v = 0 ∧ ¬ rch P.1.2.1 f m)) := by
  obtain ⟨S, l5, g1, g2⟩ := lp_rch (m := m) q k 17 _ _ none (Nat.lt_succ_of_le (nob_le 0 16 8)) (rcI_0 (N := P.1.2.1) hf hs)
  have hb := b_at S (k := m) (by omega)
  have h0 : xev 94 [.ref x, .int (nI f), .int (nI m)] h = xf 94 91 [some (.ref x), some (.int (nI f)), some (.int (nI m)), some (.int S), some (.int S), l5] [] h := by
    rw [e_L_reaches, ← g1]
    simp only [u_L_reaches_0, u_L_reaches_1, u_L_reaches_2, u_L_reaches_3, u_L_reaches_4, u_L_reaches_5, xgo_some, xgo_none, xgoI_none, xcat_n, xcat_i, xcat_r, xcat_z, List.length_nil, List.length_cons, List.getD_cons_zero, List.getD_cons_succ, List.set_cons_zero, List.set_cons_succ, Nat.zero_le, Nat.reduceAdd, Nat.reduceLeDiff, Nat.reduceEqDiff, reduceIte]
  by_cases hz : bt S m = true
  · rw [if_pos hz] at hb
    refine ⟨1, ?_, Or.inl ⟨rfl, (g2 m).mp hz⟩⟩
    rw [h0, u_L_reaches_91]
    simp only [u_L_reaches_92, u_L_reaches_93, u_L_reaches_94, u_L_reaches_95, u_L_reaches_96, u_L_reaches_97, u_L_reaches_100, u_L_reaches_101, u_L_reaches_105, hb, eq_self, or_true, if_true, xgo_some, xgo_none, xgoI_none, xcat_n, xcat_i, xcat_r, xcat_z, List.length_nil, List.length_cons, List.getD_cons_zero, List.getD_cons_succ, List.set_cons_zero, List.set_cons_succ, Nat.zero_le, Nat.reduceAdd, Nat.reduceLeDiff, Nat.reduceEqDiff, reduceIte]
  · rw [if_neg hz] at hb
    refine ⟨0, ?_, Or.inr ⟨rfl, fun z => hz ((g2 m).mpr z)⟩⟩
    rw [h0, u_L_reaches_91]
    simp only [u_L_reaches_92, u_L_reaches_93, u_L_reaches_94, u_L_reaches_95, u_L_reaches_96, u_L_reaches_97, u_L_reaches_104, u_L_reaches_105, hb, n01, eq_self, true_or, if_false, xgo_some, xgo_none, xgoI_none, xcat_n, xcat_i, xcat_r, xcat_z, List.length_nil, List.length_cons, List.getD_cons_zero, List.getD_cons_succ, List.set_cons_zero, List.set_cons_succ, Nat.zero_le, Nat.reduceAdd, Nat.reduceLeDiff, Nat.reduceEqDiff, reduceIte]
theorem lp_isName (q : isP h x P) (k : okS P.1) {m : Nat} (m24 : m < 24) : ∀ (j i : Nat) (b : Int32), i + j = P.1.1.length → (b = 0 ∨ b = 1) →
    ∃ c, xf 93 4 [some (.ref x), some (.int (nI m)), some (.int b), some (.int (nI i))] [] h = some (.inl (some (.int c)), h) ∧ ((c = 1 ∧ (b = 1 ∨ ∃ y, y ∈ P.1.1.drop i ∧ rch P.1.2.1 y.toNatClampNeg m)) ∨ (c = 0 ∧ ¬ (b = 1 ∨ ∃ y, y ∈ P.1.1.drop i ∧ rch P.1.2.1 y.toNatClampNeg m))) := by
  have hl := k.1
  have qc := Q_c0 q
  intro j
  induction j with
  | zero =>
    intro i b hj hb
    have h2 : ¬ nI i < nI P.1.1.length := nI_nlt (by omega) (by omega)
    have e : P.1.1.drop i = [] := List.drop_eq_nil_of_le (by omega)
    refine ⟨b, ?_, ?_⟩
    · rw [u_L_isName_4]
      simp only [u_L_isName_5, u_L_isName_6, u_L_isName_7, u_L_isName_10, u_L_isName_42, u_L_isName_43, q.ob, qc, h2, hb, if_false, xgo_some, xgo_none, xgoI_none, xcat_n, xcat_i, xcat_r, xcat_z, List.length_nil, List.length_cons, List.getD_cons_zero, List.getD_cons_succ, List.set_cons_zero, List.set_cons_succ, Nat.zero_le, Nat.reduceAdd, Nat.reduceLeDiff, Nat.reduceEqDiff, reduceIte]
    · rw [e]
      rcases hb with hb | hb
      · refine Or.inr ⟨hb, fun z => ?_⟩
        rcases z with z | ⟨y, hy, _⟩
        · rw [hb] at z; exact n01 z
        · cases hy
      · exact Or.inl ⟨hb, Or.inl hb⟩
  | succ j ih =>
    intro i b hj hb
    have h2 : nI i < nI P.1.1.length := nI_lt (by omega) (by omega)
    have hi : i < P.1.1.length := by omega
    rw [gd_drop hi]
    rcases hb with hb | hb
    · subst hb
      obtain ⟨p, p24, ep, hp⟩ := rPr_at k.2.2.1 hi
      have qp := Q_part q (p := nI i) (nI_pos (by omega))
      rw [clAt_nI hi (by omega), ep] at qp
      obtain ⟨v, v1, v2⟩ := l_reaches (m := m) q k p24 hp m24
      rcases v2 with ⟨rfl, hv⟩ | ⟨rfl, hv⟩
      · obtain ⟨c, c1, c2⟩ := ih (i + 1) 1 (by omega) (Or.inr rfl)
        refine ⟨c, ?_, ?_⟩
        · rw [u_L_isName_4]
          simp only [u_L_isName_0, u_L_isName_1, u_L_isName_2, u_L_isName_3, u_L_isName_5, u_L_isName_6, u_L_isName_7, u_L_isName_10, u_L_isName_13, u_L_isName_14, u_L_isName_17, u_L_isName_18, u_L_isName_19, u_L_isName_20, u_L_isName_23, u_L_isName_24, u_L_isName_27, u_L_isName_30, u_L_isName_31, u_L_isName_35, u_L_isName_36, u_L_isName_39, q.ob, qc, qp, v1, h2, i10, nI_of1, eq_self, if_true, if_false, xgo_some, xgo_none, xgoI_none, xcat_n, xcat_i, xcat_r, xcat_z, List.length_nil, List.length_cons, List.getD_cons_zero, List.getD_cons_succ, List.set_cons_zero, List.set_cons_succ, Nat.zero_le, Nat.reduceAdd, Nat.reduceLeDiff, Nat.reduceEqDiff, reduceIte]
          exact c1
        · have t : ∃ y, y ∈ gd P.1.1 i :: P.1.1.drop (i + 1) ∧ rch P.1.2.1 y.toNatClampNeg m := ⟨_, List.mem_cons_self, by rw [ep, nI_clamp (by omega)]; exact hv⟩
          rcases c2 with ⟨c2, _⟩ | ⟨_, c3⟩
          · exact Or.inl ⟨c2, Or.inr t⟩
          · exact absurd (Or.inl rfl) c3
      · obtain ⟨c, c1, c2⟩ := ih (i + 1) 0 (by omega) (Or.inl rfl)
        refine ⟨c, ?_, ?_⟩
        · rw [u_L_isName_4]
          simp only [u_L_isName_0, u_L_isName_1, u_L_isName_2, u_L_isName_3, u_L_isName_5, u_L_isName_6, u_L_isName_7, u_L_isName_10, u_L_isName_13, u_L_isName_14, u_L_isName_17, u_L_isName_18, u_L_isName_19, u_L_isName_20, u_L_isName_23, u_L_isName_24, u_L_isName_27, u_L_isName_34, u_L_isName_35, u_L_isName_36, u_L_isName_39, q.ob, qc, qp, v1, h2, nI_of1, eq_self, if_true, xgo_some, xgo_none, xgoI_none, xcat_n, xcat_i, xcat_r, xcat_z, List.length_nil, List.length_cons, List.getD_cons_zero, List.getD_cons_succ, List.set_cons_zero, List.set_cons_succ, Nat.zero_le, Nat.reduceAdd, Nat.reduceLeDiff, Nat.reduceEqDiff, reduceIte]
          exact c1
        · rcases c2 with ⟨c2, c3⟩ | ⟨c2, c3⟩
          · refine Or.inl ⟨c2, Or.inr ?_⟩
            rcases c3 with c3 | ⟨y, y1, y2⟩
            · exact absurd c3 n01
            · exact ⟨y, List.mem_cons_of_mem _ y1, y2⟩
          · refine Or.inr ⟨c2, fun z => c3 (Or.inr ?_)⟩
            rcases z with z | ⟨y, y1, y2⟩
            · exact absurd z n01
            · rcases List.mem_cons.mp y1 with y1 | y1
              · rw [y1, ep, nI_clamp (by omega)] at y2
                exact absurd y2 hv
              · exact ⟨y, y1, y2⟩
    · subst hb
      obtain ⟨c, c1, c2⟩ := ih (i + 1) 1 (by omega) (Or.inr rfl)
      refine ⟨c, ?_, ?_⟩
      · rw [u_L_isName_4]
        simp only [u_L_isName_5, u_L_isName_6, u_L_isName_7, u_L_isName_10, u_L_isName_13, u_L_isName_14, u_L_isName_30, u_L_isName_31, u_L_isName_35, u_L_isName_36, u_L_isName_39, q.ob, qc, h2, i10, nI_of1, if_true, if_false, xgo_some, xgo_none, xgoI_none, xcat_n, xcat_i, xcat_r, xcat_z, List.length_nil, List.length_cons, List.getD_cons_zero, List.getD_cons_succ, List.set_cons_zero, List.set_cons_succ, Nat.zero_le, Nat.reduceAdd, Nat.reduceLeDiff, Nat.reduceEqDiff, reduceIte]
        exact c1
      · rcases c2 with ⟨c2, _⟩ | ⟨_, c3⟩
        · exact Or.inl ⟨c2, Or.inl rfl⟩
        · exact absurd (Or.inl rfl) c3
/-- what is a name -/
theorem l_isName (q : isP h x P) (k : okS P.1) {m : Nat} (m8 : 8 ≤ m) (m24 : m < 24) : xev 93 [.ref x, .int (nI m)] h = some (.inl (some (.int (if P.1.2.1.1 m = -1 then 0 else 1))), h) := by
  obtain ⟨c, c1, c2⟩ := lp_isName q k m24 P.1.1.length 0 0 (by omega) (Or.inl rfl)
  have r := rch_iff k m8 m24
  rw [List.drop_zero] at c2
  have h0 : xev 93 [.ref x, .int (nI m)] h = some (.inl (some (.int c)), h) := by
    rw [e_L_isName, ← c1]
    simp only [u_L_isName_0, u_L_isName_1, u_L_isName_2, u_L_isName_3, xgo_some, xgo_none, xgoI_none, xcat_n, xcat_i, xcat_r, xcat_z, List.length_nil, List.length_cons, List.getD_cons_zero, List.getD_cons_succ, List.set_cons_zero, List.set_cons_succ, Nat.zero_le, Nat.reduceAdd, Nat.reduceLeDiff, Nat.reduceEqDiff, reduceIte]
    all_goals rfl
  rw [h0]
  rcases c2 with ⟨c2, c3⟩ | ⟨c2, c3⟩
  · have hm := r.mp (c3.elim (fun z => absurd z n01) id)
    rw [if_neg hm, c2]
  · have hm : P.1.2.1.1 m = -1 := Classical.byContradiction (fun z => c3 (Or.inr (r.mpr z)))
    rw [if_pos hm, c2]
end LA
