/-! The model: what hangs on pairs is laid out. -/
section LY
variable {m : Nat} {Z : Nat → Int32} {D : Int64}
theorem nI_8 (p s : Nat) : (8 : Int32) * nI p + nI s = nI (8 * p + s) := by
  rw [← nI_add]
  exact congrArg (· + nI s) (Int32.ofNat_mul 8 p).symm
theorem lp_lay1 {p : Nat} (hp : p < 24) : ∀ (k s : Nat) (h : xH) (A : Nat → Nat → Int32), s + k = 8 → isMo h m Z D A →
    ∃ h' f, xf 107 48 [some (.ref m), some (.int (nI p)), some (.int (nI s))] [] h = xf 107 81 [some (.ref m), some (.int (nI p)), some (.int (nI 8))] [] h' ∧ isMo h' m Z D (va_up A 9 f) ∧ (∀ t, s ≤ t → t < 8 → f (8 * p + t) = if p = t then 1 else 0) ∧ (∀ j, (j < 8 * p + s ∨ 8 * p + 8 ≤ j) → f j = A 9 j) ∧ xFr m (m + 10) h h' := by
  intro k
  induction k with
  | zero =>
    intro s h A hk q
    have h2 : ¬ nI s < 8 := nI_nlt (b := 8) (by omega) (by omega)
    have hs : s = 8 := by omega
    subst hs
    refine ⟨h, A 9, ?_, by rw [va_up_eta]; exact q, fun t h1 h2 => by omega, fun j _ => rfl, xFr.rf⟩
    rw [u_X8_layOut_48]
    simp only [u_X8_layOut_49, u_X8_layOut_51, h2, if_false, xgo_some, xgo_none, xgoI_none, xcat_n, xcat_i, xcat_r, xcat_z, List.length_nil, List.length_cons, List.getD_cons_zero, List.getD_cons_succ, List.set_cons_zero, List.set_cons_succ, Nat.zero_le, Nat.reduceAdd, Nat.reduceLeDiff, Nat.reduceEqDiff, reduceIte]
  | succ k ih =>
    intro s h A hk q
    have h2 : nI s < 8 := nI_lt (b := 8) (by omega) (by omega)
    have hx : xix (nI (8 * p + s)) 192 := xix_nI (by omega) (by decide)
    by_cases e : p = s
    · subst e
      have q1 := mo_w q (k := 9) (by decide) (by decide) (8 * p + p) 1
      obtain ⟨h', f, a1, a2, a3, a4, a5⟩ := ih (p + 1) _ _ (by omega) q1
      rw [va_up_up] at a2
      rw [va_up_self] at a4
      refine ⟨h', f, ?_, a2, fun t h3 h4 => ?_, fun j hj => ?_, (xFr_si h m 9 _ _ (by decide)).tr a5⟩
      · rw [u_X8_layOut_48]
        simp only [u_X8_layOut_0, u_X8_layOut_1, u_X8_layOut_3, u_X8_layOut_5, u_X8_layOut_8, u_X8_layOut_9, u_X8_layOut_12, u_X8_layOut_13, u_X8_layOut_14, u_X8_layOut_16, u_X8_layOut_19, u_X8_layOut_20, u_X8_layOut_23, u_X8_layOut_24, u_X8_layOut_25, u_X8_layOut_26, u_X8_layOut_29, u_X8_layOut_30, u_X8_layOut_31, u_X8_layOut_32, u_X8_layOut_33, u_X8_layOut_36, u_X8_layOut_37, u_X8_layOut_38, u_X8_layOut_39, u_X8_layOut_40, u_X8_layOut_43, u_X8_layOut_44, u_X8_layOut_45, u_X8_layOut_46, u_X8_layOut_47, u_X8_layOut_49, u_X8_layOut_51, u_X8_layOut_54, u_X8_layOut_55, u_X8_layOut_58, u_X8_layOut_60, u_X8_layOut_61, u_X8_layOut_62, u_X8_layOut_63, u_X8_layOut_64, u_X8_layOut_65, u_X8_layOut_66, u_X8_layOut_69, u_X8_layOut_70, u_X8_layOut_73, u_X8_layOut_74, u_X8_layOut_75, u_X8_layOut_78, u_X8_layOut_84, u_X8_layOut_87, u_X8_layOut_88, u_X8_layOut_89, u_X8_layOut_90, u_X8_layOut_92, u_X8_layOut_95, u_X8_layOut_97, u_X8_layOut_98, u_X8_layOut_99, u_X8_layOut_101, u_X8_layOut_104, u_X8_layOut_105, u_X8_layOut_106, u_X8_layOut_109, u_X8_layOut_112, u_X8_layOut_113, u_X8_layOut_116, u_X8_layOut_117, u_X8_layOut_118, u_X8_layOut_119, u_X8_layOut_122, u_X8_layOut_123, u_X8_layOut_126, u_X8_layOut_127, u_X8_layOut_128, u_X8_layOut_131, u_X8_layOut_132, u_X8_layOut_133, u_X8_layOut_136, u_X8_layOut_137, u_X8_layOut_140, u_X8_layOut_141, u_X8_layOut_142, u_X8_layOut_145, u_X8_layOut_146, u_X8_layOut_147, u_X8_layOut_150, u_X8_layOut_151, u_X8_layOut_152, u_X8_layOut_153, u_X8_layOut_154, u_X8_layOut_157, u_X8_layOut_158, u_X8_layOut_159, u_X8_layOut_162, u_X8_layOut_165, u_X8_layOut_168, u_X8_layOut_171, u_X8_layOut_174, u_X8_layOut_177, h2, q.ob, q.a9, nI_8, hx, nI_clamp (show 8 * p + p < 2 ^ 31 by omega), eq_self, nI_of1, if_true, xgo_some, xgo_none, xgoI_none, xcat_n, xcat_i, xcat_r, xcat_z, List.length_nil, List.length_cons, List.getD_cons_zero, List.getD_cons_succ, List.set_cons_zero, List.set_cons_succ, Nat.zero_le, Nat.reduceAdd, Nat.reduceLeDiff, Nat.reduceEqDiff, reduceIte]
        exact a1
      · by_cases e : t = p
        · subst e
          rw [a4 _ (Or.inl (by omega)), va_up_self, if_pos rfl]
        · exact a3 t (by omega) h4
      · rw [a4 j (by omega), va_up_ne _ _ (by omega)]
    · have hn : ¬ nI p = nI s := fun z => e ((nI_eq (by omega) (by omega)).mp z)
      have q1 := mo_w q (k := 9) (by decide) (by decide) (8 * p + s) 0
      obtain ⟨h', f, a1, a2, a3, a4, a5⟩ := ih (s + 1) _ _ (by omega) q1
      rw [va_up_up] at a2
      rw [va_up_self] at a4
      refine ⟨h', f, ?_, a2, fun t h3 h4 => ?_, fun j hj => ?_, (xFr_si h m 9 _ _ (by decide)).tr a5⟩
      · rw [u_X8_layOut_48]
        simp only [u_X8_layOut_0, u_X8_layOut_1, u_X8_layOut_3, u_X8_layOut_5, u_X8_layOut_8, u_X8_layOut_9, u_X8_layOut_12, u_X8_layOut_13, u_X8_layOut_14, u_X8_layOut_16, u_X8_layOut_19, u_X8_layOut_20, u_X8_layOut_23, u_X8_layOut_24, u_X8_layOut_25, u_X8_layOut_26, u_X8_layOut_29, u_X8_layOut_30, u_X8_layOut_31, u_X8_layOut_32, u_X8_layOut_33, u_X8_layOut_36, u_X8_layOut_37, u_X8_layOut_38, u_X8_layOut_39, u_X8_layOut_40, u_X8_layOut_43, u_X8_layOut_44, u_X8_layOut_45, u_X8_layOut_46, u_X8_layOut_47, u_X8_layOut_49, u_X8_layOut_51, u_X8_layOut_54, u_X8_layOut_55, u_X8_layOut_58, u_X8_layOut_60, u_X8_layOut_61, u_X8_layOut_62, u_X8_layOut_63, u_X8_layOut_64, u_X8_layOut_65, u_X8_layOut_66, u_X8_layOut_69, u_X8_layOut_70, u_X8_layOut_73, u_X8_layOut_74, u_X8_layOut_75, u_X8_layOut_78, u_X8_layOut_84, u_X8_layOut_87, u_X8_layOut_88, u_X8_layOut_89, u_X8_layOut_90, u_X8_layOut_92, u_X8_layOut_95, u_X8_layOut_97, u_X8_layOut_98, u_X8_layOut_99, u_X8_layOut_101, u_X8_layOut_104, u_X8_layOut_105, u_X8_layOut_106, u_X8_layOut_109, u_X8_layOut_112, u_X8_layOut_113, u_X8_layOut_116, u_X8_layOut_117, u_X8_layOut_118, u_X8_layOut_119, u_X8_layOut_122, u_X8_layOut_123, u_X8_layOut_126, u_X8_layOut_127, u_X8_layOut_128, u_X8_layOut_131, u_X8_layOut_132, u_X8_layOut_133, u_X8_layOut_136, u_X8_layOut_137, u_X8_layOut_140, u_X8_layOut_141, u_X8_layOut_142, u_X8_layOut_145, u_X8_layOut_146, u_X8_layOut_147, u_X8_layOut_150, u_X8_layOut_151, u_X8_layOut_152, u_X8_layOut_153, u_X8_layOut_154, u_X8_layOut_157, u_X8_layOut_158, u_X8_layOut_159, u_X8_layOut_162, u_X8_layOut_165, u_X8_layOut_168, u_X8_layOut_171, u_X8_layOut_174, u_X8_layOut_177, h2, q.ob, q.a9, nI_8, hx, nI_clamp (show 8 * p + s < 2 ^ 31 by omega), hn, nI_of1, if_true, if_false, xgo_some, xgo_none, xgoI_none, xcat_n, xcat_i, xcat_r, xcat_z, List.length_nil, List.length_cons, List.getD_cons_zero, List.getD_cons_succ, List.set_cons_zero, List.set_cons_succ, Nat.zero_le, Nat.reduceAdd, Nat.reduceLeDiff, Nat.reduceEqDiff, reduceIte]
        exact a1
      · by_cases e2 : t = s
        · subst e2
          rw [a4 _ (Or.inl (by omega)), va_up_self, if_neg e]
        · exact a3 t (by omega) h4
      · rw [a4 j (by omega), va_up_ne _ _ (by omega)]
/-- the first five arrays stay -/
def lyE (A A' : Nat → Nat → Int32) : Prop := ∀ k, k < 5 → A' k = A k
theorem lyE.rf (A : Nat → Nat → Int32) : lyE A A := fun _ _ => rfl
theorem lyE.tr {A B C : Nat → Nat → Int32} (a : lyE A B) (b : lyE B C) : lyE A C := fun k hk => (b k hk).trans (a k hk)
theorem lyE.up {A : Nat → Nat → Int32} {k : Nat} (hk : 5 ≤ k) (f : Nat → Int32) : lyE A (va_up A k f) := fun j hj => va_up_ne _ _ (by omega)
/-- the parts from p on are bare, the others as they were -/
def lyB (A A' : Nat → Nat → Int32) (p : Nat) : Prop := (∀ j, p ≤ j → j < 24 → A' 5 j = (if j < 8 then 0 else -1) ∧ A' 6 j = 1 ∧ A' 7 j = nI j ∧ A' 8 j = nI j ∧ ∀ t, t < 8 → A' 9 (8 * j + t) = if j = t then 1 else 0) ∧ ∀ j, j < p → A' 5 j = A 5 j ∧ A' 6 j = A 6 j ∧ A' 7 j = A 7 j ∧ A' 8 j = A 8 j ∧ ∀ t, t < 8 → A' 9 (8 * j + t) = A 9 (8 * j + t)
theorem lyB_st {A A' : Nat → Nat → Int32} {f : Nat → Int32} {p : Nat} {v : Int32} (hv : v = if p < 8 then 0 else -1) (f1 : ∀ t, 0 ≤ t → t < 8 → f (8 * p + t) = if p = t then 1 else 0) (f2 : ∀ j, (j < 8 * p + 0 ∨ 8 * p + 8 ≤ j) → f j = A 9 j)
    (b : lyB (va_up (va_up (va_up (va_up (va_up A 5 (va_up (A 5) p v)) 6 (va_up (A 6) p 1)) 7 (va_up (A 7) p (nI p))) 8 (va_up (A 8) p (nI p))) 9 f) A' (p + 1)) : lyB A A' p := by
  obtain ⟨b1, b2⟩ := b
  simp only [va_up_ne _ _ (show 5 ≠ 9 by decide), va_up_ne _ _ (show 5 ≠ 8 by decide), va_up_ne _ _ (show 5 ≠ 7 by decide), va_up_ne _ _ (show 5 ≠ 6 by decide), va_up_ne _ _ (show 6 ≠ 9 by decide), va_up_ne _ _ (show 6 ≠ 8 by decide), va_up_ne _ _ (show 6 ≠ 7 by decide), va_up_ne _ _ (show 7 ≠ 9 by decide), va_up_ne _ _ (show 7 ≠ 8 by decide), va_up_ne _ _ (show 8 ≠ 9 by decide), va_up_self] at b2
  refine ⟨fun j h1 h2 => ?_, fun j h1 => ?_⟩
  · by_cases e : j = p
    · subst e
      obtain ⟨c1, c2, c3, c4, c5⟩ := b2 j (by omega)
      rw [va_up_self] at c1 c2 c3 c4
      exact ⟨by rw [c1, hv], c2, c3, c4, fun t ht => by rw [c5 t ht, f1 t (Nat.zero_le _) ht]⟩
    · exact b1 j (by omega) h2
  · obtain ⟨c1, c2, c3, c4, c5⟩ := b2 j (by omega)
    rw [va_up_ne _ _ (by omega)] at c1 c2 c3 c4
    exact ⟨c1, c2, c3, c4, fun t ht => by rw [c5 t ht, f2 _ (Or.inl (by omega))]⟩
theorem lp_lay2 : ∀ (k p : Nat) (h : xH) (A : Nat → Nat → Int32) (l2 : Option Value), p + k = 24 → isMo h m Z D A →
    ∃ h' A' l2', xf 107 2 [some (.ref m), some (.int (nI p)), l2] [] h = xf 107 87 [some (.ref m), some (.int (nI 24)), l2'] [] h' ∧ isMo h' m Z D A' ∧ lyE A A' ∧ lyB A A' p ∧ xFr m (m + 10) h h' := by
  intro k
  induction k with
  | zero =>
    intro p h A l2 hk q
    have h2 : ¬ nI p < 24 := nI_nlt (b := 24) (by omega) (by omega)
    have hs : p = 24 := by omega
    subst hs
    refine ⟨h, A, l2, ?_, q, lyE.rf A, ⟨fun j h1 h2 => by omega, fun j _ => ⟨rfl, rfl, rfl, rfl, fun _ _ => rfl⟩⟩, xFr.rf⟩
    rw [u_X8_layOut_2]
    simp only [u_X8_layOut_3, u_X8_layOut_5, h2, if_false, xgo_some, xgo_none, xgoI_none, xcat_n, xcat_i, xcat_r, xcat_z, List.length_nil, List.length_cons, List.getD_cons_zero, List.getD_cons_succ, List.set_cons_zero, List.set_cons_succ, Nat.zero_le, Nat.reduceAdd, Nat.reduceLeDiff, Nat.reduceEqDiff, reduceIte]
  | succ k ih =>
    intro p h A l2 hk q
    have h2 : nI p < 24 := nI_lt (b := 24) (by omega) (by omega)
    have hx : xix (nI p) 24 := xix_nI (by omega) (by decide)
    have key : ∀ v : Int32, v = (if p < 8 then 0 else -1) → ∃ h4, isMo (xsi h (m + 5) p v) m Z D (va_up A 5 (va_up (A 5) p v)) ∧ isMo (xsi (xsi h (m + 5) p v) (m + 6) p 1) m Z D (va_up (va_up A 5 (va_up (A 5) p v)) 6 (va_up (A 6) p 1)) ∧ isMo (xsi (xsi (xsi h (m + 5) p v) (m + 6) p 1) (m + 7) p (nI p)) m Z D (va_up (va_up (va_up A 5 (va_up (A 5) p v)) 6 (va_up (A 6) p 1)) 7 (va_up (A 7) p (nI p))) ∧ h4 = xsi (xsi (xsi (xsi h (m + 5) p v) (m + 6) p 1) (m + 7) p (nI p)) (m + 8) p (nI p) ∧ ∃ h' A' l2', xf 107 48 [some (.ref m), some (.int (nI p)), some (.int (nI 0))] [] h4 = xf 107 87 [some (.ref m), some (.int (nI 24)), l2'] [] h' ∧ isMo h' m Z D A' ∧ lyE A A' ∧ lyB A A' p ∧ xFr m (m + 10) h h' := by
      intro v hv
      have q5 := mo_w q (k := 5) (by decide) (by decide) p v
      have q6 := mo_w q5 (k := 6) (by decide) (by decide) p 1
      rw [va_up_ne _ _ (show 6 ≠ 5 by decide)] at q6
      have q7 := mo_w q6 (k := 7) (by decide) (by decide) p (nI p)
      rw [va_up_ne _ _ (show 7 ≠ 6 by decide), va_up_ne _ _ (show 7 ≠ 5 by decide)] at q7
      have q8 := mo_w q7 (k := 8) (by decide) (by decide) p (nI p)
      rw [va_up_ne _ _ (show 8 ≠ 7 by decide), va_up_ne _ _ (show 8 ≠ 6 by decide), va_up_ne _ _ (show 8 ≠ 5 by decide)] at q8
      obtain ⟨h1, f, a1, a2, a3, a4, a5⟩ := lp_lay1 (show p < 24 by omega) 8 0 _ _ rfl q8
      simp only [va_up_ne _ _ (show 9 ≠ 8 by decide), va_up_ne _ _ (show 9 ≠ 7 by decide), va_up_ne _ _ (show 9 ≠ 6 by decide), va_up_ne _ _ (show 9 ≠ 5 by decide)] at a4
      obtain ⟨h', A', l2', b1, b2, b3, b4, b5⟩ := ih (p + 1) h1 _ (some (.int (nI 8))) (by omega) a2
      refine ⟨_, q5, q6, q7, rfl, h', A', l2', ?_, b2, ?_, lyB_st hv a3 a4 b4, (((((xFr_si h m 5 _ _ (by decide)).tr (xFr_si _ m 6 _ _ (by decide))).tr (xFr_si _ m 7 _ _ (by decide))).tr (xFr_si _ m 8 _ _ (by decide))).tr a5).tr b5⟩
      · rw [a1]
        simp only [u_X8_layOut_81, u_X8_layOut_84, nI_of1, xgo_some, xgo_none, xgoI_none, xcat_n, xcat_i, xcat_r, xcat_z, List.length_nil, List.length_cons, List.getD_cons_zero, List.getD_cons_succ, List.set_cons_zero, List.set_cons_succ, Nat.zero_le, Nat.reduceAdd, Nat.reduceLeDiff, Nat.reduceEqDiff, reduceIte]
        exact b1
      · exact lyE.tr (lyE.up (by decide) _) (lyE.tr (lyE.up (by decide) _) (lyE.tr (lyE.up (by decide) _) (lyE.tr (lyE.up (by decide) _) (lyE.tr (lyE.up (by decide) _) b3))))
    by_cases h8 : p < 8
    · have c8 : nI p < 8 := nI_lt (b := 8) h8 (by decide)
      obtain ⟨h4, q5, q6, q7, e4, h', A', l2', b1, b2⟩ := key 0 (by rw [if_pos h8])
      refine ⟨h', A', l2', ?_, b2⟩
      subst e4
      rw [u_X8_layOut_2]
      simp only [u_X8_layOut_0, u_X8_layOut_1, u_X8_layOut_3, u_X8_layOut_5, u_X8_layOut_8, u_X8_layOut_9, u_X8_layOut_12, u_X8_layOut_13, u_X8_layOut_14, u_X8_layOut_16, u_X8_layOut_19, u_X8_layOut_20, u_X8_layOut_23, u_X8_layOut_24, u_X8_layOut_25, u_X8_layOut_26, u_X8_layOut_29, u_X8_layOut_30, u_X8_layOut_31, u_X8_layOut_32, u_X8_layOut_33, u_X8_layOut_36, u_X8_layOut_37, u_X8_layOut_38, u_X8_layOut_39, u_X8_layOut_40, u_X8_layOut_43, u_X8_layOut_44, u_X8_layOut_45, u_X8_layOut_46, u_X8_layOut_47, u_X8_layOut_49, u_X8_layOut_51, u_X8_layOut_54, u_X8_layOut_55, u_X8_layOut_58, u_X8_layOut_60, u_X8_layOut_61, u_X8_layOut_62, u_X8_layOut_63, u_X8_layOut_64, u_X8_layOut_65, u_X8_layOut_66, u_X8_layOut_69, u_X8_layOut_70, u_X8_layOut_73, u_X8_layOut_74, u_X8_layOut_75, u_X8_layOut_78, u_X8_layOut_81, u_X8_layOut_84, u_X8_layOut_88, u_X8_layOut_89, u_X8_layOut_90, u_X8_layOut_92, u_X8_layOut_95, u_X8_layOut_97, u_X8_layOut_98, u_X8_layOut_99, u_X8_layOut_101, u_X8_layOut_104, u_X8_layOut_105, u_X8_layOut_106, u_X8_layOut_109, u_X8_layOut_112, u_X8_layOut_113, u_X8_layOut_116, u_X8_layOut_117, u_X8_layOut_118, u_X8_layOut_119, u_X8_layOut_122, u_X8_layOut_123, u_X8_layOut_126, u_X8_layOut_127, u_X8_layOut_128, u_X8_layOut_131, u_X8_layOut_132, u_X8_layOut_133, u_X8_layOut_136, u_X8_layOut_137, u_X8_layOut_140, u_X8_layOut_141, u_X8_layOut_142, u_X8_layOut_145, u_X8_layOut_146, u_X8_layOut_147, u_X8_layOut_150, u_X8_layOut_151, u_X8_layOut_152, u_X8_layOut_153, u_X8_layOut_154, u_X8_layOut_157, u_X8_layOut_158, u_X8_layOut_159, u_X8_layOut_162, u_X8_layOut_165, u_X8_layOut_168, u_X8_layOut_171, u_X8_layOut_174, u_X8_layOut_177, h2, c8, q.ob, q.a5, q5.ob, q5.ai (k := 6) (by decide) (by decide), q6.ob, q6.ai (k := 7) (by decide) (by decide), q7.ob, q7.ai (k := 8) (by decide) (by decide), szM, hx, nI_clamp (show p < 2 ^ 31 by omega), if_true, xgo_some, xgo_none, xgoI_none, xcat_n, xcat_i, xcat_r, xcat_z, List.length_nil, List.length_cons, List.getD_cons_zero, List.getD_cons_succ, List.set_cons_zero, List.set_cons_succ, Nat.zero_le, Nat.reduceAdd, Nat.reduceLeDiff, Nat.reduceEqDiff, reduceIte]
      exact b1
    · have c8 : ¬ nI p < 8 := nI_nlt (b := 8) (by omega) (by omega)
      obtain ⟨h4, q5, q6, q7, e4, h', A', l2', b1, b2⟩ := key (-1) (by rw [if_neg h8])
      refine ⟨h', A', l2', ?_, b2⟩
      subst e4
      rw [u_X8_layOut_2]
      simp only [u_X8_layOut_0, u_X8_layOut_1, u_X8_layOut_3, u_X8_layOut_5, u_X8_layOut_8, u_X8_layOut_9, u_X8_layOut_12, u_X8_layOut_13, u_X8_layOut_14, u_X8_layOut_16, u_X8_layOut_19, u_X8_layOut_20, u_X8_layOut_23, u_X8_layOut_24, u_X8_layOut_25, u_X8_layOut_26, u_X8_layOut_29, u_X8_layOut_30, u_X8_layOut_31, u_X8_layOut_32, u_X8_layOut_33, u_X8_layOut_36, u_X8_layOut_37, u_X8_layOut_38, u_X8_layOut_39, u_X8_layOut_40, u_X8_layOut_43, u_X8_layOut_44, u_X8_layOut_45, u_X8_layOut_46, u_X8_layOut_47, u_X8_layOut_49, u_X8_layOut_51, u_X8_layOut_54, u_X8_layOut_55, u_X8_layOut_58, u_X8_layOut_60, u_X8_layOut_61, u_X8_layOut_62, u_X8_layOut_63, u_X8_layOut_64, u_X8_layOut_65, u_X8_layOut_66, u_X8_layOut_69, u_X8_layOut_70, u_X8_layOut_73, u_X8_layOut_74, u_X8_layOut_75, u_X8_layOut_78, u_X8_layOut_81, u_X8_layOut_84, u_X8_layOut_88, u_X8_layOut_89, u_X8_layOut_90, u_X8_layOut_92, u_X8_layOut_95, u_X8_layOut_97, u_X8_layOut_98, u_X8_layOut_99, u_X8_layOut_101, u_X8_layOut_104, u_X8_layOut_105, u_X8_layOut_106, u_X8_layOut_109, u_X8_layOut_112, u_X8_layOut_113, u_X8_layOut_116, u_X8_layOut_117, u_X8_layOut_118, u_X8_layOut_119, u_X8_layOut_122, u_X8_layOut_123, u_X8_layOut_126, u_X8_layOut_127, u_X8_layOut_128, u_X8_layOut_131, u_X8_layOut_132, u_X8_layOut_133, u_X8_layOut_136, u_X8_layOut_137, u_X8_layOut_140, u_X8_layOut_141, u_X8_layOut_142, u_X8_layOut_145, u_X8_layOut_146, u_X8_layOut_147, u_X8_layOut_150, u_X8_layOut_151, u_X8_layOut_152, u_X8_layOut_153, u_X8_layOut_154, u_X8_layOut_157, u_X8_layOut_158, u_X8_layOut_159, u_X8_layOut_162, u_X8_layOut_165, u_X8_layOut_168, u_X8_layOut_171, u_X8_layOut_174, u_X8_layOut_177, h2, c8, q.ob, q.a5, q5.ob, q5.ai (k := 6) (by decide) (by decide), q6.ob, q6.ai (k := 7) (by decide) (by decide), q7.ob, q7.ai (k := 8) (by decide) (by decide), szM, hx, nI_clamp (show p < 2 ^ 31 by omega), if_true, if_false, xgo_some, xgo_none, xgoI_none, xcat_n, xcat_i, xcat_r, xcat_z, List.length_nil, List.length_cons, List.getD_cons_zero, List.getD_cons_succ, List.set_cons_zero, List.set_cons_succ, Nat.zero_le, Nat.reduceAdd, Nat.reduceLeDiff, Nat.reduceEqDiff, reduceIte]
      exact b1
theorem lp_lay3 {i a b : Nat} (hi : i < 24) (ha : a < 24) (hb : b < 24) (na : a ≠ i) (nb : b ≠ i) : ∀ (k t : Nat) (h : xH) (A : Nat → Nat → Int32), t + k = 8 → isMo h m Z D A →
    ∃ h' f, xf 108 84 [some (.ref m), some (.int (nI i)), some (.int (nI a)), some (.int (nI b)), some (.int (nI t))] [] h = some (.inl none, h') ∧ isMo h' m Z D (va_up A 9 f) ∧ (∀ s, t ≤ s → s < 8 → f (8 * i + s) = A 9 (8 * a + s) + A 9 (8 * b + s)) ∧ (∀ j, (j < 8 * i + t ∨ 8 * i + 8 ≤ j) → f j = A 9 j) ∧ xFr m (m + 10) h h' := by
  intro k
  induction k with
  | zero =>
    intro t h A hk q
    have h2 : ¬ nI t < 8 := nI_nlt (b := 8) (by omega) (by omega)
    refine ⟨h, A 9, ?_, by rw [va_up_eta]; exact q, fun s h1 h2 => by omega, fun j _ => rfl, xFr.rf⟩
    rw [u_X8_layOne_84]
    simp only [u_X8_layOne_86, u_X8_layOne_88, u_X8_layOne_134, h2, if_false, xgo_some, xgo_none, xgoI_none, xcat_n, xcat_i, xcat_r, xcat_z, List.length_nil, List.length_cons, List.getD_cons_zero, List.getD_cons_succ, List.set_cons_zero, List.set_cons_succ, Nat.zero_le, Nat.reduceAdd, Nat.reduceLeDiff, Nat.reduceEqDiff, reduceIte]
  | succ k ih =>
    intro t h A hk q
    have h2 : nI t < 8 := nI_lt (b := 8) (by omega) (by omega)
    have hx : xix (nI (8 * i + t)) 192 := xix_nI (by omega) (by decide)
    have hxa : xix (nI (8 * a + t)) 192 := xix_nI (by omega) (by decide)
    have hxb : xix (nI (8 * b + t)) 192 := xix_nI (by omega) (by decide)
    have q1 := mo_w q (k := 9) (by decide) (by decide) (8 * i + t) (A 9 (8 * a + t) + A 9 (8 * b + t))
    obtain ⟨h', f, a1, a2, a3, a4, a5⟩ := ih (t + 1) _ _ (by omega) q1
    rw [va_up_up] at a2
    rw [va_up_self] at a3 a4
    refine ⟨h', f, ?_, a2, fun s h3 h4 => ?_, fun j hj => ?_, (xFr_si h m 9 _ _ (by decide)).tr a5⟩
    · rw [u_X8_layOne_84]
      simp only [u_X8_layOne_0, u_X8_layOne_1, u_X8_layOne_4, u_X8_layOne_5, u_X8_layOne_6, u_X8_layOne_7, u_X8_layOne_10, u_X8_layOne_11, u_X8_layOne_12, u_X8_layOne_13, u_X8_layOne_16, u_X8_layOne_17, u_X8_layOne_18, u_X8_layOne_21, u_X8_layOne_22, u_X8_layOne_25, u_X8_layOne_26, u_X8_layOne_27, u_X8_layOne_30, u_X8_layOne_31, u_X8_layOne_34, u_X8_layOne_35, u_X8_layOne_36, u_X8_layOne_37, u_X8_layOne_38, u_X8_layOne_39, u_X8_layOne_42, u_X8_layOne_43, u_X8_layOne_44, u_X8_layOne_47, u_X8_layOne_48, u_X8_layOne_49, u_X8_layOne_50, u_X8_layOne_53, u_X8_layOne_54, u_X8_layOne_55, u_X8_layOne_56, u_X8_layOne_57, u_X8_layOne_58, u_X8_layOne_61, u_X8_layOne_62, u_X8_layOne_63, u_X8_layOne_66, u_X8_layOne_67, u_X8_layOne_68, u_X8_layOne_69, u_X8_layOne_70, u_X8_layOne_73, u_X8_layOne_74, u_X8_layOne_75, u_X8_layOne_78, u_X8_layOne_79, u_X8_layOne_80, u_X8_layOne_81, u_X8_layOne_82, u_X8_layOne_86, u_X8_layOne_88, u_X8_layOne_91, u_X8_layOne_92, u_X8_layOne_95, u_X8_layOne_97, u_X8_layOne_98, u_X8_layOne_99, u_X8_layOne_101, u_X8_layOne_102, u_X8_layOne_103, u_X8_layOne_106, u_X8_layOne_108, u_X8_layOne_109, u_X8_layOne_110, u_X8_layOne_112, u_X8_layOne_113, u_X8_layOne_114, u_X8_layOne_115, u_X8_layOne_118, u_X8_layOne_120, u_X8_layOne_121, u_X8_layOne_122, u_X8_layOne_124, u_X8_layOne_125, u_X8_layOne_126, u_X8_layOne_127, u_X8_layOne_128, u_X8_layOne_131, u_X8_layOne_134, h2, q.ob, q.a9, nI_8, hx, hxa, hxb, nI_clamp (show 8 * i + t < 2 ^ 31 by omega), nI_clamp (show 8 * a + t < 2 ^ 31 by omega), nI_clamp (show 8 * b + t < 2 ^ 31 by omega), nI_of1, if_true, xgo_some, xgo_none, xgoI_none, xcat_n, xcat_i, xcat_r, xcat_z, List.length_nil, List.length_cons, List.getD_cons_zero, List.getD_cons_succ, List.set_cons_zero, List.set_cons_succ, Nat.zero_le, Nat.reduceAdd, Nat.reduceLeDiff, Nat.reduceEqDiff, reduceIte]
      exact a1
    · by_cases e2 : s = t
      · subst e2
        rw [a4 _ (Or.inl (by omega)), va_up_self]
      · rw [a3 s (by omega) h4, va_up_ne _ _ (by omega), va_up_ne _ _ (by omega)]
    · rw [a4 j (by omega), va_up_ne _ _ (by omega)]
theorem m_layOne {h : xH} {A : Nat → Nat → Int32} {i a b : Nat} (hi : i < 24) (ha : a < 24) (hb : b < 24) (na : a ≠ i) (nb : b ≠ i) (q : isMo h m Z D A) :
    ∃ h' A', xev 108 [.ref m, .int (nI i), .int (nI a), .int (nI b)] h = some (.inl none, h') ∧ isMo h' m Z D A' ∧ lyE A A' ∧ A' 5 = va_up (A 5) i (1 + if A 5 b < A 5 a then A 5 a else A 5 b) ∧ A' 6 = va_up (A 6) i (A 6 a + A 6 b) ∧ A' 7 = va_up (A 7) i (A 7 a) ∧ A' 8 = va_up (A 8) i (A 8 b) ∧ (∀ s, s < 8 → A' 9 (8 * i + s) = A 9 (8 * a + s) + A 9 (8 * b + s)) ∧ (∀ j, (j < 8 * i ∨ 8 * i + 8 ≤ j) → A' 9 j = A 9 j) ∧ xFr m (m + 10) h h' := by
  have hx : xix (nI i) 24 := xix_nI hi (by decide)
  have hxa : xix (nI a) 24 := xix_nI ha (by decide)
  have hxb : xix (nI b) 24 := xix_nI hb (by decide)
  have ci := nI_clamp (show i < 2 ^ 31 by omega)
  have ca := nI_clamp (show a < 2 ^ 31 by omega)
  have cb := nI_clamp (show b < 2 ^ 31 by omega)
  have key : ∀ v : Int32, v = (1 + if A 5 b < A 5 a then A 5 a else A 5 b) → ∃ h4, isMo (xsi h (m + 5) i v) m Z D (va_up A 5 (va_up (A 5) i v)) ∧ isMo (xsi (xsi h (m + 5) i v) (m + 6) i (A 6 a + A 6 b)) m Z D (va_up (va_up A 5 (va_up (A 5) i v)) 6 (va_up (A 6) i (A 6 a + A 6 b))) ∧ isMo (xsi (xsi (xsi h (m + 5) i v) (m + 6) i (A 6 a + A 6 b)) (m + 7) i (A 7 a)) m Z D (va_up (va_up (va_up A 5 (va_up (A 5) i v)) 6 (va_up (A 6) i (A 6 a + A 6 b))) 7 (va_up (A 7) i (A 7 a))) ∧ h4 = xsi (xsi (xsi (xsi h (m + 5) i v) (m + 6) i (A 6 a + A 6 b)) (m + 7) i (A 7 a)) (m + 8) i (A 8 b) ∧ ∃ h' A', xf 108 84 [some (.ref m), some (.int (nI i)), some (.int (nI a)), some (.int (nI b)), some (.int (nI 0))] [] h4 = some (.inl none, h') ∧ isMo h' m Z D A' ∧ lyE A A' ∧ A' 5 = va_up (A 5) i (1 + if A 5 b < A 5 a then A 5 a else A 5 b) ∧ A' 6 = va_up (A 6) i (A 6 a + A 6 b) ∧ A' 7 = va_up (A 7) i (A 7 a) ∧ A' 8 = va_up (A 8) i (A 8 b) ∧ (∀ s, s < 8 → A' 9 (8 * i + s) = A 9 (8 * a + s) + A 9 (8 * b + s)) ∧ (∀ j, (j < 8 * i ∨ 8 * i + 8 ≤ j) → A' 9 j = A 9 j) ∧ xFr m (m + 10) h h' := by
    intro v hv
    have q5 := mo_w q (k := 5) (by decide) (by decide) i v
    have q6 := mo_w q5 (k := 6) (by decide) (by decide) i (A 6 a + A 6 b)
    rw [va_up_ne _ _ (show 6 ≠ 5 by decide)] at q6
    have q7 := mo_w q6 (k := 7) (by decide) (by decide) i (A 7 a)
    rw [va_up_ne _ _ (show 7 ≠ 6 by decide), va_up_ne _ _ (show 7 ≠ 5 by decide)] at q7
    have q8 := mo_w q7 (k := 8) (by decide) (by decide) i (A 8 b)
    rw [va_up_ne _ _ (show 8 ≠ 7 by decide), va_up_ne _ _ (show 8 ≠ 6 by decide), va_up_ne _ _ (show 8 ≠ 5 by decide)] at q8
    obtain ⟨h', f, a1, a2, a3, a4, a5⟩ := lp_lay3 hi ha hb na nb 8 0 _ _ rfl q8
    simp only [va_up_ne _ _ (show 9 ≠ 8 by decide), va_up_ne _ _ (show 9 ≠ 7 by decide), va_up_ne _ _ (show 9 ≠ 6 by decide), va_up_ne _ _ (show 9 ≠ 5 by decide)] at a3 a4
    refine ⟨_, q5, q6, q7, rfl, h', _, a1, a2, ?_, ?_, ?_, ?_, ?_, fun s hs => ?_, fun j hj => ?_, ((((xFr_si h m 5 _ _ (by decide)).tr (xFr_si _ m 6 _ _ (by decide))).tr (xFr_si _ m 7 _ _ (by decide))).tr (xFr_si _ m 8 _ _ (by decide))).tr a5⟩
    · exact lyE.tr (lyE.up (by decide) _) (lyE.tr (lyE.up (by decide) _) (lyE.tr (lyE.up (by decide) _) (lyE.tr (lyE.up (by decide) _) (lyE.up (by decide) _))))
    · rw [va_up_ne _ _ (by decide), va_up_ne _ _ (by decide), va_up_ne _ _ (by decide), va_up_ne _ _ (by decide), va_up_self, hv]
    · rw [va_up_ne _ _ (by decide), va_up_ne _ _ (by decide), va_up_ne _ _ (by decide), va_up_self]
    · rw [va_up_ne _ _ (by decide), va_up_ne _ _ (by decide), va_up_self]
    · rw [va_up_ne _ _ (by decide), va_up_self]
    · rw [va_up_self]; exact a3 s (Nat.zero_le _) hs
    · rw [va_up_self]; exact a4 j (by omega)
  rw [e_X8_layOne]
  by_cases hc : A 5 b < A 5 a
  · obtain ⟨h4, q5, q6, q7, e4, h', A', b1, b2⟩ := key (1 + A 5 a) (by rw [if_pos hc])
    refine ⟨h', A', ?_, b2⟩
    subst e4
    simp only [u_X8_layOne_0, u_X8_layOne_1, u_X8_layOne_4, u_X8_layOne_5, u_X8_layOne_6, u_X8_layOne_7, u_X8_layOne_10, u_X8_layOne_11, u_X8_layOne_12, u_X8_layOne_13, u_X8_layOne_16, u_X8_layOne_17, u_X8_layOne_18, u_X8_layOne_21, u_X8_layOne_22, u_X8_layOne_25, u_X8_layOne_26, u_X8_layOne_27, u_X8_layOne_30, u_X8_layOne_31, u_X8_layOne_34, u_X8_layOne_35, u_X8_layOne_36, u_X8_layOne_37, u_X8_layOne_38, u_X8_layOne_39, u_X8_layOne_42, u_X8_layOne_43, u_X8_layOne_44, u_X8_layOne_47, u_X8_layOne_48, u_X8_layOne_49, u_X8_layOne_50, u_X8_layOne_53, u_X8_layOne_54, u_X8_layOne_55, u_X8_layOne_56, u_X8_layOne_57, u_X8_layOne_58, u_X8_layOne_61, u_X8_layOne_62, u_X8_layOne_63, u_X8_layOne_66, u_X8_layOne_67, u_X8_layOne_68, u_X8_layOne_69, u_X8_layOne_70, u_X8_layOne_73, u_X8_layOne_74, u_X8_layOne_75, u_X8_layOne_78, u_X8_layOne_79, u_X8_layOne_80, u_X8_layOne_81, u_X8_layOne_82, u_X8_layOne_86, u_X8_layOne_88, u_X8_layOne_91, u_X8_layOne_92, u_X8_layOne_95, u_X8_layOne_97, u_X8_layOne_98, u_X8_layOne_99, u_X8_layOne_101, u_X8_layOne_102, u_X8_layOne_103, u_X8_layOne_106, u_X8_layOne_108, u_X8_layOne_109, u_X8_layOne_110, u_X8_layOne_112, u_X8_layOne_113, u_X8_layOne_114, u_X8_layOne_115, u_X8_layOne_118, u_X8_layOne_120, u_X8_layOne_121, u_X8_layOne_122, u_X8_layOne_124, u_X8_layOne_125, u_X8_layOne_126, u_X8_layOne_127, u_X8_layOne_128, u_X8_layOne_131, u_X8_layOne_134, hc, q.ob, q.a5, q5.ob, q5.ai (k := 6) (by decide) (by decide), q6.ob, q6.ai (k := 7) (by decide) (by decide), q7.ob, q7.ai (k := 8) (by decide) (by decide), szM, hx, hxa, hxb, ci, ca, cb, va_up_ne _ _ (show 6 ≠ 5 by decide), va_up_ne _ _ (show 7 ≠ 6 by decide), va_up_ne _ _ (show 7 ≠ 5 by decide), va_up_ne _ _ (show 8 ≠ 7 by decide), va_up_ne _ _ (show 8 ≠ 6 by decide), va_up_ne _ _ (show 8 ≠ 5 by decide), if_true, xgo_some, xgo_none, xgoI_none, xcat_n, xcat_i, xcat_r, xcat_z, List.length_nil, List.length_cons, List.getD_cons_zero, List.getD_cons_succ, List.set_cons_zero, List.set_cons_succ, Nat.zero_le, Nat.reduceAdd, Nat.reduceLeDiff, Nat.reduceEqDiff, reduceIte]
    exact b1
  · obtain ⟨h4, q5, q6, q7, e4, h', A', b1, b2⟩ := key (1 + A 5 b) (by rw [if_neg hc])
    refine ⟨h', A', ?_, b2⟩
    subst e4
    simp only [u_X8_layOne_0, u_X8_layOne_1, u_X8_layOne_4, u_X8_layOne_5, u_X8_layOne_6, u_X8_layOne_7, u_X8_layOne_10, u_X8_layOne_11, u_X8_layOne_12, u_X8_layOne_13, u_X8_layOne_16, u_X8_layOne_17, u_X8_layOne_18, u_X8_layOne_21, u_X8_layOne_22, u_X8_layOne_25, u_X8_layOne_26, u_X8_layOne_27, u_X8_layOne_30, u_X8_layOne_31, u_X8_layOne_34, u_X8_layOne_35, u_X8_layOne_36, u_X8_layOne_37, u_X8_layOne_38, u_X8_layOne_39, u_X8_layOne_42, u_X8_layOne_43, u_X8_layOne_44, u_X8_layOne_47, u_X8_layOne_48, u_X8_layOne_49, u_X8_layOne_50, u_X8_layOne_53, u_X8_layOne_54, u_X8_layOne_55, u_X8_layOne_56, u_X8_layOne_57, u_X8_layOne_58, u_X8_layOne_61, u_X8_layOne_62, u_X8_layOne_63, u_X8_layOne_66, u_X8_layOne_67, u_X8_layOne_68, u_X8_layOne_69, u_X8_layOne_70, u_X8_layOne_73, u_X8_layOne_74, u_X8_layOne_75, u_X8_layOne_78, u_X8_layOne_79, u_X8_layOne_80, u_X8_layOne_81, u_X8_layOne_82, u_X8_layOne_86, u_X8_layOne_88, u_X8_layOne_91, u_X8_layOne_92, u_X8_layOne_95, u_X8_layOne_97, u_X8_layOne_98, u_X8_layOne_99, u_X8_layOne_101, u_X8_layOne_102, u_X8_layOne_103, u_X8_layOne_106, u_X8_layOne_108, u_X8_layOne_109, u_X8_layOne_110, u_X8_layOne_112, u_X8_layOne_113, u_X8_layOne_114, u_X8_layOne_115, u_X8_layOne_118, u_X8_layOne_120, u_X8_layOne_121, u_X8_layOne_122, u_X8_layOne_124, u_X8_layOne_125, u_X8_layOne_126, u_X8_layOne_127, u_X8_layOne_128, u_X8_layOne_131, u_X8_layOne_134, hc, q.ob, q.a5, q5.ob, q5.ai (k := 6) (by decide) (by decide), q6.ob, q6.ai (k := 7) (by decide) (by decide), q7.ob, q7.ai (k := 8) (by decide) (by decide), szM, hx, hxa, hxb, ci, ca, cb, va_up_ne _ _ (show 6 ≠ 5 by decide), va_up_ne _ _ (show 7 ≠ 6 by decide), va_up_ne _ _ (show 7 ≠ 5 by decide), va_up_ne _ _ (show 8 ≠ 7 by decide), va_up_ne _ _ (show 8 ≠ 6 by decide), va_up_ne _ _ (show 8 ≠ 5 by decide), if_true, if_false, xgo_some, xgo_none, xgoI_none, xcat_n, xcat_i, xcat_r, xcat_z, List.length_nil, List.length_cons, List.getD_cons_zero, List.getD_cons_succ, List.set_cons_zero, List.set_cons_succ, Nat.zero_le, Nat.reduceAdd, Nat.reduceLeDiff, Nat.reduceEqDiff, reduceIte]
    exact b1
end LY
