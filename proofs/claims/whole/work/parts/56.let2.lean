/-! The model: the inner loop of letting go. -/
section LH
variable {m : Nat} {Z : Nat → Int32} {D : Int64}
theorem cntI_app (p : Int32) : ∀ (s t : List Int32), cntI (s ++ t) p = cntI s p + cntI t p := by
  intro s
  induction s with
  | nil => intro t; rw [List.nil_append, cntI, Nat.zero_add]
  | cons x s ih => intro t; rw [List.cons_append, cntI, cntI, ih, Nat.add_assoc]
theorem lp_let {N : xNs} {T : Int32 × Int32 × Int32 × Int32} {v n : Nat} (h8 : 8 ≤ v) (h24 : v < 24) (hn : N.1 v ≠ -1) : ∀ (k : Nat) (h : xH) (A : Nat → Nat → Int32) (L : List Int32), k ≤ L.length → L.length + cntI (L.take k) (nI v) ≤ 64 → isMo h m Z D A → rS (A 1) (L, N, T) →
    ∃ h' f, xf 130 37 [some (.ref m), some (.int (nI n)), some (.int (nI v)), some (.int (nI k - 1))] [] h = xf 130 64 [some (.ref m), some (.int (nI n)), some (.int (nI v)), some (.int (-1))] [] h' ∧ isMo h' m Z D (va_up A 1 f) ∧ rS f (lB N v k L, N, T) ∧ xFr m (m + 10) h h' := by
  intro k
  induction k with
  | zero =>
    intro h A L hk hc q r
    have e : nI 0 - 1 = -1 := by decide
    have h2 : (-1 : Int32) < 0 := by decide
    refine ⟨h, A 1, ?_, by rw [va_up_eta]; exact q, r, xFr.rf⟩
    rw [e, u_X8_letGo_37]
    simp only [u_X8_letGo_38, h2, if_true, xgo_some, xgo_none, xgoI_none, xcat_n, xcat_i, xcat_r, xcat_z, List.length_nil, List.length_cons, List.getD_cons_zero, List.getD_cons_succ, List.set_cons_zero, List.set_cons_succ, Nat.zero_le, Nat.reduceAdd, Nat.reduceLeDiff, Nat.reduceEqDiff, reduceIte]
  | succ k ih =>
    intro h A L hk hc q r
    have hl := r.2.1
    simp only at hl
    have e : nI (k + 1) - 1 = nI k := nI_pred k
    have ed : nI k + -1 = nI k - 1 := (Int32.sub_eq_add_neg _ _).symm
    have h2 : ¬ nI k < 0 := nI_pos (by omega)
    have hx : xix (nI (1 + k)) 117 := xix_nI (by omega) (by decide)
    have es := r.2.2.1 k (by simp only; omega)
    simp only at es
    rw [take_sn k L (by omega), cntI_app, cntI] at hc
    rw [e, lB]
    by_cases h1 : gd L k = nI v
    · rw [if_pos h1] at hc
      rw [if_pos h1]
      obtain ⟨h1', f, a1, a2, a3, a4⟩ := m_openAt q r (show k < L.length by omega) (by omega) h1 h8 h24 hn
      have ho := opL_len (N := N) (show k < L.length by omega)
      have ht : (opL L N k).take k = L.take k := by
        have hlt : (L.take k).length = k := by rw [List.length_take]; omega
        unfold opL
        rw [List.take_append_of_le_length (by omega), List.take_of_length_le (by omega)]
      obtain ⟨h2', f2, b1, b2, b3, b4⟩ := ih h1' _ (opL L N k) (by omega) (by rw [ht, ho]; simp only [cntI] at hc; omega) a2 (by rw [va_up_self]; exact a3)
      rw [va_up_up] at b2
      refine ⟨h2', f2, ?_, b2, b3, a4.tr b4⟩
      rw [u_X8_letGo_37]
      simp only [u_X8_letGo_0, u_X8_letGo_1, u_X8_letGo_2, u_X8_letGo_5, u_X8_letGo_6, u_X8_letGo_9, u_X8_letGo_10, u_X8_letGo_11, u_X8_letGo_13, u_X8_letGo_15, u_X8_letGo_17, u_X8_letGo_20, u_X8_letGo_21, u_X8_letGo_22, u_X8_letGo_25, u_X8_letGo_28, u_X8_letGo_29, u_X8_letGo_32, u_X8_letGo_33, u_X8_letGo_34, u_X8_letGo_35, u_X8_letGo_36, u_X8_letGo_38, u_X8_letGo_41, u_X8_letGo_42, u_X8_letGo_45, u_X8_letGo_46, u_X8_letGo_47, u_X8_letGo_48, u_X8_letGo_49, u_X8_letGo_50, u_X8_letGo_53, u_X8_letGo_54, u_X8_letGo_55, u_X8_letGo_58, u_X8_letGo_61, u_X8_letGo_65, u_X8_letGo_68, u_X8_letGo_70, u_X8_letGo_71, u_X8_letGo_72, u_X8_letGo_74, u_X8_letGo_75, u_X8_letGo_76, u_X8_letGo_77, u_X8_letGo_80, u_X8_letGo_82, u_X8_letGo_83, u_X8_letGo_86, u_X8_letGo_89, u_X8_letGo_92, u_X8_letGo_93, u_X8_letGo_96, u_X8_letGo_98, u_X8_letGo_99, u_X8_letGo_100, u_X8_letGo_101, u_X8_letGo_102, u_X8_letGo_103, u_X8_letGo_104, h2, q.ob, q.a1, nI_s1, hx, nI_clamp (show 1 + k < 2 ^ 31 by omega), es, h1, a1, ed, if_true, if_false, xgo_some, xgo_none, xgoI_none, xcat_n, xcat_i, xcat_r, xcat_z, List.length_nil, List.length_cons, List.getD_cons_zero, List.getD_cons_succ, List.set_cons_zero, List.set_cons_succ, Nat.zero_le, Nat.reduceAdd, Nat.reduceLeDiff, Nat.reduceEqDiff, reduceIte]
      exact b1
    · rw [if_neg h1] at hc
      rw [if_neg h1]
      obtain ⟨h2', f2, b1, b2, b3, b4⟩ := ih h A L (by omega) (by simp only [cntI] at hc; omega) q r
      refine ⟨h2', f2, ?_, b2, b3, b4⟩
      rw [u_X8_letGo_37]
      simp only [u_X8_letGo_0, u_X8_letGo_1, u_X8_letGo_2, u_X8_letGo_5, u_X8_letGo_6, u_X8_letGo_9, u_X8_letGo_10, u_X8_letGo_11, u_X8_letGo_13, u_X8_letGo_15, u_X8_letGo_17, u_X8_letGo_20, u_X8_letGo_21, u_X8_letGo_22, u_X8_letGo_25, u_X8_letGo_28, u_X8_letGo_29, u_X8_letGo_32, u_X8_letGo_33, u_X8_letGo_34, u_X8_letGo_35, u_X8_letGo_36, u_X8_letGo_38, u_X8_letGo_41, u_X8_letGo_42, u_X8_letGo_45, u_X8_letGo_46, u_X8_letGo_47, u_X8_letGo_48, u_X8_letGo_49, u_X8_letGo_50, u_X8_letGo_53, u_X8_letGo_54, u_X8_letGo_55, u_X8_letGo_58, u_X8_letGo_61, u_X8_letGo_65, u_X8_letGo_68, u_X8_letGo_70, u_X8_letGo_71, u_X8_letGo_72, u_X8_letGo_74, u_X8_letGo_75, u_X8_letGo_76, u_X8_letGo_77, u_X8_letGo_80, u_X8_letGo_82, u_X8_letGo_83, u_X8_letGo_86, u_X8_letGo_89, u_X8_letGo_92, u_X8_letGo_93, u_X8_letGo_96, u_X8_letGo_98, u_X8_letGo_99, u_X8_letGo_100, u_X8_letGo_101, u_X8_letGo_102, u_X8_letGo_103, u_X8_letGo_104, h2, q.ob, q.a1, nI_s1, hx, nI_clamp (show 1 + k < 2 ^ 31 by omega), es, h1, ed, if_false, xgo_some, xgo_none, xgoI_none, xcat_n, xcat_i, xcat_r, xcat_z, List.length_nil, List.length_cons, List.getD_cons_zero, List.getD_cons_succ, List.set_cons_zero, List.set_cons_succ, Nat.zero_le, Nat.reduceAdd, Nat.reduceLeDiff, Nat.reduceEqDiff, reduceIte]
      exact b1
end LH
