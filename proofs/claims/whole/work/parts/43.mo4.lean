/-! The model: a place opened. -/
section MR
variable {h : xH} {m : Nat} {Z : Nat → Int32} {D : Int64} {A : Nat → Nat → Int32} {X : xS}
theorem r_first (q : isMo h m Z D A) {k : Nat} (h8 : 8 ≤ k) (h24 : k < 24) : xev 105 [.ref m, .int (nI k)] h = some (.inl (some (.int (A 1 (73 + k)))), h) := by
  have hx : xix (nI (73 + k)) 117 := xix_nI (by omega) (by decide)
  have ei : (81 : Int32) + nI k - 8 = nI (73 + k) := nI_ix 81 k h8 (by omega)
  rw [e_X8_first]
  simp only [u_X8_first_0, u_X8_first_1, u_X8_first_4, u_X8_first_6, u_X8_first_7, u_X8_first_8, u_X8_first_10, u_X8_first_11, u_X8_first_12, q.ob, q.a1, hx, ei, nI_clamp (show 73 + k < 2 ^ 31 by omega), xgo_some, xgo_none, xgoI_none, xcat_n, xcat_i, xcat_r, xcat_z, List.length_nil, List.length_cons, List.getD_cons_zero, List.getD_cons_succ, List.set_cons_zero, List.set_cons_succ, Nat.zero_le, Nat.reduceAdd, Nat.reduceLeDiff, Nat.reduceEqDiff, reduceIte]
theorem r_second (q : isMo h m Z D A) {k : Nat} (h8 : 8 ≤ k) (h24 : k < 24) : xev 106 [.ref m, .int (nI k)] h = some (.inl (some (.int (A 1 (89 + k)))), h) := by
  have hx : xix (nI (89 + k)) 117 := xix_nI (by omega) (by decide)
  have ei : (97 : Int32) + nI k - 8 = nI (89 + k) := nI_ix 97 k h8 (by omega)
  rw [e_X8_second]
  simp only [u_X8_second_0, u_X8_second_1, u_X8_second_4, u_X8_second_6, u_X8_second_7, u_X8_second_8, u_X8_second_10, u_X8_second_11, u_X8_second_12, q.ob, q.a1, hx, ei, nI_clamp (show 89 + k < 2 ^ 31 by omega), xgo_some, xgo_none, xgoI_none, xcat_n, xcat_i, xcat_r, xcat_z, List.length_nil, List.length_cons, List.getD_cons_zero, List.getD_cons_succ, List.set_cons_zero, List.set_cons_succ, Nat.zero_le, Nat.reduceAdd, Nat.reduceLeDiff, Nat.reduceEqDiff, reduceIte]
theorem nI_p1 (k : Nat) : nI (1 + k) - 1 = nI k := by rw [Nat.add_comm]; exact nI_pred k
theorem nI_d1 (k : Nat) : nI (k + 1) + -1 = nI k := by rw [← nI_pred k]; exact (Int32.sub_eq_add_neg _ _).symm
def dnG (p k : Nat) (f : Nat → Int32) : Nat → Int32 := fun j => if p + 3 ≤ j ∧ j ≤ 1 + k then f (j - 1) else f j
theorem dnG_up {p k : Nat} {f : Nat → Int32} (hk : p + 1 ≤ k) : dnG p k (va_up f (1 + (k + 1)) (f (k + 1))) = dnG p (k + 1) f := by
  funext j
  unfold dnG
  by_cases e : j = 1 + (k + 1)
  · subst e
    rw [if_neg (by omega), va_up_self, if_pos ⟨by omega, by omega⟩, show 1 + (k + 1) - 1 = k + 1 by omega]
  · by_cases h1 : p + 3 ≤ j ∧ j ≤ 1 + k
    · rw [if_pos h1, if_pos ⟨h1.1, by omega⟩, va_up_ne _ _ (by omega)]
    · rw [if_neg h1, if_neg (fun z => h1 ⟨z.1, by omega⟩), va_up_ne _ _ e]
theorem lp_opn {p v : Nat} (hp : p < 64) : ∀ (k : Nat) (h : xH) (A : Nat → Nat → Int32), p + 1 ≤ k → k < 64 → isMo h m Z D A →
    ∃ h', xf 121 16 [some (.ref m), some (.int (nI p)), some (.int (nI v)), some (.int (nI k))] [] h = xf 121 47 [some (.ref m), some (.int (nI p)), some (.int (nI v)), some (.int (nI (p + 1)))] [] h' ∧ isMo h' m Z D (va_up A 1 (dnG p k (A 1))) ∧ xFr m (m + 10) h h' := by
  intro k
  induction k with
  | zero => intro h A h1; omega
  | succ k ih =>
    intro h A h1 hk q
    by_cases h3 : k = p
    · subst h3
      have h2 : ¬ nI (k + 1) < nI (k + 1) := nI_nlt (Nat.le_refl _) (by omega)
      refine ⟨h, ?_, ?_, xFr.rf⟩
      · rw [u_X8_openAt_16]
        simp only [u_X8_openAt_17, u_X8_openAt_18, u_X8_openAt_19, u_X8_openAt_20, nI_of1, h2, if_false, xgo_some, xgo_none, xgoI_none, xcat_n, xcat_i, xcat_r, xcat_z, List.length_nil, List.length_cons, List.getD_cons_zero, List.getD_cons_succ, List.set_cons_zero, List.set_cons_succ, Nat.zero_le, Nat.reduceAdd, Nat.reduceLeDiff, Nat.reduceEqDiff, reduceIte]
      · have : dnG k (k + 1) (A 1) = A 1 := by
          funext j
          unfold dnG
          exact if_neg (by omega)
        rw [this, va_up_eta]; exact q
    · have h2 : nI (p + 1) < nI (k + 1) := nI_lt (by omega) (by omega)
      have hx : xix (nI (1 + (k + 1))) 117 := xix_nI (by omega) (by decide)
      have hx2 : xix (nI (k + 1)) 117 := xix_nI (by omega) (by decide)
      have q1 := mo_w q (k := 1) (by decide) (by decide) (1 + (k + 1)) (A 1 (k + 1))
      obtain ⟨h', a1, a2, a3⟩ := ih _ _ (by omega) (by omega) q1
      refine ⟨h', ?_, ?_, (xFr_si h m 1 _ _ (by decide)).tr a3⟩
      · rw [u_X8_openAt_16]
        simp only [u_X8_openAt_0, u_X8_openAt_1, u_X8_openAt_4, u_X8_openAt_5, u_X8_openAt_6, u_X8_openAt_7, u_X8_openAt_8, u_X8_openAt_9, u_X8_openAt_10, u_X8_openAt_13, u_X8_openAt_14, u_X8_openAt_15, u_X8_openAt_17, u_X8_openAt_18, u_X8_openAt_19, u_X8_openAt_20, u_X8_openAt_23, u_X8_openAt_24, u_X8_openAt_27, u_X8_openAt_28, u_X8_openAt_29, u_X8_openAt_30, u_X8_openAt_31, u_X8_openAt_34, u_X8_openAt_35, u_X8_openAt_36, u_X8_openAt_37, u_X8_openAt_38, u_X8_openAt_39, u_X8_openAt_40, u_X8_openAt_41, u_X8_openAt_44, u_X8_openAt_48, u_X8_openAt_51, u_X8_openAt_52, u_X8_openAt_53, u_X8_openAt_54, u_X8_openAt_55, u_X8_openAt_56, u_X8_openAt_59, u_X8_openAt_60, u_X8_openAt_61, u_X8_openAt_64, u_X8_openAt_65, u_X8_openAt_66, u_X8_openAt_67, u_X8_openAt_68, u_X8_openAt_69, u_X8_openAt_70, u_X8_openAt_71, u_X8_openAt_74, u_X8_openAt_75, u_X8_openAt_76, u_X8_openAt_79, u_X8_openAt_80, u_X8_openAt_81, u_X8_openAt_82, u_X8_openAt_83, u_X8_openAt_84, u_X8_openAt_85, nI_of1, h2, q.ob, q.a1, nI_s1, nI_p1, hx, hx2, nI_clamp (show 1 + (k + 1) < 2 ^ 31 by omega), nI_clamp (show k + 1 < 2 ^ 31 by omega), nI_d1, if_true, xgo_some, xgo_none, xgoI_none, xcat_n, xcat_i, xcat_r, xcat_z, List.length_nil, List.length_cons, List.getD_cons_zero, List.getD_cons_succ, List.set_cons_zero, List.set_cons_succ, Nat.zero_le, Nat.reduceAdd, Nat.reduceLeDiff, Nat.reduceEqDiff, reduceIte]
        exact a1
      · rw [va_up_self, dnG_up (by omega), va_up_up] at a2
        exact a2
theorem gd_op (L : List Int32) (p : Nat) (a c : Int32) (hp : p < L.length) (i : Nat) (hi : i < L.length + 1) : gd (L.take p ++ a :: c :: L.drop (p + 1)) i = if i < p then gd L i else if i = p then a else if i = p + 1 then c else gd L (i - 1) := by
  have hl : (L.take p).length = p := by rw [List.length_take]; omega
  unfold gd
  rw [List.getD_eq_getElem?_getD]
  by_cases h1 : i < p
  · rw [if_pos h1, List.getElem?_append_left (by omega), List.getElem?_take_of_lt h1, List.getD_eq_getElem?_getD]
  · rw [if_neg h1, List.getElem?_append_right (by omega), hl]
    by_cases h2 : i = p
    · rw [if_pos h2, h2, Nat.sub_self]; rfl
    · rw [if_neg h2]
      by_cases h3 : i = p + 1
      · rw [if_pos h3, h3, show p + 1 - p = 1 by omega]; rfl
      · rw [if_neg h3, show i - p = (i - p - 2) + 1 + 1 by omega, List.getElem?_cons_succ, List.getElem?_cons_succ, List.getElem?_drop, show p + 1 + (i - p - 2) = i - 1 by omega, List.getD_eq_getElem?_getD]
theorem opL_len {L : List Int32} {N : xNs} {p : Nat} (hp : p < L.length) : (opL L N p).length = L.length + 1 := by
  unfold opL
  rw [List.length_append, List.length_take, List.length_cons, List.length_cons, List.length_drop]
  omega
theorem m_openAt {L : List Int32} {N : xNs} {T : Int32 × Int32 × Int32 × Int32} {p v : Nat} (q : isMo h m Z D A) (r : rS (A 1) (L, N, T)) (hp : p < L.length) (hL : L.length < 64) (hv : gd L p = nI v) (h8 : 8 ≤ v) (h24 : v < 24) (hn : N.1 v ≠ -1) : ∃ h' f, xev 121 [.ref m, .int (nI p)] h = some (.inl none, h') ∧ isMo h' m Z D (va_up A 1 f) ∧ rS f (opL L N p, N, T) ∧ xFr m (m + 10) h h' := by
  obtain ⟨h1, a1, a2, a3⟩ := lp_opn (v := v) (show p < 64 by omega) L.length h A (by omega) hL q
  have e1 := ((r.2.2.2.1 v h8 h24).2 hn).1
  have e2 := ((r.2.2.2.1 v h8 h24).2 hn).2
  simp only at e1 e2
  have f1 := r_first a2 h8 h24
  rw [va_up_self, show dnG p L.length (A 1) (73 + v) = N.1 v by unfold dnG; rw [if_neg (by omega)]; exact e1] at f1
  have q2 := mo_w a2 (k := 1) (by decide) (by decide) (1 + p) (N.1 v)
  rw [va_up_self, va_up_up] at q2
  have f2 := r_second q2 h8 h24
  rw [va_up_self, va_up_ne _ _ (show 89 + v ≠ 1 + p by omega), show dnG p L.length (A 1) (89 + v) = N.2.1 v by unfold dnG; rw [if_neg (by omega)]; exact e2] at f2
  have q3 := mo_w q2 (k := 1) (by decide) (by decide) (1 + p + 1) (N.2.1 v)
  rw [va_up_self, va_up_up] at q3
  have q4 := mo_w q3 (k := 1) (by decide) (by decide) 0 (nI (L.length + 1))
  rw [va_up_self, va_up_up] at q4
  have es := r.2.2.1 p hp
  simp only at es
  rw [hv] at es
  have hx : xix (nI (1 + p)) 117 := xix_nI (by omega) (by decide)
  have hx2 : xix (nI (1 + p + 1)) 117 := xix_nI (by omega) (by decide)
  have e0 : va_up (va_up (dnG p L.length (A 1)) (1 + p) (N.1 v)) (1 + p + 1) (N.2.1 v) 0 = nI L.length := by
    rw [va_up_ne _ _ (by omega), va_up_ne _ _ (by omega)]
    unfold dnG
    rw [if_neg (by omega)]
    exact r.1
  have r1 := r.1
  simp only at r1
  refine ⟨_, _, ?_, q4, ?_, ((a3.tr (xFr_si _ _ _ _ _ (by decide))).tr (xFr_si _ _ _ _ _ (by decide))).tr (xFr_si _ _ _ _ _ (by decide))⟩
  · rw [e_X8_openAt]
    simp only [u_X8_openAt_0, u_X8_openAt_1, u_X8_openAt_4, u_X8_openAt_5, u_X8_openAt_6, u_X8_openAt_7, u_X8_openAt_8, u_X8_openAt_9, u_X8_openAt_10, u_X8_openAt_13, u_X8_openAt_14, u_X8_openAt_15, u_X8_openAt_17, u_X8_openAt_18, u_X8_openAt_19, u_X8_openAt_20, u_X8_openAt_23, u_X8_openAt_24, u_X8_openAt_27, u_X8_openAt_28, u_X8_openAt_29, u_X8_openAt_30, u_X8_openAt_31, u_X8_openAt_34, u_X8_openAt_35, u_X8_openAt_36, u_X8_openAt_37, u_X8_openAt_38, u_X8_openAt_39, u_X8_openAt_40, u_X8_openAt_41, u_X8_openAt_44, u_X8_openAt_48, u_X8_openAt_51, u_X8_openAt_52, u_X8_openAt_53, u_X8_openAt_54, u_X8_openAt_55, u_X8_openAt_56, u_X8_openAt_59, u_X8_openAt_60, u_X8_openAt_61, u_X8_openAt_64, u_X8_openAt_65, u_X8_openAt_66, u_X8_openAt_67, u_X8_openAt_68, u_X8_openAt_69, u_X8_openAt_70, u_X8_openAt_71, u_X8_openAt_74, u_X8_openAt_75, u_X8_openAt_76, u_X8_openAt_79, u_X8_openAt_80, u_X8_openAt_81, u_X8_openAt_82, u_X8_openAt_83, u_X8_openAt_84, u_X8_openAt_85, q.ob, q.a1, nI_s1, hx, nI_clamp (show 1 + p < 2 ^ 31 by omega), es, x0117, c00, r1, xgo_some, xgo_none, xgoI_none, xcat_n, xcat_i, xcat_r, xcat_z, List.length_nil, List.length_cons, List.getD_cons_zero, List.getD_cons_succ, List.set_cons_zero, List.set_cons_succ, Nat.zero_le, Nat.reduceAdd, Nat.reduceLeDiff, Nat.reduceEqDiff, reduceIte]
    rw [a1, u_X8_openAt_47]
    simp only [u_X8_openAt_0, u_X8_openAt_1, u_X8_openAt_4, u_X8_openAt_5, u_X8_openAt_6, u_X8_openAt_7, u_X8_openAt_8, u_X8_openAt_9, u_X8_openAt_10, u_X8_openAt_13, u_X8_openAt_14, u_X8_openAt_15, u_X8_openAt_17, u_X8_openAt_18, u_X8_openAt_19, u_X8_openAt_20, u_X8_openAt_23, u_X8_openAt_24, u_X8_openAt_27, u_X8_openAt_28, u_X8_openAt_29, u_X8_openAt_30, u_X8_openAt_31, u_X8_openAt_34, u_X8_openAt_35, u_X8_openAt_36, u_X8_openAt_37, u_X8_openAt_38, u_X8_openAt_39, u_X8_openAt_40, u_X8_openAt_41, u_X8_openAt_44, u_X8_openAt_48, u_X8_openAt_51, u_X8_openAt_52, u_X8_openAt_53, u_X8_openAt_54, u_X8_openAt_55, u_X8_openAt_56, u_X8_openAt_59, u_X8_openAt_60, u_X8_openAt_61, u_X8_openAt_64, u_X8_openAt_65, u_X8_openAt_66, u_X8_openAt_67, u_X8_openAt_68, u_X8_openAt_69, u_X8_openAt_70, u_X8_openAt_71, u_X8_openAt_74, u_X8_openAt_75, u_X8_openAt_76, u_X8_openAt_79, u_X8_openAt_80, u_X8_openAt_81, u_X8_openAt_82, u_X8_openAt_83, u_X8_openAt_84, u_X8_openAt_85, a2.ob, a2.a1, nI_s1, nI_of1, hx, hx2, nI_clamp (show 1 + p < 2 ^ 31 by omega), nI_clamp (show 1 + p + 1 < 2 ^ 31 by omega), f1, q2.ob, q2.a1, f2, q3.ob, q3.a1, va_up_self, e0, x0117, c00, xgo_some, xgo_none, xgoI_none, xcat_n, xcat_i, xcat_r, xcat_z, List.length_nil, List.length_cons, List.getD_cons_zero, List.getD_cons_succ, List.set_cons_zero, List.set_cons_succ, Nat.zero_le, Nat.reduceAdd, Nat.reduceLeDiff, Nat.reduceEqDiff, reduceIte]
  · have hl := opL_len (N := N) hp
    refine rS_len r (by rw [va_up_self, hl]) (by omega) (fun i hi => ?_) (fun i h1 h2 => ?_)
    · rw [hl] at hi
      unfold opL
      rw [gd_op L p _ _ hp i hi, hv, clAt_nI h24 (by decide), clAt_nI h24 (by decide), va_up_ne _ _ (by omega)]
      by_cases c1 : i < p
      · rw [if_pos c1, va_up_ne _ _ (by omega), va_up_ne _ _ (by omega)]
        unfold dnG
        rw [if_neg (by omega)]
        exact r.2.2.1 i (by simp only; omega)
      · rw [if_neg c1]
        by_cases c2 : i = p
        · rw [if_pos c2, c2, va_up_ne _ _ (by omega), va_up_self]
        · rw [if_neg c2]
          by_cases c3 : i = p + 1
          · rw [if_pos c3, c3, show 1 + (p + 1) = 1 + p + 1 by omega, va_up_self]
          · rw [if_neg c3, va_up_ne _ _ (by omega), va_up_ne _ _ (by omega)]
            unfold dnG
            rw [if_pos ⟨by omega, by omega⟩, show 1 + i - 1 = 1 + (i - 1) by omega]
            exact r.2.2.1 (i - 1) (by simp only; omega)
    · rw [va_up_ne _ _ (by omega), va_up_ne _ _ (by omega), va_up_ne _ _ (by omega)]
      unfold dnG
      rw [if_neg (by omega)]
end MR
