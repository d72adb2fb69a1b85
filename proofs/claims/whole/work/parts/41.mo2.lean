/-! The model: counts, copies, saving. -/
section MP
variable {h : xH} {m : Nat} {Z : Nat → Int32} {D : Int64} {A : Nat → Nat → Int32} {X : xS}
theorem lp_names (q : isMo h m Z D A) (r : rS (A 1) X) : ∀ (k i u : Nat), i + k = 16 → xf 111 4 [some (.ref m), some (.int (nI u)), some (.int (nI i))] [] h = some (.inl (some (.int (nI (u + namN X.2.1.1 (8 + i) k)))), h) := by
  intro k
  induction k with
  | zero =>
    intro i u hk
    have h2 : ¬ nI i < 16 := nI_nlt (b := 16) (by omega) (by omega)
    rw [u_X8_names_4]
    simp only [u_X8_names_0, u_X8_names_1, u_X8_names_2, u_X8_names_3, u_X8_names_5, u_X8_names_7, u_X8_names_10, u_X8_names_11, u_X8_names_12, u_X8_names_15, u_X8_names_17, u_X8_names_18, u_X8_names_19, u_X8_names_20, u_X8_names_21, u_X8_names_22, u_X8_names_25, u_X8_names_28, u_X8_names_29, h2, if_false, namN, Nat.add_zero, xgo_some, xgo_none, xgoI_none, xcat_n, xcat_i, xcat_r, xcat_z, List.length_nil, List.length_cons, List.getD_cons_zero, List.getD_cons_succ, List.set_cons_zero, List.set_cons_succ, Nat.zero_le, Nat.reduceAdd, Nat.reduceLeDiff, Nat.reduceEqDiff, reduceIte]
  | succ k ih =>
    intro i u hk
    have h2 : nI i < 16 := nI_lt (b := 16) (by omega) (by omega)
    have hx : xix (nI (65 + i)) 117 := xix_nI (by omega) (by decide)
    have ei : (65 : Int32) + nI i = nI (65 + i) := nI_add 65 i
    have es := (r.2.2.2.1 (8 + i) (by omega) (by omega)).1
    rw [show 57 + (8 + i) = 65 + i by omega] at es
    rw [u_X8_names_4]
    by_cases h3 : X.2.1.1 (8 + i) = -1
    · rw [if_pos h3] at es
      simp only [u_X8_names_0, u_X8_names_1, u_X8_names_2, u_X8_names_3, u_X8_names_5, u_X8_names_7, u_X8_names_10, u_X8_names_11, u_X8_names_12, u_X8_names_15, u_X8_names_17, u_X8_names_18, u_X8_names_19, u_X8_names_20, u_X8_names_21, u_X8_names_22, u_X8_names_25, u_X8_names_28, u_X8_names_29, h2, q.ob, q.a1, hx, ei, nI_clamp (show 65 + i < 2 ^ 31 by omega), es, Int32.add_zero, nI_of1, if_true, xgo_some, xgo_none, xgoI_none, xcat_n, xcat_i, xcat_r, xcat_z, List.length_nil, List.length_cons, List.getD_cons_zero, List.getD_cons_succ, List.set_cons_zero, List.set_cons_succ, Nat.zero_le, Nat.reduceAdd, Nat.reduceLeDiff, Nat.reduceEqDiff, reduceIte]
      rw [ih (i + 1) _ (by omega), namN, if_pos h3]
      exact congrArg (fun z => (some (Sum.inl (some (Value.int (nI z))), h) : Option (xR × xH))) (by rw [show 8 + (i + 1) = 8 + i + 1 by omega]; omega)
    · rw [if_neg h3] at es
      simp only [u_X8_names_0, u_X8_names_1, u_X8_names_2, u_X8_names_3, u_X8_names_5, u_X8_names_7, u_X8_names_10, u_X8_names_11, u_X8_names_12, u_X8_names_15, u_X8_names_17, u_X8_names_18, u_X8_names_19, u_X8_names_20, u_X8_names_21, u_X8_names_22, u_X8_names_25, u_X8_names_28, u_X8_names_29, h2, q.ob, q.a1, hx, ei, nI_clamp (show 65 + i < 2 ^ 31 by omega), es, nI_of1, if_true, xgo_some, xgo_none, xgoI_none, xcat_n, xcat_i, xcat_r, xcat_z, List.length_nil, List.length_cons, List.getD_cons_zero, List.getD_cons_succ, List.set_cons_zero, List.set_cons_succ, Nat.zero_le, Nat.reduceAdd, Nat.reduceLeDiff, Nat.reduceEqDiff, reduceIte]
      rw [ih (i + 1) _ (by omega), namN, if_neg h3]
      exact congrArg (fun z => (some (Sum.inl (some (Value.int (nI z))), h) : Option (xR × xH))) (by rw [show 8 + (i + 1) = 8 + i + 1 by omega]; omega)
theorem m_names (q : isMo h m Z D A) (r : rS (A 1) X) : xev 111 [.ref m] h = some (.inl (some (.int (nI (namN X.2.1.1 8 16)))), h) := by
  rw [e_X8_names]
  simp only [u_X8_names_0, u_X8_names_1, u_X8_names_2, u_X8_names_3, u_X8_names_5, u_X8_names_7, u_X8_names_10, u_X8_names_11, u_X8_names_12, u_X8_names_15, u_X8_names_17, u_X8_names_18, u_X8_names_19, u_X8_names_20, u_X8_names_21, u_X8_names_22, u_X8_names_25, u_X8_names_28, u_X8_names_29, xgo_some, xgo_none, xgoI_none, xcat_n, xcat_i, xcat_r, xcat_z, List.length_nil, List.length_cons, List.getD_cons_zero, List.getD_cons_succ, List.set_cons_zero, List.set_cons_succ, Nat.zero_le, Nat.reduceAdd, Nat.reduceLeDiff, Nat.reduceEqDiff, reduceIte]
  rw [show (0 : Int32) = nI 0 from rfl, lp_names q r 16 0 0 (by omega), Nat.zero_add]
theorem m_size (q : isMo h m Z D A) (r : rS (A 1) X) : xev 112 [.ref m] h = some (.inl (some (.int (szI X))), h) := by
  have p1 := m_names q r
  rw [e_X8_size]
  simp only [u_X8_size_0, u_X8_size_1, u_X8_size_4, u_X8_size_5, u_X8_size_6, u_X8_size_7, u_X8_size_8, u_X8_size_11, u_X8_size_12, u_X8_size_13, q.ob, q.a1, x0117, c00, r.1, p1, xgo_some, xgo_none, xgoI_none, xcat_n, xcat_i, xcat_r, xcat_z, List.length_nil, List.length_cons, List.getD_cons_zero, List.getD_cons_succ, List.set_cons_zero, List.set_cons_succ, Nat.zero_le, Nat.reduceAdd, Nat.reduceLeDiff, Nat.reduceEqDiff, reduceIte]
  unfold szI
  rw [show (2 : Int32) * nI (namN X.2.1.1 8 16) = nI (2 * namN X.2.1.1 8 16) from (Int32.ofNat_mul 2 _).symm, nI_add]
theorem lp_occurs (q : isMo h m Z D A) (r : rS (A 1) X) (a b : Int32) : ∀ (j k i u : Nat) (l5 : Option Value), k ≤ j → i + k = X.1.length → xf 123 5 [some (.ref m), some (.int a), some (.int b), some (.int (nI u)), some (.int (nI i)), l5] [] h = some (.inl (some (.int (nI (u + occI a b (X.1.drop i))))), h) := by
  have hL := r.2.1
  intro j
  induction j with
  | zero =>
    intro k i u l5 hj hk
    have h2 : ¬ nI (i + 1) < nI X.1.length := nI_nlt (by omega) (by omega)
    rw [u_X8_occurs_5]
    simp only [u_X8_occurs_0, u_X8_occurs_1, u_X8_occurs_2, u_X8_occurs_3, u_X8_occurs_7, u_X8_occurs_8, u_X8_occurs_9, u_X8_occurs_10, u_X8_occurs_13, u_X8_occurs_14, u_X8_occurs_15, u_X8_occurs_18, u_X8_occurs_19, u_X8_occurs_22, u_X8_occurs_23, u_X8_occurs_25, u_X8_occurs_26, u_X8_occurs_27, u_X8_occurs_28, u_X8_occurs_31, u_X8_occurs_32, u_X8_occurs_35, u_X8_occurs_36, u_X8_occurs_38, u_X8_occurs_39, u_X8_occurs_40, u_X8_occurs_41, u_X8_occurs_42, u_X8_occurs_43, u_X8_occurs_46, u_X8_occurs_47, u_X8_occurs_50, u_X8_occurs_51, u_X8_occurs_53, u_X8_occurs_54, u_X8_occurs_56, u_X8_occurs_59, u_X8_occurs_60, u_X8_occurs_63, u_X8_occurs_64, u_X8_occurs_65, u_X8_occurs_66, u_X8_occurs_68, u_X8_occurs_70, u_X8_occurs_73, u_X8_occurs_74, u_X8_occurs_77, u_X8_occurs_78, u_X8_occurs_79, u_X8_occurs_81, u_X8_occurs_84, u_X8_occurs_85, q.ob, q.a1, x0117, c00, r.1, nI_of1, h2, if_false, xgo_some, xgo_none, xgoI_none, xcat_n, xcat_i, xcat_r, xcat_z, List.length_nil, List.length_cons, List.getD_cons_zero, List.getD_cons_succ, List.set_cons_zero, List.set_cons_succ, Nat.zero_le, Nat.reduceAdd, Nat.reduceLeDiff, Nat.reduceEqDiff, reduceIte]
    rw [List.drop_of_length_le (by omega)]
    rfl
  | succ j ih =>
    intro k i u l5 hj hk
    by_cases h1 : i + 1 < X.1.length
    · have h2 : nI (i + 1) < nI X.1.length := nI_lt (by omega) (by omega)
      have hx : xix (nI (1 + i)) 117 := xix_nI (by omega) (by decide)
      have es := r.2.2.1 i (by omega)
      have hx2 : xix (nI (1 + i + 1)) 117 := xix_nI (by omega) (by decide)
      have es2 := r.2.2.1 (i + 1) (by omega)
      rw [← Nat.add_assoc] at es2
      have eo : occI a b (X.1.drop i) = if gd X.1 i = a ∧ gd X.1 (i + 1) = b then 1 + occI a b (X.1.drop (i + 2)) else occI a b (X.1.drop (i + 1)) := by
        rw [gd_drop (show i < X.1.length by omega), gd_drop (show i + 1 < X.1.length by omega), occI]
      have e2 : nI i + 2 = nI (i + 2) := nI_add i 2
      rw [u_X8_occurs_5, eo]
      by_cases h3 : gd X.1 i = a
      · by_cases h4 : gd X.1 (i + 1) = b
        · rw [if_pos ⟨h3, h4⟩]
          cases l5 <;> simp only [u_X8_occurs_0, u_X8_occurs_1, u_X8_occurs_2, u_X8_occurs_3, u_X8_occurs_7, u_X8_occurs_8, u_X8_occurs_9, u_X8_occurs_10, u_X8_occurs_13, u_X8_occurs_14, u_X8_occurs_15, u_X8_occurs_18, u_X8_occurs_19, u_X8_occurs_22, u_X8_occurs_23, u_X8_occurs_25, u_X8_occurs_26, u_X8_occurs_27, u_X8_occurs_28, u_X8_occurs_31, u_X8_occurs_32, u_X8_occurs_35, u_X8_occurs_36, u_X8_occurs_38, u_X8_occurs_39, u_X8_occurs_40, u_X8_occurs_41, u_X8_occurs_42, u_X8_occurs_43, u_X8_occurs_46, u_X8_occurs_47, u_X8_occurs_50, u_X8_occurs_51, u_X8_occurs_53, u_X8_occurs_54, u_X8_occurs_56, u_X8_occurs_59, u_X8_occurs_60, u_X8_occurs_63, u_X8_occurs_64, u_X8_occurs_65, u_X8_occurs_66, u_X8_occurs_68, u_X8_occurs_70, u_X8_occurs_73, u_X8_occurs_74, u_X8_occurs_77, u_X8_occurs_78, u_X8_occurs_79, u_X8_occurs_81, u_X8_occurs_84, u_X8_occurs_85, q.ob, q.a1, x0117, c00, r.1, nI_s1, nI_of1, h2, hx, hx2, es, es2, nI_clamp (show 1 + i < 2 ^ 31 by omega), nI_clamp (show 1 + i + 1 < 2 ^ 31 by omega), h3, h4, i10, e2, if_true, if_false, true_or, or_true, xgo_some, xgo_none, xgoI_none, xcat_n, xcat_i, xcat_r, xcat_z, List.length_nil, List.length_cons, List.getD_cons_zero, List.getD_cons_succ, List.set_cons_zero, List.set_cons_succ, Nat.zero_le, Nat.reduceAdd, Nat.reduceLeDiff, Nat.reduceEqDiff, reduceIte]
          · rw [ih (k - 2) (i + 2) _ _ (by omega) (by omega), Nat.add_assoc]
          · rw [ih (k - 2) (i + 2) _ _ (by omega) (by omega), Nat.add_assoc]
        · rw [if_neg (fun z => h4 z.2)]
          cases l5 <;> simp only [u_X8_occurs_0, u_X8_occurs_1, u_X8_occurs_2, u_X8_occurs_3, u_X8_occurs_7, u_X8_occurs_8, u_X8_occurs_9, u_X8_occurs_10, u_X8_occurs_13, u_X8_occurs_14, u_X8_occurs_15, u_X8_occurs_18, u_X8_occurs_19, u_X8_occurs_22, u_X8_occurs_23, u_X8_occurs_25, u_X8_occurs_26, u_X8_occurs_27, u_X8_occurs_28, u_X8_occurs_31, u_X8_occurs_32, u_X8_occurs_35, u_X8_occurs_36, u_X8_occurs_38, u_X8_occurs_39, u_X8_occurs_40, u_X8_occurs_41, u_X8_occurs_42, u_X8_occurs_43, u_X8_occurs_46, u_X8_occurs_47, u_X8_occurs_50, u_X8_occurs_51, u_X8_occurs_53, u_X8_occurs_54, u_X8_occurs_56, u_X8_occurs_59, u_X8_occurs_60, u_X8_occurs_63, u_X8_occurs_64, u_X8_occurs_65, u_X8_occurs_66, u_X8_occurs_68, u_X8_occurs_70, u_X8_occurs_73, u_X8_occurs_74, u_X8_occurs_77, u_X8_occurs_78, u_X8_occurs_79, u_X8_occurs_81, u_X8_occurs_84, u_X8_occurs_85, q.ob, q.a1, x0117, c00, r.1, nI_s1, nI_of1, h2, hx, hx2, es, es2, nI_clamp (show 1 + i < 2 ^ 31 by omega), nI_clamp (show 1 + i + 1 < 2 ^ 31 by omega), h3, h4, i10, Int32.add_zero, if_true, if_false, true_or, or_true, xgo_some, xgo_none, xgoI_none, xcat_n, xcat_i, xcat_r, xcat_z, List.length_nil, List.length_cons, List.getD_cons_zero, List.getD_cons_succ, List.set_cons_zero, List.set_cons_succ, Nat.zero_le, Nat.reduceAdd, Nat.reduceLeDiff, Nat.reduceEqDiff, reduceIte]
          · rw [ih (k - 1) (i + 1) _ _ (by omega) (by omega)]
          · rw [ih (k - 1) (i + 1) _ _ (by omega) (by omega)]
      · rw [if_neg (fun z => h3 z.1)]
        cases l5 <;> simp only [u_X8_occurs_0, u_X8_occurs_1, u_X8_occurs_2, u_X8_occurs_3, u_X8_occurs_7, u_X8_occurs_8, u_X8_occurs_9, u_X8_occurs_10, u_X8_occurs_13, u_X8_occurs_14, u_X8_occurs_15, u_X8_occurs_18, u_X8_occurs_19, u_X8_occurs_22, u_X8_occurs_23, u_X8_occurs_25, u_X8_occurs_26, u_X8_occurs_27, u_X8_occurs_28, u_X8_occurs_31, u_X8_occurs_32, u_X8_occurs_35, u_X8_occurs_36, u_X8_occurs_38, u_X8_occurs_39, u_X8_occurs_40, u_X8_occurs_41, u_X8_occurs_42, u_X8_occurs_43, u_X8_occurs_46, u_X8_occurs_47, u_X8_occurs_50, u_X8_occurs_51, u_X8_occurs_53, u_X8_occurs_54, u_X8_occurs_56, u_X8_occurs_59, u_X8_occurs_60, u_X8_occurs_63, u_X8_occurs_64, u_X8_occurs_65, u_X8_occurs_66, u_X8_occurs_68, u_X8_occurs_70, u_X8_occurs_73, u_X8_occurs_74, u_X8_occurs_77, u_X8_occurs_78, u_X8_occurs_79, u_X8_occurs_81, u_X8_occurs_84, u_X8_occurs_85, q.ob, q.a1, x0117, c00, r.1, nI_s1, nI_of1, h2, hx, es, nI_clamp (show 1 + i < 2 ^ 31 by omega), h3, i10, Int32.add_zero, if_true, if_false, true_or, or_true, xgo_some, xgo_none, xgoI_none, xcat_n, xcat_i, xcat_r, xcat_z, List.length_nil, List.length_cons, List.getD_cons_zero, List.getD_cons_succ, List.set_cons_zero, List.set_cons_succ, Nat.zero_le, Nat.reduceAdd, Nat.reduceLeDiff, Nat.reduceEqDiff, reduceIte]
        · rw [ih (k - 1) (i + 1) _ _ (by omega) (by omega)]
        · rw [ih (k - 1) (i + 1) _ _ (by omega) (by omega)]
    · have h2 : ¬ nI (i + 1) < nI X.1.length := nI_nlt (by omega) (by omega)
      rw [u_X8_occurs_5]
      simp only [u_X8_occurs_0, u_X8_occurs_1, u_X8_occurs_2, u_X8_occurs_3, u_X8_occurs_7, u_X8_occurs_8, u_X8_occurs_9, u_X8_occurs_10, u_X8_occurs_13, u_X8_occurs_14, u_X8_occurs_15, u_X8_occurs_18, u_X8_occurs_19, u_X8_occurs_22, u_X8_occurs_23, u_X8_occurs_25, u_X8_occurs_26, u_X8_occurs_27, u_X8_occurs_28, u_X8_occurs_31, u_X8_occurs_32, u_X8_occurs_35, u_X8_occurs_36, u_X8_occurs_38, u_X8_occurs_39, u_X8_occurs_40, u_X8_occurs_41, u_X8_occurs_42, u_X8_occurs_43, u_X8_occurs_46, u_X8_occurs_47, u_X8_occurs_50, u_X8_occurs_51, u_X8_occurs_53, u_X8_occurs_54, u_X8_occurs_56, u_X8_occurs_59, u_X8_occurs_60, u_X8_occurs_63, u_X8_occurs_64, u_X8_occurs_65, u_X8_occurs_66, u_X8_occurs_68, u_X8_occurs_70, u_X8_occurs_73, u_X8_occurs_74, u_X8_occurs_77, u_X8_occurs_78, u_X8_occurs_79, u_X8_occurs_81, u_X8_occurs_84, u_X8_occurs_85, q.ob, q.a1, x0117, c00, r.1, nI_of1, h2, if_false, xgo_some, xgo_none, xgoI_none, xcat_n, xcat_i, xcat_r, xcat_z, List.length_nil, List.length_cons, List.getD_cons_zero, List.getD_cons_succ, List.set_cons_zero, List.set_cons_succ, Nat.zero_le, Nat.reduceAdd, Nat.reduceLeDiff, Nat.reduceEqDiff, reduceIte]
      have : occI a b (X.1.drop i) = 0 := by
        have hl : (X.1.drop i).length ≤ 1 := by rw [List.length_drop]; omega
        match X.1.drop i, hl with
        | [], _ => rfl
        | [_], _ => rfl
      rw [this]
      rfl
theorem m_occurs (q : isMo h m Z D A) (r : rS (A 1) X) (a b : Int32) : xev 123 [.ref m, .int a, .int b] h = some (.inl (some (.int (nI (occI a b X.1)))), h) := by
  rw [e_X8_occurs]
  simp only [u_X8_occurs_0, u_X8_occurs_1, u_X8_occurs_2, u_X8_occurs_3, u_X8_occurs_7, u_X8_occurs_8, u_X8_occurs_9, u_X8_occurs_10, u_X8_occurs_13, u_X8_occurs_14, u_X8_occurs_15, u_X8_occurs_18, u_X8_occurs_19, u_X8_occurs_22, u_X8_occurs_23, u_X8_occurs_25, u_X8_occurs_26, u_X8_occurs_27, u_X8_occurs_28, u_X8_occurs_31, u_X8_occurs_32, u_X8_occurs_35, u_X8_occurs_36, u_X8_occurs_38, u_X8_occurs_39, u_X8_occurs_40, u_X8_occurs_41, u_X8_occurs_42, u_X8_occurs_43, u_X8_occurs_46, u_X8_occurs_47, u_X8_occurs_50, u_X8_occurs_51, u_X8_occurs_53, u_X8_occurs_54, u_X8_occurs_56, u_X8_occurs_59, u_X8_occurs_60, u_X8_occurs_63, u_X8_occurs_64, u_X8_occurs_65, u_X8_occurs_66, u_X8_occurs_68, u_X8_occurs_70, u_X8_occurs_73, u_X8_occurs_74, u_X8_occurs_77, u_X8_occurs_78, u_X8_occurs_79, u_X8_occurs_81, u_X8_occurs_84, u_X8_occurs_85, xgo_some, xgo_none, xgoI_none, xcat_n, xcat_i, xcat_r, xcat_z, List.length_nil, List.length_cons, List.getD_cons_zero, List.getD_cons_succ, List.set_cons_zero, List.set_cons_succ, Nat.zero_le, Nat.reduceAdd, Nat.reduceLeDiff, Nat.reduceEqDiff, reduceIte]
  rw [show (0 : Int32) = nI 0 from rfl, lp_occurs q r a b _ _ 0 0 _ (Nat.le_refl _) (Nat.zero_add _), Nat.zero_add, List.drop_zero]
theorem va_up_up {α : Type} (f : Nat → α) (k : Nat) (a b : α) : va_up (va_up f k a) k b = va_up f k b := by
  funext j
  by_cases e : j = k
  · rw [e, va_up_self, va_up_self]
  · rw [va_up_ne _ _ e, va_up_ne _ _ e, va_up_ne _ _ e]
theorem xFr_si (h : xH) (m k i : Nat) (v : Int32) (hk : k ≤ 9) : xFr m (m + 10) h (xsi h (m + k) i v) := xFr.wd xFr_up (by omega) (by omega)
theorem xFr_mo (h : xH) (m k : Nat) (v : Value) : xFr m (m + 10) h (xso h m k v) := xFr.wd xFr_up (by omega) (by omega)
def cpG (i n : Nat) (f g : Nat → Int32) : Nat → Int32 := fun j => if i ≤ j ∧ j < n then g j else f j
theorem cpG_up {i n : Nat} {f g : Nat → Int32} (hi : i < n) : cpG (i + 1) n (va_up f i (g i)) g = cpG i n f g := by
  funext j
  unfold cpG
  by_cases e : j = i
  · subst e
    rw [if_neg (by omega), va_up_self, if_pos ⟨Nat.le_refl _, hi⟩]
  · by_cases h1 : i ≤ j ∧ j < n
    · rw [if_pos h1, if_pos ⟨by omega, h1.2⟩]
    · rw [if_neg h1, if_neg (fun z => h1 ⟨by omega, z.2⟩), va_up_ne _ _ e]
theorem cpG_end {n : Nat} {f g : Nat → Int32} : cpG n n f g = f := by
  funext j
  unfold cpG
  exact if_neg (by omega)
theorem lp_aside : ∀ (k i : Nat) (h : xH) (A : Nat → Nat → Int32), i + k = 117 → isMo h m Z D A →
    ∃ h', xf 102 2 [some (.ref m), some (.int (nI i))] [] h = some (.inl none, h') ∧ isMo h' m Z D (va_up A 2 (cpG i 117 (A 2) (A 1))) ∧ xFr m (m + 10) h h' := by
  intro k
  induction k with
  | zero =>
    intro i h A hk q
    have h2 : ¬ nI i < 117 := nI_nlt (b := 117) (by omega) (by omega)
    have hi : i = 117 := by omega
    subst hi
    refine ⟨h, ?_, ?_, xFr.rf⟩
    · rw [u_X8_putAside_2]
      simp only [u_X8_putAside_0, u_X8_putAside_1, u_X8_putAside_3, u_X8_putAside_5, u_X8_putAside_8, u_X8_putAside_9, u_X8_putAside_12, u_X8_putAside_13, u_X8_putAside_14, u_X8_putAside_17, u_X8_putAside_18, u_X8_putAside_19, u_X8_putAside_20, u_X8_putAside_23, u_X8_putAside_26, h2, if_false, xgo_some, xgo_none, xgoI_none, xcat_n, xcat_i, xcat_r, xcat_z, List.length_nil, List.length_cons, List.getD_cons_zero, List.getD_cons_succ, List.set_cons_zero, List.set_cons_succ, Nat.zero_le, Nat.reduceAdd, Nat.reduceLeDiff, Nat.reduceEqDiff, reduceIte]
    · rw [cpG_end]
      have : va_up A 2 (A 2) = A := by
        funext j
        by_cases e : j = 2
        · rw [e, va_up_self]
        · rw [va_up_ne _ _ e]
      rw [this]; exact q
  | succ k ih =>
    intro i h A hk q
    have h2 : nI i < 117 := nI_lt (b := 117) (by omega) (by omega)
    have hx : xix (nI i) 117 := xix_nI (by omega) (by decide)
    have q1 := mo_w q (k := 2) (by decide) (by decide) i (A 1 i)
    obtain ⟨h', a1, a2, a3⟩ := ih (i + 1) _ _ (by omega) q1
    refine ⟨h', ?_, ?_, (xFr_si h m 2 i _ (by decide)).tr a3⟩
    · rw [u_X8_putAside_2]
      simp only [u_X8_putAside_0, u_X8_putAside_1, u_X8_putAside_3, u_X8_putAside_5, u_X8_putAside_8, u_X8_putAside_9, u_X8_putAside_12, u_X8_putAside_13, u_X8_putAside_14, u_X8_putAside_17, u_X8_putAside_18, u_X8_putAside_19, u_X8_putAside_20, u_X8_putAside_23, u_X8_putAside_26, h2, q.ob, q.a1, q.a2, hx, nI_clamp (show i < 2 ^ 31 by omega), nI_of1, if_true, xgo_some, xgo_none, xgoI_none, xcat_n, xcat_i, xcat_r, xcat_z, List.length_nil, List.length_cons, List.getD_cons_zero, List.getD_cons_succ, List.set_cons_zero, List.set_cons_succ, Nat.zero_le, Nat.reduceAdd, Nat.reduceLeDiff, Nat.reduceEqDiff, reduceIte]
      exact a1
    · rw [va_up_self, va_up_ne _ _ (show 1 ≠ 2 by decide), cpG_up (by omega), va_up_up] at a2
      exact a2
theorem m_aside (q : isMo h m Z D A) : ∃ h', xev 102 [.ref m] h = some (.inl none, h') ∧ isMo h' m Z D (va_up A 2 (cpG 0 117 (A 2) (A 1))) ∧ xFr m (m + 10) h h' := by
  obtain ⟨h', a1, a2⟩ := lp_aside 117 0 h A (by omega) q
  refine ⟨h', ?_, a2⟩
  rw [e_X8_putAside]
  simp only [u_X8_putAside_0, u_X8_putAside_1, u_X8_putAside_3, u_X8_putAside_5, u_X8_putAside_8, u_X8_putAside_9, u_X8_putAside_12, u_X8_putAside_13, u_X8_putAside_14, u_X8_putAside_17, u_X8_putAside_18, u_X8_putAside_19, u_X8_putAside_20, u_X8_putAside_23, u_X8_putAside_26, xgo_some, xgo_none, xgoI_none, xcat_n, xcat_i, xcat_r, xcat_z, List.length_nil, List.length_cons, List.getD_cons_zero, List.getD_cons_succ, List.set_cons_zero, List.set_cons_succ, Nat.zero_le, Nat.reduceAdd, Nat.reduceLeDiff, Nat.reduceEqDiff, reduceIte]
  exact a1
theorem lp_back : ∀ (k i : Nat) (h : xH) (A : Nat → Nat → Int32), i + k = 117 → isMo h m Z D A →
    ∃ h', xf 103 2 [some (.ref m), some (.int (nI i))] [] h = some (.inl none, h') ∧ isMo h' m Z D (va_up A 1 (cpG i 117 (A 1) (A 2))) ∧ xFr m (m + 10) h h' := by
  intro k
  induction k with
  | zero =>
    intro i h A hk q
    have h2 : ¬ nI i < 117 := nI_nlt (b := 117) (by omega) (by omega)
    have hi : i = 117 := by omega
    subst hi
    refine ⟨h, ?_, ?_, xFr.rf⟩
    · rw [u_X8_putBack_2]
      simp only [u_X8_putBack_0, u_X8_putBack_1, u_X8_putBack_3, u_X8_putBack_5, u_X8_putBack_8, u_X8_putBack_9, u_X8_putBack_12, u_X8_putBack_13, u_X8_putBack_14, u_X8_putBack_17, u_X8_putBack_18, u_X8_putBack_19, u_X8_putBack_20, u_X8_putBack_23, u_X8_putBack_26, h2, if_false, xgo_some, xgo_none, xgoI_none, xcat_n, xcat_i, xcat_r, xcat_z, List.length_nil, List.length_cons, List.getD_cons_zero, List.getD_cons_succ, List.set_cons_zero, List.set_cons_succ, Nat.zero_le, Nat.reduceAdd, Nat.reduceLeDiff, Nat.reduceEqDiff, reduceIte]
    · rw [cpG_end]
      have : va_up A 1 (A 1) = A := by
        funext j
        by_cases e : j = 1
        · rw [e, va_up_self]
        · rw [va_up_ne _ _ e]
      rw [this]; exact q
  | succ k ih =>
    intro i h A hk q
    have h2 : nI i < 117 := nI_lt (b := 117) (by omega) (by omega)
    have hx : xix (nI i) 117 := xix_nI (by omega) (by decide)
    have q1 := mo_w q (k := 1) (by decide) (by decide) i (A 2 i)
    obtain ⟨h', a1, a2, a3⟩ := ih (i + 1) _ _ (by omega) q1
    refine ⟨h', ?_, ?_, (xFr_si h m 1 i _ (by decide)).tr a3⟩
    · rw [u_X8_putBack_2]
      simp only [u_X8_putBack_0, u_X8_putBack_1, u_X8_putBack_3, u_X8_putBack_5, u_X8_putBack_8, u_X8_putBack_9, u_X8_putBack_12, u_X8_putBack_13, u_X8_putBack_14, u_X8_putBack_17, u_X8_putBack_18, u_X8_putBack_19, u_X8_putBack_20, u_X8_putBack_23, u_X8_putBack_26, h2, q.ob, q.a1, q.a2, hx, nI_clamp (show i < 2 ^ 31 by omega), nI_of1, if_true, xgo_some, xgo_none, xgoI_none, xcat_n, xcat_i, xcat_r, xcat_z, List.length_nil, List.length_cons, List.getD_cons_zero, List.getD_cons_succ, List.set_cons_zero, List.set_cons_succ, Nat.zero_le, Nat.reduceAdd, Nat.reduceLeDiff, Nat.reduceEqDiff, reduceIte]
      exact a1
    · rw [va_up_self, va_up_ne _ _ (show 2 ≠ 1 by decide), cpG_up (by omega), va_up_up] at a2
      exact a2
theorem m_back (q : isMo h m Z D A) : ∃ h', xev 103 [.ref m] h = some (.inl none, h') ∧ isMo h' m Z D (va_up A 1 (cpG 0 117 (A 1) (A 2))) ∧ xFr m (m + 10) h h' := by
  obtain ⟨h', a1, a2⟩ := lp_back 117 0 h A (by omega) q
  refine ⟨h', ?_, a2⟩
  rw [e_X8_putBack]
  simp only [u_X8_putBack_0, u_X8_putBack_1, u_X8_putBack_3, u_X8_putBack_5, u_X8_putBack_8, u_X8_putBack_9, u_X8_putBack_12, u_X8_putBack_13, u_X8_putBack_14, u_X8_putBack_17, u_X8_putBack_18, u_X8_putBack_19, u_X8_putBack_20, u_X8_putBack_23, u_X8_putBack_26, xgo_some, xgo_none, xgoI_none, xcat_n, xcat_i, xcat_r, xcat_z, List.length_nil, List.length_cons, List.getD_cons_zero, List.getD_cons_succ, List.set_cons_zero, List.set_cons_succ, Nat.zero_le, Nat.reduceAdd, Nat.reduceLeDiff, Nat.reduceEqDiff, reduceIte]
  exact a1
end MP
