/-! The model: the rounds of laying out. -/
section LZ
variable {m : Nat} {Z : Nat → Int32} {D : Int64} {N : xNs} {d l : Nat → Nat}
def lyD (N : xNs) (A : Nat → Nat → Int32) (k : Nat) : Prop := A 5 k = N.2.2.1 k ∧ A 6 k = N.2.2.2 k ∧ A 7 k = sgN N.1 N.2.1 N.2.2.2 16 (nI k) 0 ∧ A 8 k = sgN N.1 N.2.1 N.2.2.2 16 (nI k) (N.2.2.2 k - 1) ∧ ∀ s, s < 8 → A 9 (8 * k + s) = ti0 N s k
def lyI (N : xNs) (d : Nat → Nat) (r i : Nat) (A : Nat → Nat → Int32) : Prop := (∀ k, k < 8 → lyD N A k) ∧ (∀ k, 8 ≤ k → k < 24 → N.1 k ≠ -1 → lyD N A k ∨ A 5 k = -1) ∧ ∀ k, 8 ≤ k → k < 24 → N.1 k ≠ -1 → (d k ≤ r ∨ (d k = r + 1 ∧ k < i)) → lyD N A k
theorem lyD_ne (w : wfN N d l) {A : Nat → Nat → Int32} {k : Nat} (h24 : k < 24) (hs : hsN N k) (q : lyD N A k) : A 5 k ≠ -1 := by
  have := wf_d16 w h24 hs
  rw [q.1, wf_dep w h24 hs]
  exact nI_nm1 (by omega)
theorem lyI_0 (w : wfN N d l) {A A' : Nat → Nat → Int32} (b : lyB A A' 0) : lyI N d 0 8 A' := by
  refine ⟨fun k hk => ?_, fun k h8 h24 hk => ?_, fun k h8 h24 hk hd => ?_⟩
  · obtain ⟨b1, b2, b3, b4, b5⟩ := b.1 k (Nat.zero_le _) (by omega)
    obtain ⟨w1, w2, w3, w4, w5, w6⟩ := w.2.1 k hk
    refine ⟨by rw [b1, if_pos hk, w3], by rw [b2, w4], by rw [b3, sgN_8 _ _ _ hk], by rw [b4, sgN_8 _ _ _ hk], fun s hs => ?_⟩
    rw [b5 s hs, ti0_8 w hk]
  · obtain ⟨b1, b2⟩ := b.1 k (Nat.zero_le _) h24
    rw [if_neg (by omega)] at b1
    exact Or.inr b1
  · obtain ⟨p1, p2, a, c, a24, c24, ea, ec, ha, hc, e, hl⟩ := w.2.2 k h8 h24 hk
    omega
theorem lyI_nx {r : Nat} {A : Nat → Nat → Int32} (q : lyI N d r 24 A) : lyI N d (r + 1) 8 A := by
  refine ⟨q.1, q.2.1, fun k h8 h24 hk hd => q.2.2 k h8 h24 hk ?_⟩
  omega
theorem lyI_sk {r i : Nat} {A : Nat → Nat → Int32} (q : lyI N d r i A) (hi : N.1 i ≠ -1 → d i = r + 1 → lyD N A i) : lyI N d r (i + 1) A := by
  refine ⟨q.1, q.2.1, fun k h8 h24 hk hd => ?_⟩
  by_cases e : k = i
  · subst e
    rcases hd with h1 | h1
    · exact q.2.2 k h8 h24 hk (Or.inl h1)
    · exact hi hk h1.1
  · exact q.2.2 k h8 h24 hk (by omega)
/-- a part that is still bare is deeper than the round -/
theorem lyI_dp (w : wfN N d l) {r i k : Nat} {A : Nat → Nat → Int32} (q : lyI N d r i A) (h24 : k < 24) (hs : hsN N k) (e : A 5 k = -1) : r < d k := by
  apply Nat.lt_of_not_le
  intro z
  by_cases h8 : k < 8
  · exact lyD_ne w h24 hs (q.1 k h8) e
  · exact lyD_ne w h24 hs (q.2.2 k (by omega) h24 (hs.elim (fun z => absurd z h8) id) (Or.inl z)) e
theorem lyI_ld (w : wfN N d l) {r i k : Nat} {A : Nat → Nat → Int32} (q : lyI N d r i A) (h24 : k < 24) (hs : hsN N k) (e : A 5 k ≠ -1) : lyD N A k := by
  by_cases h8 : k < 8
  · exact q.1 k h8
  · exact (q.2.1 k (by omega) h24 (hs.elim (fun z => absurd z h8) id)).elim id (fun z => absurd z e)
theorem lyD_cg {A A' : Nat → Nat → Int32} {i k : Nat} (hk : k ≠ i) {x5 x6 x7 x8 : Int32} (e5 : A' 5 = va_up (A 5) i x5) (e6 : A' 6 = va_up (A 6) i x6) (e7 : A' 7 = va_up (A 7) i x7) (e8 : A' 8 = va_up (A 8) i x8) (e9 : ∀ j, (j < 8 * i ∨ 8 * i + 8 ≤ j) → A' 9 j = A 9 j) (q : lyD N A k) : lyD N A' k := by
  obtain ⟨q1, q2, q3, q4, q5⟩ := q
  refine ⟨by rw [e5, va_up_ne _ _ hk]; exact q1, by rw [e6, va_up_ne _ _ hk]; exact q2, by rw [e7, va_up_ne _ _ hk]; exact q3, by rw [e8, va_up_ne _ _ hk]; exact q4, fun s hs => ?_⟩
  rw [e9 _ (by omega)]
  exact q5 s hs
theorem lyD_in (w : wfN N d l) {A A' : Nat → Nat → Int32} {i a b : Nat} (h8 : 8 ≤ i) (h24 : i < 24) (hi : N.1 i ≠ -1) (a24 : a < 24) (b24 : b < 24) (ea : N.1 i = nI a) (eb : N.2.1 i = nI b) (ha : hsN N a) (hb : hsN N b) (ed : d i = 1 + max (d a) (d b)) (el : l i = l a + l b) (qa : lyD N A a) (qb : lyD N A b)
    (e5 : A' 5 = va_up (A 5) i (1 + if A 5 b < A 5 a then A 5 a else A 5 b)) (e6 : A' 6 = va_up (A 6) i (A 6 a + A 6 b)) (e7 : A' 7 = va_up (A 7) i (A 7 a)) (e8 : A' 8 = va_up (A 8) i (A 8 b)) (e9 : ∀ s, s < 8 → A' 9 (8 * i + s) = A 9 (8 * a + s) + A 9 (8 * b + s)) : lyD N A' i := by
  have hsi : hsN N i := Or.inr hi
  have d16 := wf_d16 w h24 hsi
  have l1 := wf_l16 w a24 ha
  have l2 := wf_l16 w b24 hb
  have st := sgN_st w h24 h8 a24 b24 ea eb ha hb ed d16
  refine ⟨?_, ?_, ?_, ?_, fun s hs => ?_⟩
  · rw [e5, va_up_self, wf_dep w h24 hsi, qa.1, qb.1, wf_dep w a24 ha, wf_dep w b24 hb]
    by_cases h1 : d b < d a
    · rw [if_pos (nI_lt h1 (by omega)), show (1 : Int32) = nI 1 from rfl, nI_add, ed]
      exact congrArg nI (by omega)
    · rw [if_neg (nI_nlt (by omega) (by omega)), show (1 : Int32) = nI 1 from rfl, nI_add, ed]
      exact congrArg nI (by omega)
  · rw [e6, va_up_self, qa.2.1, qb.2.1, wf_len w h24 hsi, wf_len w a24 ha, wf_len w b24 hb, nI_add, el]
  · have c0 : (0 : Int32) < nI (l a) := nI_lt (a := 0) (by omega) (by omega)
    rw [e7, va_up_self, qa.2.2.1, st 0, if_pos c0]
  · have hn : ¬ nI (l i - 1) < nI (l a) := nI_nlt (by omega) (by omega)
    have e1 : N.2.2.2 i - 1 = nI (l i - 1) := by
      rw [wf_len w h24 hsi, show (1 : Int32) = nI 1 from rfl, nI_sub (by omega)]
    have e2 : N.2.2.2 b - 1 = nI (l i - 1) - nI (l a) := by
      rw [wf_len w b24 hb, show (1 : Int32) = nI 1 from rfl, nI_sub (by omega), nI_sub (by omega)]
      exact congrArg nI (by omega)
    rw [e8, va_up_self, qb.2.2.2.1, e1, st, if_neg hn, e2]
  · rw [e9 s hs, qa.2.2.2.2 s hs, qb.2.2.2.2 s hs, ti0_st w h8 h24 hi a24 b24 ea eb]
theorem lp_lay4 {X : xS} (w : wfN X.2.1 d l) {r : Nat} : ∀ (k i : Nat) (h : xH) (A : Nat → Nat → Int32), 8 ≤ i → i + k = 24 → isMo h m Z D A → rS (A 1) X → lyI X.2.1 d r i A →
    ∃ h' A', xf 107 98 [some (.ref m), some (.int (nI r)), some (.int (nI i))] [] h = xf 107 171 [some (.ref m), some (.int (nI r)), some (.int (nI 24))] [] h' ∧ isMo h' m Z D A' ∧ lyE A A' ∧ lyI X.2.1 d r 24 A' ∧ xFr m (m + 10) h h' := by
  intro k
  induction k with
  | zero =>
    intro i h A h8 hk q rr y
    have h2 : ¬ nI i < 24 := nI_nlt (b := 24) (by omega) (by omega)
    have hs : i = 24 := by omega
    subst hs
    refine ⟨h, A, ?_, q, lyE.rf A, y, xFr.rf⟩
    rw [u_X8_layOut_98]
    simp only [u_X8_layOut_99, u_X8_layOut_101, h2, if_false, xgo_some, xgo_none, xgoI_none, xcat_n, xcat_i, xcat_r, xcat_z, List.length_nil, List.length_cons, List.getD_cons_zero, List.getD_cons_succ, List.set_cons_zero, List.set_cons_succ, Nat.zero_le, Nat.reduceAdd, Nat.reduceLeDiff, Nat.reduceEqDiff, reduceIte]
  | succ k ih =>
    intro i h A h8 hk q rr y
    have h2 : nI i < 24 := nI_lt (b := 24) (by omega) (by omega)
    have hx : xix (nI i) 24 := xix_nI (by omega) (by decide)
    have ci := nI_clamp (show i < 2 ^ 31 by omega)
    have pp := m_isPart q rr (nI i)
    rw [hasP_nI h8 (by omega)] at pp
    rw [u_X8_layOut_98]
    by_cases hn : X.2.1.1 i = -1
    · rw [decide_eq_false (fun z => z hn)] at pp
      obtain ⟨h', A', a1, a2⟩ := ih (i + 1) h A (by omega) (by omega) q rr (lyI_sk y (fun z => absurd hn z))
      refine ⟨h', A', ?_, a2⟩
      simp only [u_X8_layOut_0, u_X8_layOut_1, u_X8_layOut_2, u_X8_layOut_3, u_X8_layOut_5, u_X8_layOut_8, u_X8_layOut_9, u_X8_layOut_12, u_X8_layOut_13, u_X8_layOut_14, u_X8_layOut_16, u_X8_layOut_19, u_X8_layOut_20, u_X8_layOut_23, u_X8_layOut_24, u_X8_layOut_25, u_X8_layOut_26, u_X8_layOut_29, u_X8_layOut_30, u_X8_layOut_31, u_X8_layOut_32, u_X8_layOut_33, u_X8_layOut_36, u_X8_layOut_37, u_X8_layOut_38, u_X8_layOut_39, u_X8_layOut_40, u_X8_layOut_43, u_X8_layOut_44, u_X8_layOut_45, u_X8_layOut_46, u_X8_layOut_47, u_X8_layOut_48, u_X8_layOut_49, u_X8_layOut_51, u_X8_layOut_54, u_X8_layOut_55, u_X8_layOut_58, u_X8_layOut_60, u_X8_layOut_61, u_X8_layOut_62, u_X8_layOut_63, u_X8_layOut_64, u_X8_layOut_65, u_X8_layOut_66, u_X8_layOut_69, u_X8_layOut_70, u_X8_layOut_73, u_X8_layOut_74, u_X8_layOut_75, u_X8_layOut_78, u_X8_layOut_81, u_X8_layOut_84, u_X8_layOut_87, u_X8_layOut_88, u_X8_layOut_90, u_X8_layOut_92, u_X8_layOut_95, u_X8_layOut_97, u_X8_layOut_99, u_X8_layOut_101, u_X8_layOut_104, u_X8_layOut_105, u_X8_layOut_106, u_X8_layOut_109, u_X8_layOut_112, u_X8_layOut_113, u_X8_layOut_116, u_X8_layOut_117, u_X8_layOut_118, u_X8_layOut_119, u_X8_layOut_122, u_X8_layOut_123, u_X8_layOut_126, u_X8_layOut_127, u_X8_layOut_128, u_X8_layOut_131, u_X8_layOut_132, u_X8_layOut_133, u_X8_layOut_136, u_X8_layOut_137, u_X8_layOut_140, u_X8_layOut_141, u_X8_layOut_142, u_X8_layOut_145, u_X8_layOut_146, u_X8_layOut_147, u_X8_layOut_150, u_X8_layOut_151, u_X8_layOut_152, u_X8_layOut_153, u_X8_layOut_154, u_X8_layOut_157, u_X8_layOut_158, u_X8_layOut_159, u_X8_layOut_162, u_X8_layOut_165, u_X8_layOut_168, u_X8_layOut_174, u_X8_layOut_177, h2, q.ob, pp, b32_f, nI_of1, if_true, xgo_some, xgo_none, xgoI_none, xcat_n, xcat_i, xcat_r, xcat_z, List.length_nil, List.length_cons, List.getD_cons_zero, List.getD_cons_succ, List.set_cons_zero, List.set_cons_succ, Nat.zero_le, Nat.reduceAdd, Nat.reduceLeDiff, Nat.reduceEqDiff, reduceIte]
      exact a1
    · rw [decide_eq_true hn] at pp
      by_cases h5 : A 5 i = -1
      · obtain ⟨p1, p2, a, b, a24, b24, ea, eb, ha, hb, ed, el⟩ := w.2.2 i h8 (by omega) hn
        have f1 := m_first q rr h8 (by omega) hn
        have f2 := m_second q rr h8 (by omega) hn
        rw [ea] at f1
        rw [eb] at f2
        have hxa : xix (nI a) 24 := xix_nI a24 (by decide)
        have hxb : xix (nI b) 24 := xix_nI b24 (by decide)
        have ca := nI_clamp (show a < 2 ^ 31 by omega)
        have cb := nI_clamp (show b < 2 ^ 31 by omega)
        by_cases h6 : A 5 a = -1
        · have := lyI_dp w y a24 ha h6
          obtain ⟨h', A', a1, a2⟩ := ih (i + 1) h A (by omega) (by omega) q rr (lyI_sk y (fun _ z => by omega))
          refine ⟨h', A', ?_, a2⟩
          simp only [u_X8_layOut_0, u_X8_layOut_1, u_X8_layOut_2, u_X8_layOut_3, u_X8_layOut_5, u_X8_layOut_8, u_X8_layOut_9, u_X8_layOut_12, u_X8_layOut_13, u_X8_layOut_14, u_X8_layOut_16, u_X8_layOut_19, u_X8_layOut_20, u_X8_layOut_23, u_X8_layOut_24, u_X8_layOut_25, u_X8_layOut_26, u_X8_layOut_29, u_X8_layOut_30, u_X8_layOut_31, u_X8_layOut_32, u_X8_layOut_33, u_X8_layOut_36, u_X8_layOut_37, u_X8_layOut_38, u_X8_layOut_39, u_X8_layOut_40, u_X8_layOut_43, u_X8_layOut_44, u_X8_layOut_45, u_X8_layOut_46, u_X8_layOut_47, u_X8_layOut_48, u_X8_layOut_49, u_X8_layOut_51, u_X8_layOut_54, u_X8_layOut_55, u_X8_layOut_58, u_X8_layOut_60, u_X8_layOut_61, u_X8_layOut_62, u_X8_layOut_63, u_X8_layOut_64, u_X8_layOut_65, u_X8_layOut_66, u_X8_layOut_69, u_X8_layOut_70, u_X8_layOut_73, u_X8_layOut_74, u_X8_layOut_75, u_X8_layOut_78, u_X8_layOut_81, u_X8_layOut_84, u_X8_layOut_87, u_X8_layOut_88, u_X8_layOut_90, u_X8_layOut_92, u_X8_layOut_95, u_X8_layOut_97, u_X8_layOut_99, u_X8_layOut_101, u_X8_layOut_104, u_X8_layOut_105, u_X8_layOut_106, u_X8_layOut_109, u_X8_layOut_112, u_X8_layOut_113, u_X8_layOut_116, u_X8_layOut_117, u_X8_layOut_118, u_X8_layOut_119, u_X8_layOut_122, u_X8_layOut_123, u_X8_layOut_126, u_X8_layOut_127, u_X8_layOut_128, u_X8_layOut_131, u_X8_layOut_132, u_X8_layOut_133, u_X8_layOut_136, u_X8_layOut_137, u_X8_layOut_140, u_X8_layOut_141, u_X8_layOut_142, u_X8_layOut_145, u_X8_layOut_146, u_X8_layOut_147, u_X8_layOut_150, u_X8_layOut_151, u_X8_layOut_152, u_X8_layOut_153, u_X8_layOut_154, u_X8_layOut_157, u_X8_layOut_158, u_X8_layOut_159, u_X8_layOut_162, u_X8_layOut_165, u_X8_layOut_168, u_X8_layOut_174, u_X8_layOut_177, h2, q.ob, q.a5, pp, b32_t, i10, hx, ci, h5, f1, hxa, ca, h6, nI_of1, if_true, if_false, xgo_some, xgo_none, xgoI_none, xcat_n, xcat_i, xcat_r, xcat_z, List.length_nil, List.length_cons, List.getD_cons_zero, List.getD_cons_succ, List.set_cons_zero, List.set_cons_succ, Nat.zero_le, Nat.reduceAdd, Nat.reduceLeDiff, Nat.reduceEqDiff, reduceIte]
          exact a1
        · by_cases h7 : A 5 b = -1
          · have := lyI_dp w y b24 hb h7
            obtain ⟨h', A', a1, a2⟩ := ih (i + 1) h A (by omega) (by omega) q rr (lyI_sk y (fun _ z => by omega))
            refine ⟨h', A', ?_, a2⟩
            simp only [u_X8_layOut_0, u_X8_layOut_1, u_X8_layOut_2, u_X8_layOut_3, u_X8_layOut_5, u_X8_layOut_8, u_X8_layOut_9, u_X8_layOut_12, u_X8_layOut_13, u_X8_layOut_14, u_X8_layOut_16, u_X8_layOut_19, u_X8_layOut_20, u_X8_layOut_23, u_X8_layOut_24, u_X8_layOut_25, u_X8_layOut_26, u_X8_layOut_29, u_X8_layOut_30, u_X8_layOut_31, u_X8_layOut_32, u_X8_layOut_33, u_X8_layOut_36, u_X8_layOut_37, u_X8_layOut_38, u_X8_layOut_39, u_X8_layOut_40, u_X8_layOut_43, u_X8_layOut_44, u_X8_layOut_45, u_X8_layOut_46, u_X8_layOut_47, u_X8_layOut_48, u_X8_layOut_49, u_X8_layOut_51, u_X8_layOut_54, u_X8_layOut_55, u_X8_layOut_58, u_X8_layOut_60, u_X8_layOut_61, u_X8_layOut_62, u_X8_layOut_63, u_X8_layOut_64, u_X8_layOut_65, u_X8_layOut_66, u_X8_layOut_69, u_X8_layOut_70, u_X8_layOut_73, u_X8_layOut_74, u_X8_layOut_75, u_X8_layOut_78, u_X8_layOut_81, u_X8_layOut_84, u_X8_layOut_87, u_X8_layOut_88, u_X8_layOut_90, u_X8_layOut_92, u_X8_layOut_95, u_X8_layOut_97, u_X8_layOut_99, u_X8_layOut_101, u_X8_layOut_104, u_X8_layOut_105, u_X8_layOut_106, u_X8_layOut_109, u_X8_layOut_112, u_X8_layOut_113, u_X8_layOut_116, u_X8_layOut_117, u_X8_layOut_118, u_X8_layOut_119, u_X8_layOut_122, u_X8_layOut_123, u_X8_layOut_126, u_X8_layOut_127, u_X8_layOut_128, u_X8_layOut_131, u_X8_layOut_132, u_X8_layOut_133, u_X8_layOut_136, u_X8_layOut_137, u_X8_layOut_140, u_X8_layOut_141, u_X8_layOut_142, u_X8_layOut_145, u_X8_layOut_146, u_X8_layOut_147, u_X8_layOut_150, u_X8_layOut_151, u_X8_layOut_152, u_X8_layOut_153, u_X8_layOut_154, u_X8_layOut_157, u_X8_layOut_158, u_X8_layOut_159, u_X8_layOut_162, u_X8_layOut_165, u_X8_layOut_168, u_X8_layOut_174, u_X8_layOut_177, h2, q.ob, q.a5, pp, b32_t, i10, hx, ci, h5, f1, hxa, ca, h6, f2, hxb, cb, h7, nI_of1, if_true, if_false, xgo_some, xgo_none, xgoI_none, xcat_n, xcat_i, xcat_r, xcat_z, List.length_nil, List.length_cons, List.getD_cons_zero, List.getD_cons_succ, List.set_cons_zero, List.set_cons_succ, Nat.zero_le, Nat.reduceAdd, Nat.reduceLeDiff, Nat.reduceEqDiff, reduceIte]
            exact a1
          · have na : a ≠ i := fun z => by rw [z] at ed; omega
            have nb : b ≠ i := fun z => by rw [z] at ed; omega
            obtain ⟨h1, A1, c1, c2, c3, e5, e6, e7, e8, e9, e10, c4⟩ := m_layOne (show i < 24 by omega) a24 b24 na nb q
            have yi := lyD_in w h8 (by omega) hn a24 b24 ea eb ha hb ed el (lyI_ld w y a24 ha h6) (lyI_ld w y b24 hb h7) e5 e6 e7 e8 e9
            have y1 : lyI X.2.1 d r (i + 1) A1 := by
              refine ⟨fun k hk => lyD_cg (by omega) e5 e6 e7 e8 e10 (y.1 k hk), fun k k8 k24 hk => ?_, fun k k8 k24 hk hd => ?_⟩
              · by_cases e : k = i
                · subst e; exact Or.inl yi
                · rcases y.2.1 k k8 k24 hk with z | z
                  · exact Or.inl (lyD_cg e e5 e6 e7 e8 e10 z)
                  · exact Or.inr (by rw [e5, va_up_ne _ _ e]; exact z)
              · by_cases e : k = i
                · subst e; exact yi
                · exact lyD_cg e e5 e6 e7 e8 e10 (y.2.2 k k8 k24 hk (by omega))
            obtain ⟨h', A', a1, a2, a3, a4, a5⟩ := ih (i + 1) h1 A1 (by omega) (by omega) c2 (by rw [c3 1 (by decide)]; exact rr) y1
            refine ⟨h', A', ?_, a2, c3.tr a3, a4, c4.tr a5⟩
            simp only [u_X8_layOut_0, u_X8_layOut_1, u_X8_layOut_2, u_X8_layOut_3, u_X8_layOut_5, u_X8_layOut_8, u_X8_layOut_9, u_X8_layOut_12, u_X8_layOut_13, u_X8_layOut_14, u_X8_layOut_16, u_X8_layOut_19, u_X8_layOut_20, u_X8_layOut_23, u_X8_layOut_24, u_X8_layOut_25, u_X8_layOut_26, u_X8_layOut_29, u_X8_layOut_30, u_X8_layOut_31, u_X8_layOut_32, u_X8_layOut_33, u_X8_layOut_36, u_X8_layOut_37, u_X8_layOut_38, u_X8_layOut_39, u_X8_layOut_40, u_X8_layOut_43, u_X8_layOut_44, u_X8_layOut_45, u_X8_layOut_46, u_X8_layOut_47, u_X8_layOut_48, u_X8_layOut_49, u_X8_layOut_51, u_X8_layOut_54, u_X8_layOut_55, u_X8_layOut_58, u_X8_layOut_60, u_X8_layOut_61, u_X8_layOut_62, u_X8_layOut_63, u_X8_layOut_64, u_X8_layOut_65, u_X8_layOut_66, u_X8_layOut_69, u_X8_layOut_70, u_X8_layOut_73, u_X8_layOut_74, u_X8_layOut_75, u_X8_layOut_78, u_X8_layOut_81, u_X8_layOut_84, u_X8_layOut_87, u_X8_layOut_88, u_X8_layOut_90, u_X8_layOut_92, u_X8_layOut_95, u_X8_layOut_97, u_X8_layOut_99, u_X8_layOut_101, u_X8_layOut_104, u_X8_layOut_105, u_X8_layOut_106, u_X8_layOut_109, u_X8_layOut_112, u_X8_layOut_113, u_X8_layOut_116, u_X8_layOut_117, u_X8_layOut_118, u_X8_layOut_119, u_X8_layOut_122, u_X8_layOut_123, u_X8_layOut_126, u_X8_layOut_127, u_X8_layOut_128, u_X8_layOut_131, u_X8_layOut_132, u_X8_layOut_133, u_X8_layOut_136, u_X8_layOut_137, u_X8_layOut_140, u_X8_layOut_141, u_X8_layOut_142, u_X8_layOut_145, u_X8_layOut_146, u_X8_layOut_147, u_X8_layOut_150, u_X8_layOut_151, u_X8_layOut_152, u_X8_layOut_153, u_X8_layOut_154, u_X8_layOut_157, u_X8_layOut_158, u_X8_layOut_159, u_X8_layOut_162, u_X8_layOut_165, u_X8_layOut_168, u_X8_layOut_174, u_X8_layOut_177, h2, q.ob, q.a5, pp, b32_t, i10, hx, ci, h5, f1, hxa, ca, h6, f2, hxb, cb, h7, c1, nI_of1, if_true, if_false, xgo_some, xgo_none, xgoI_none, xcat_n, xcat_i, xcat_r, xcat_z, List.length_nil, List.length_cons, List.getD_cons_zero, List.getD_cons_succ, List.set_cons_zero, List.set_cons_succ, Nat.zero_le, Nat.reduceAdd, Nat.reduceLeDiff, Nat.reduceEqDiff, reduceIte]
            exact a1
      · have yl := (y.2.1 i h8 (by omega) hn).elim id (fun z => absurd z h5)
        obtain ⟨h', A', a1, a2⟩ := ih (i + 1) h A (by omega) (by omega) q rr (lyI_sk y (fun _ _ => yl))
        refine ⟨h', A', ?_, a2⟩
        simp only [u_X8_layOut_0, u_X8_layOut_1, u_X8_layOut_2, u_X8_layOut_3, u_X8_layOut_5, u_X8_layOut_8, u_X8_layOut_9, u_X8_layOut_12, u_X8_layOut_13, u_X8_layOut_14, u_X8_layOut_16, u_X8_layOut_19, u_X8_layOut_20, u_X8_layOut_23, u_X8_layOut_24, u_X8_layOut_25, u_X8_layOut_26, u_X8_layOut_29, u_X8_layOut_30, u_X8_layOut_31, u_X8_layOut_32, u_X8_layOut_33, u_X8_layOut_36, u_X8_layOut_37, u_X8_layOut_38, u_X8_layOut_39, u_X8_layOut_40, u_X8_layOut_43, u_X8_layOut_44, u_X8_layOut_45, u_X8_layOut_46, u_X8_layOut_47, u_X8_layOut_48, u_X8_layOut_49, u_X8_layOut_51, u_X8_layOut_54, u_X8_layOut_55, u_X8_layOut_58, u_X8_layOut_60, u_X8_layOut_61, u_X8_layOut_62, u_X8_layOut_63, u_X8_layOut_64, u_X8_layOut_65, u_X8_layOut_66, u_X8_layOut_69, u_X8_layOut_70, u_X8_layOut_73, u_X8_layOut_74, u_X8_layOut_75, u_X8_layOut_78, u_X8_layOut_81, u_X8_layOut_84, u_X8_layOut_87, u_X8_layOut_88, u_X8_layOut_90, u_X8_layOut_92, u_X8_layOut_95, u_X8_layOut_97, u_X8_layOut_99, u_X8_layOut_101, u_X8_layOut_104, u_X8_layOut_105, u_X8_layOut_106, u_X8_layOut_109, u_X8_layOut_112, u_X8_layOut_113, u_X8_layOut_116, u_X8_layOut_117, u_X8_layOut_118, u_X8_layOut_119, u_X8_layOut_122, u_X8_layOut_123, u_X8_layOut_126, u_X8_layOut_127, u_X8_layOut_128, u_X8_layOut_131, u_X8_layOut_132, u_X8_layOut_133, u_X8_layOut_136, u_X8_layOut_137, u_X8_layOut_140, u_X8_layOut_141, u_X8_layOut_142, u_X8_layOut_145, u_X8_layOut_146, u_X8_layOut_147, u_X8_layOut_150, u_X8_layOut_151, u_X8_layOut_152, u_X8_layOut_153, u_X8_layOut_154, u_X8_layOut_157, u_X8_layOut_158, u_X8_layOut_159, u_X8_layOut_162, u_X8_layOut_165, u_X8_layOut_168, u_X8_layOut_174, u_X8_layOut_177, h2, q.ob, q.a5, pp, b32_t, i10, hx, ci, h5, nI_of1, if_true, if_false, xgo_some, xgo_none, xgoI_none, xcat_n, xcat_i, xcat_r, xcat_z, List.length_nil, List.length_cons, List.getD_cons_zero, List.getD_cons_succ, List.set_cons_zero, List.set_cons_succ, Nat.zero_le, Nat.reduceAdd, Nat.reduceLeDiff, Nat.reduceEqDiff, reduceIte]
        exact a1
theorem lp_lay5 {X : xS} (w : wfN X.2.1 d l) : ∀ (k r : Nat) (h : xH) (A : Nat → Nat → Int32) (l2 : Option Value), r + k = 16 → isMo h m Z D A → rS (A 1) X → lyI X.2.1 d r 8 A →
    ∃ h' A', xf 107 89 [some (.ref m), some (.int (nI r)), l2] [] h = some (.inl none, h') ∧ isMo h' m Z D A' ∧ lyE A A' ∧ lyI X.2.1 d 16 8 A' ∧ xFr m (m + 10) h h' := by
  intro k
  induction k with
  | zero =>
    intro r h A l2 hk q rr y
    have h2 : ¬ nI r < 16 := nI_nlt (b := 16) (by omega) (by omega)
    have hs : r = 16 := by omega
    subst hs
    refine ⟨h, A, ?_, q, lyE.rf A, y, xFr.rf⟩
    rw [u_X8_layOut_89]
    simp only [u_X8_layOut_90, u_X8_layOut_92, u_X8_layOut_177, h2, if_false, xgo_some, xgo_none, xgoI_none, xcat_n, xcat_i, xcat_r, xcat_z, List.length_nil, List.length_cons, List.getD_cons_zero, List.getD_cons_succ, List.set_cons_zero, List.set_cons_succ, Nat.zero_le, Nat.reduceAdd, Nat.reduceLeDiff, Nat.reduceEqDiff, reduceIte]
  | succ k ih =>
    intro r h A l2 hk q rr y
    have h2 : nI r < 16 := nI_lt (b := 16) (by omega) (by omega)
    obtain ⟨h1, A1, a1, a2, a3, a4, a5⟩ := lp_lay4 w 16 8 h A (Nat.le_refl _) rfl q rr y
    obtain ⟨h', A', b1, b2, b3, b4, b5⟩ := ih (r + 1) h1 A1 (some (.int (nI 24))) (by omega) a2 (by rw [a3 1 (by decide)]; exact rr) (lyI_nx a4)
    refine ⟨h', A', ?_, b2, a3.tr b3, b4, a5.tr b5⟩
    rw [u_X8_layOut_89]
    simp only [u_X8_layOut_90, u_X8_layOut_92, u_X8_layOut_95, u_X8_layOut_97, h2, if_true, xgo_some, xgo_none, xgoI_none, xcat_n, xcat_i, xcat_r, xcat_z, List.length_nil, List.length_cons, List.getD_cons_zero, List.getD_cons_succ, List.set_cons_zero, List.set_cons_succ, Nat.zero_le, Nat.reduceAdd, Nat.reduceLeDiff, Nat.reduceEqDiff, reduceIte]
    rw [show (8 : Int32) = nI 8 from rfl, a1]
    simp only [u_X8_layOut_171, u_X8_layOut_174, nI_of1, xgo_some, xgo_none, xgoI_none, xcat_n, xcat_i, xcat_r, xcat_z, List.length_nil, List.length_cons, List.getD_cons_zero, List.getD_cons_succ, List.set_cons_zero, List.set_cons_succ, Nat.zero_le, Nat.reduceAdd, Nat.reduceLeDiff, Nat.reduceEqDiff, reduceIte]
    exact b1
def lyA (N : xNs) (A : Nat → Nat → Int32) : Prop := ∀ k, k < 24 → hsN N k → lyD N A k
theorem m_layOut {h : xH} {A : Nat → Nat → Int32} {X : xS} (q : isMo h m Z D A) (rr : rS (A 1) X) (w : wfN X.2.1 d l) :
    ∃ h' A', xev 107 [.ref m] h = some (.inl none, h') ∧ isMo h' m Z D A' ∧ lyE A A' ∧ lyA X.2.1 A' ∧ xFr m (m + 10) h h' := by
  obtain ⟨h1, A1, l2, a1, a2, a3, a4, a5⟩ := lp_lay2 24 0 h A none rfl q
  obtain ⟨h', A', b1, b2, b3, b4, b5⟩ := lp_lay5 w 16 0 h1 A1 l2 rfl a2 (by rw [a3 1 (by decide)]; exact rr) (lyI_0 w a4)
  refine ⟨h', A', ?_, b2, a3.tr b3, fun k h24 hs => ?_, a5.tr b5⟩
  · rw [e_X8_layOut]
    simp only [u_X8_layOut_0, u_X8_layOut_1, xgo_some, xgo_none, xgoI_none, xcat_n, xcat_i, xcat_r, xcat_z, List.length_nil, List.length_cons, List.getD_cons_zero, List.getD_cons_succ, List.set_cons_zero, List.set_cons_succ, Nat.zero_le, Nat.reduceAdd, Nat.reduceLeDiff, Nat.reduceEqDiff, reduceIte]
    rw [show (0 : Int32) = nI 0 from rfl, a1]
    simp only [u_X8_layOut_87, u_X8_layOut_88, xgo_some, xgo_none, xgoI_none, xcat_n, xcat_i, xcat_r, xcat_z, List.length_nil, List.length_cons, List.getD_cons_zero, List.getD_cons_succ, List.set_cons_zero, List.set_cons_succ, Nat.zero_le, Nat.reduceAdd, Nat.reduceLeDiff, Nat.reduceEqDiff, reduceIte]
    exact b1
  · by_cases h8 : k < 8
    · exact b4.1 k h8
    · exact b4.2.2 k (by omega) h24 (hs.elim (fun z => absurd z h8) id) (Or.inl (wf_d16 w h24 hs))
end LZ
