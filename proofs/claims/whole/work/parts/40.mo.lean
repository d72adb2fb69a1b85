/-! The model: its object, and what only reads. -/
section MO
variable {h : xH} {m : Nat}
def szM : Nat → Nat
  | 1 => 117
  | 2 => 117
  | 3 => 702
  | 4 => 60
  | 5 => 24
  | 6 => 24
  | 7 => 24
  | 8 => 24
  | 9 => 192
  | _ => 0
def moL (m : Nat) (Z : Nat → Int32) (D : Int64) : List Value := [.int (Z 0), .ref (m + 1), .ref (m + 2), .ref (m + 3), .int (Z 4), .ref (m + 4), .int (Z 6), .ref (m + 5), .ref (m + 6), .ref (m + 7), .ref (m + 8), .ref (m + 9), .int (Z 12), .int (Z 13), .int (Z 14), .int (Z 15), .int (Z 16), .int (Z 17), .int (Z 18), .long D]
def isMo (h : xH) (m : Nat) (Z : Nat → Int32) (D : Int64) (A : Nat → Nat → Int32) : Prop := h.1 m = some (.inr (8, moL m Z D)) ∧ ∀ k, 1 ≤ k → k ≤ 9 → h.1 (m + k) = some (.inl (0, szM k, .inl (A k)))
section
variable {Z : Nat → Int32} {D : Int64} {A : Nat → Nat → Int32}
theorem isMo.ob (q : isMo h m Z D A) : xob h m = (8, [.int (Z 0), .ref (m + 1), .ref (m + 2), .ref (m + 3), .int (Z 4), .ref (m + 4), .int (Z 6), .ref (m + 5), .ref (m + 6), .ref (m + 7), .ref (m + 8), .ref (m + 9), .int (Z 12), .int (Z 13), .int (Z 14), .int (Z 15), .int (Z 16), .int (Z 17), .int (Z 18), .long D]) := ob_of q.1 rfl
theorem isMo.ai (q : isMo h m Z D A) {k : Nat} (h1 : 1 ≤ k) (h2 : k ≤ 9) : xai h (m + k) = (szM k, A k) := by
  unfold xai
  rw [q.2 k h1 h2]
  rfl
theorem isMo.a1 (q : isMo h m Z D A) : xai h (m + 1) = (117, A 1) := q.ai (by decide) (by decide)
theorem isMo.a2 (q : isMo h m Z D A) : xai h (m + 2) = (117, A 2) := q.ai (by decide) (by decide)
theorem isMo.a3 (q : isMo h m Z D A) : xai h (m + 3) = (702, A 3) := q.ai (by decide) (by decide)
theorem isMo.a4 (q : isMo h m Z D A) : xai h (m + 4) = (60, A 4) := q.ai (by decide) (by decide)
theorem isMo.a5 (q : isMo h m Z D A) : xai h (m + 5) = (24, A 5) := q.ai (by decide) (by decide)
theorem isMo.a6 (q : isMo h m Z D A) : xai h (m + 6) = (24, A 6) := q.ai (by decide) (by decide)
theorem isMo.a7 (q : isMo h m Z D A) : xai h (m + 7) = (24, A 7) := q.ai (by decide) (by decide)
theorem isMo.a8 (q : isMo h m Z D A) : xai h (m + 8) = (24, A 8) := q.ai (by decide) (by decide)
theorem isMo.a9 (q : isMo h m Z D A) : xai h (m + 9) = (192, A 9) := q.ai (by decide) (by decide)
theorem mo_w (q : isMo h m Z D A) {k : Nat} (h1 : 1 ≤ k) (h2 : k ≤ 9) (i : Nat) (v : Int32) : isMo (xsi h (m + k) i v) m Z D (va_up A k (va_up (A k) i v)) := by
  unfold xsi
  rw [q.ai h1 h2]
  refine ⟨by rw [xup_ne _ _ (by omega)]; exact q.1, fun j j1 j2 => ?_⟩
  by_cases e : j = k
  · subst e; rw [va_up_self]; exact xup_at _ _ _
  · rw [va_up_ne _ _ e, xup_ne _ _ (by omega)]; exact q.2 j j1 j2
theorem mo_z {k : Nat} (q : isMo h m Z D A) (v : Int32) (e : (moL m Z D).set k (.int v) = moL m (va_up Z k v) D) : isMo (xso h m k (.int v)) m (va_up Z k v) D A := by
  unfold xso
  rw [ob_of q.1 rfl]
  refine ⟨by rw [← e]; exact xup_at _ _ _, fun j j1 j2 => ?_⟩
  rw [xup_ne _ _ (by omega)]; exact q.2 j j1 j2
theorem mo_z0 (q : isMo h m Z D A) (v : Int32) : isMo (xso h m 0 (.int v)) m (va_up Z 0 v) D A := mo_z q v rfl
theorem mo_z4 (q : isMo h m Z D A) (v : Int32) : isMo (xso h m 4 (.int v)) m (va_up Z 4 v) D A := mo_z q v rfl
theorem mo_z6 (q : isMo h m Z D A) (v : Int32) : isMo (xso h m 6 (.int v)) m (va_up Z 6 v) D A := mo_z q v rfl
theorem mo_z12 (q : isMo h m Z D A) (v : Int32) : isMo (xso h m 12 (.int v)) m (va_up Z 12 v) D A := mo_z q v rfl
theorem mo_z13 (q : isMo h m Z D A) (v : Int32) : isMo (xso h m 13 (.int v)) m (va_up Z 13 v) D A := mo_z q v rfl
theorem mo_z14 (q : isMo h m Z D A) (v : Int32) : isMo (xso h m 14 (.int v)) m (va_up Z 14 v) D A := mo_z q v rfl
theorem mo_z15 (q : isMo h m Z D A) (v : Int32) : isMo (xso h m 15 (.int v)) m (va_up Z 15 v) D A := mo_z q v rfl
theorem mo_z16 (q : isMo h m Z D A) (v : Int32) : isMo (xso h m 16 (.int v)) m (va_up Z 16 v) D A := mo_z q v rfl
theorem mo_z17 (q : isMo h m Z D A) (v : Int32) : isMo (xso h m 17 (.int v)) m (va_up Z 17 v) D A := mo_z q v rfl
theorem mo_z18 (q : isMo h m Z D A) (v : Int32) : isMo (xso h m 18 (.int v)) m (va_up Z 18 v) D A := mo_z q v rfl
theorem mo_D (q : isMo h m Z D A) (v : Int64) : isMo (xso h m 19 (.long v)) m Z v A := by
  unfold xso
  rw [ob_of q.1 rfl]
  refine ⟨xup_at _ _ _, fun j j1 j2 => ?_⟩
  rw [xup_ne _ _ (by omega)]; exact q.2 j j1 j2
end
/-- the row of numbers, and what it means -/
def rS (s : Nat → Int32) (X : xS) : Prop := s 0 = nI X.1.length ∧ X.1.length ≤ 64 ∧ (∀ i, i < X.1.length → s (1 + i) = gd X.1 i) ∧ (∀ k, 8 ≤ k → k < 24 → s (57 + k) = (if X.2.1.1 k = -1 then 0 else 1) ∧ (X.2.1.1 k ≠ -1 → s (73 + k) = X.2.1.1 k ∧ s (89 + k) = X.2.1.2.1 k)) ∧ s 113 = X.2.2.1 ∧ s 114 = X.2.2.2.1 ∧ s 115 = X.2.2.2.2.1 ∧ s 116 = X.2.2.2.2.2
theorem m_in (v lo hi : Int32) : xev 99 [.int v, .int lo, .int hi] h = some (.inl (some (.int (if ¬ v < lo ∧ ¬ hi < v then 1 else 0))), h) := by
  rw [e_X8_in]
  by_cases h1 : v < lo
  · rw [if_neg (fun z => z.1 h1)]
    simp only [u_X8_in_0, u_X8_in_1, u_X8_in_2, u_X8_in_5, u_X8_in_6, u_X8_in_7, u_X8_in_10, u_X8_in_11, u_X8_in_14, u_X8_in_15, h1, if_true, true_or, xgo_some, xgo_none, xgoI_none, xcat_n, xcat_i, xcat_r, xcat_z, List.length_nil, List.length_cons, List.getD_cons_zero, List.getD_cons_succ, List.set_cons_zero, List.set_cons_succ, Nat.zero_le, Nat.reduceAdd, Nat.reduceLeDiff, Nat.reduceEqDiff, reduceIte]
  · by_cases h2 : hi < v
    · rw [if_neg (fun z => z.2 h2)]
      simp only [u_X8_in_0, u_X8_in_1, u_X8_in_2, u_X8_in_5, u_X8_in_6, u_X8_in_7, u_X8_in_10, u_X8_in_11, u_X8_in_14, u_X8_in_15, h1, h2, if_true, if_false, true_or, xgo_some, xgo_none, xgoI_none, xcat_n, xcat_i, xcat_r, xcat_z, List.length_nil, List.length_cons, List.getD_cons_zero, List.getD_cons_succ, List.set_cons_zero, List.set_cons_succ, Nat.zero_le, Nat.reduceAdd, Nat.reduceLeDiff, Nat.reduceEqDiff, reduceIte]
    · rw [if_pos ⟨h1, h2⟩]
      simp only [u_X8_in_0, u_X8_in_1, u_X8_in_2, u_X8_in_5, u_X8_in_6, u_X8_in_7, u_X8_in_10, u_X8_in_11, u_X8_in_14, u_X8_in_15, h1, h2, if_false, or_true, xgo_some, xgo_none, xgoI_none, xcat_n, xcat_i, xcat_r, xcat_z, List.length_nil, List.length_cons, List.getD_cons_zero, List.getD_cons_succ, List.set_cons_zero, List.set_cons_succ, Nat.zero_le, Nat.reduceAdd, Nat.reduceLeDiff, Nat.reduceEqDiff, reduceIte]
variable {Z : Nat → Int32} {D : Int64} {A : Nat → Nat → Int32} {X : xS}
theorem nI_ix (c k : Nat) (hk : 8 ≤ k) (hc : 8 ≤ c) : nI c + nI k - 8 = nI (c - 8 + k) := by
  rw [nI_add, show (8 : Int32) = nI 8 from rfl, nI_sub (by omega), show c + k - 8 = c - 8 + k by omega]
theorem m_isPart (q : isMo h m Z D A) (r : rS (A 1) X) (p : Int32) : xev 104 [.ref m, .int p] h = some (.inl (some (.int (b32 (hasP X.2.1.1 p)))), h) := by
  have p1 := m_in (h := h) p 0 7
  have p2 := m_in (h := h) p 8 23
  rw [e_X8_isPart]
  unfold hasP
  by_cases h8 : p < 8
  · rw [if_pos h8]
    by_cases h0 : p < 0
    · rw [if_neg (fun z => z.1 h0)] at p1
      rw [if_neg (fun z => z.1 h8)] at p2
      simp only [u_X8_isPart_0, u_X8_isPart_1, u_X8_isPart_2, u_X8_isPart_4, u_X8_isPart_7, u_X8_isPart_10, u_X8_isPart_11, u_X8_isPart_13, u_X8_isPart_15, u_X8_isPart_18, u_X8_isPart_21, u_X8_isPart_22, u_X8_isPart_25, u_X8_isPart_27, u_X8_isPart_28, u_X8_isPart_29, u_X8_isPart_31, u_X8_isPart_32, u_X8_isPart_33, u_X8_isPart_34, u_X8_isPart_37, u_X8_isPart_38, u_X8_isPart_41, u_X8_isPart_42, p1, p2, h0, if_true, not_true, decide_false, b32_f, true_or, xgo_some, xgo_none, xgoI_none, xcat_n, xcat_i, xcat_r, xcat_z, List.length_nil, List.length_cons, List.getD_cons_zero, List.getD_cons_succ, List.set_cons_zero, List.set_cons_succ, Nat.zero_le, Nat.reduceAdd, Nat.reduceLeDiff, Nat.reduceEqDiff, reduceIte]
    · have h7 : ¬ (7 : Int32) < p := by
        obtain ⟨k, k1, k2⟩ := nI_of h0
        have k3 : k < 8 := by rw [k2] at h8; exact (nI_ltI (b := 8) k1 (by omega)).mp h8
        rw [k2]
        exact nI_nlt (a := 7) (by omega) (by omega)
      rw [if_pos ⟨h0, h7⟩] at p1
      simp only [u_X8_isPart_0, u_X8_isPart_1, u_X8_isPart_2, u_X8_isPart_4, u_X8_isPart_7, u_X8_isPart_10, u_X8_isPart_11, u_X8_isPart_13, u_X8_isPart_15, u_X8_isPart_18, u_X8_isPart_21, u_X8_isPart_22, u_X8_isPart_25, u_X8_isPart_27, u_X8_isPart_28, u_X8_isPart_29, u_X8_isPart_31, u_X8_isPart_32, u_X8_isPart_33, u_X8_isPart_34, u_X8_isPart_37, u_X8_isPart_38, u_X8_isPart_41, u_X8_isPart_42, p1, h0, i10, if_false, not_false_eq_true, decide_true, b32_t, or_true, xgo_some, xgo_none, xgoI_none, xcat_n, xcat_i, xcat_r, xcat_z, List.length_nil, List.length_cons, List.getD_cons_zero, List.getD_cons_succ, List.set_cons_zero, List.set_cons_succ, Nat.zero_le, Nat.reduceAdd, Nat.reduceLeDiff, Nat.reduceEqDiff, reduceIte]
  · rw [if_neg h8]
    have h0 : ¬ p < 0 := fun z => h8 (Int32.lt_trans z (by decide))
    obtain ⟨k, k1, k2⟩ := nI_of h0
    have k3 : 8 ≤ k := by
      apply Nat.le_of_not_lt
      intro z
      exact h8 (by rw [k2]; exact nI_lt (b := 8) z (by omega))
    have h7 : (7 : Int32) < p := by rw [k2]; exact nI_lt (a := 7) (by omega) k1
    rw [if_neg (fun z => z.2 h7)] at p1
    by_cases h23 : k < 24
    · have h6 : ¬ (23 : Int32) < p := by rw [k2]; exact nI_nlt (a := 23) (by omega) (by omega)
      rw [if_pos ⟨h8, h6⟩] at p2
      have hx : xix (nI (57 + k)) 117 := xix_nI (by omega) (by decide)
      have ei : (65 : Int32) + p - 8 = nI (57 + k) := by rw [k2]; exact nI_ix 65 k k3 (by omega)
      have es := (r.2.2.2.1 k k3 h23).1
      rw [k2, clAt_nI h23 (by decide)]
      rw [k2] at p1 p2 ei
      by_cases h1 : X.2.1.1 k = -1
      · rw [if_pos h1] at es
        simp only [u_X8_isPart_0, u_X8_isPart_1, u_X8_isPart_2, u_X8_isPart_4, u_X8_isPart_7, u_X8_isPart_10, u_X8_isPart_11, u_X8_isPart_13, u_X8_isPart_15, u_X8_isPart_18, u_X8_isPart_21, u_X8_isPart_22, u_X8_isPart_25, u_X8_isPart_27, u_X8_isPart_28, u_X8_isPart_29, u_X8_isPart_31, u_X8_isPart_32, u_X8_isPart_33, u_X8_isPart_34, u_X8_isPart_37, u_X8_isPart_38, u_X8_isPart_41, u_X8_isPart_42, p1, p2, q.ob, q.a1, hx, ei, nI_clamp (show 57 + k < 2 ^ 31 by omega), es, h1, i10, show ¬ (0 : Int32) = 1 from by decide, if_true, if_false, not_true, decide_false, b32_f, true_or, xgo_some, xgo_none, xgoI_none, xcat_n, xcat_i, xcat_r, xcat_z, List.length_nil, List.length_cons, List.getD_cons_zero, List.getD_cons_succ, List.set_cons_zero, List.set_cons_succ, Nat.zero_le, Nat.reduceAdd, Nat.reduceLeDiff, Nat.reduceEqDiff, reduceIte]
      · rw [if_neg h1] at es
        simp only [u_X8_isPart_0, u_X8_isPart_1, u_X8_isPart_2, u_X8_isPart_4, u_X8_isPart_7, u_X8_isPart_10, u_X8_isPart_11, u_X8_isPart_13, u_X8_isPart_15, u_X8_isPart_18, u_X8_isPart_21, u_X8_isPart_22, u_X8_isPart_25, u_X8_isPart_27, u_X8_isPart_28, u_X8_isPart_29, u_X8_isPart_31, u_X8_isPart_32, u_X8_isPart_33, u_X8_isPart_34, u_X8_isPart_37, u_X8_isPart_38, u_X8_isPart_41, u_X8_isPart_42, p1, p2, q.ob, q.a1, hx, ei, nI_clamp (show 57 + k < 2 ^ 31 by omega), es, h1, i10, if_true, if_false, not_false_eq_true, decide_true, b32_t, or_true, xgo_some, xgo_none, xgoI_none, xcat_n, xcat_i, xcat_r, xcat_z, List.length_nil, List.length_cons, List.getD_cons_zero, List.getD_cons_succ, List.set_cons_zero, List.set_cons_succ, Nat.zero_le, Nat.reduceAdd, Nat.reduceLeDiff, Nat.reduceEqDiff, reduceIte]
    · have h6 : (23 : Int32) < p := by rw [k2]; exact nI_lt (a := 23) (by omega) k1
      rw [if_neg (fun z => z.2 h6)] at p2
      rw [show clAt 24 X.2.1.1 p = -1 by rw [k2]; exact clAt_out (by omega) k1]
      simp only [u_X8_isPart_0, u_X8_isPart_1, u_X8_isPart_2, u_X8_isPart_4, u_X8_isPart_7, u_X8_isPart_10, u_X8_isPart_11, u_X8_isPart_13, u_X8_isPart_15, u_X8_isPart_18, u_X8_isPart_21, u_X8_isPart_22, u_X8_isPart_25, u_X8_isPart_27, u_X8_isPart_28, u_X8_isPart_29, u_X8_isPart_31, u_X8_isPart_32, u_X8_isPart_33, u_X8_isPart_34, u_X8_isPart_37, u_X8_isPart_38, u_X8_isPart_41, u_X8_isPart_42, p1, p2, if_true, not_true, decide_false, b32_f, true_or, xgo_some, xgo_none, xgoI_none, xcat_n, xcat_i, xcat_r, xcat_z, List.length_nil, List.length_cons, List.getD_cons_zero, List.getD_cons_succ, List.set_cons_zero, List.set_cons_succ, Nat.zero_le, Nat.reduceAdd, Nat.reduceLeDiff, Nat.reduceEqDiff, reduceIte]
theorem m_first (q : isMo h m Z D A) (r : rS (A 1) X) {k : Nat} (h8 : 8 ≤ k) (h24 : k < 24) (hn : X.2.1.1 k ≠ -1) : xev 105 [.ref m, .int (nI k)] h = some (.inl (some (.int (X.2.1.1 k))), h) := by
  have hx : xix (nI (73 + k)) 117 := xix_nI (by omega) (by decide)
  have ei : (81 : Int32) + nI k - 8 = nI (73 + k) := nI_ix 81 k h8 (by omega)
  have es := ((r.2.2.2.1 k h8 h24).2 hn).1
  rw [e_X8_first]
  simp only [u_X8_first_0, u_X8_first_1, u_X8_first_4, u_X8_first_6, u_X8_first_7, u_X8_first_8, u_X8_first_10, u_X8_first_11, u_X8_first_12, q.ob, q.a1, hx, ei, nI_clamp (show 73 + k < 2 ^ 31 by omega), es, xgo_some, xgo_none, xgoI_none, xcat_n, xcat_i, xcat_r, xcat_z, List.length_nil, List.length_cons, List.getD_cons_zero, List.getD_cons_succ, List.set_cons_zero, List.set_cons_succ, Nat.zero_le, Nat.reduceAdd, Nat.reduceLeDiff, Nat.reduceEqDiff, reduceIte]
theorem m_second (q : isMo h m Z D A) (r : rS (A 1) X) {k : Nat} (h8 : 8 ≤ k) (h24 : k < 24) (hn : X.2.1.1 k ≠ -1) : xev 106 [.ref m, .int (nI k)] h = some (.inl (some (.int (X.2.1.2.1 k))), h) := by
  have hx : xix (nI (89 + k)) 117 := xix_nI (by omega) (by decide)
  have ei : (97 : Int32) + nI k - 8 = nI (89 + k) := nI_ix 97 k h8 (by omega)
  have es := ((r.2.2.2.1 k h8 h24).2 hn).2
  rw [e_X8_second]
  simp only [u_X8_second_0, u_X8_second_1, u_X8_second_4, u_X8_second_6, u_X8_second_7, u_X8_second_8, u_X8_second_10, u_X8_second_11, u_X8_second_12, q.ob, q.a1, hx, ei, nI_clamp (show 89 + k < 2 ^ 31 by omega), es, xgo_some, xgo_none, xgoI_none, xcat_n, xcat_i, xcat_r, xcat_z, List.length_nil, List.length_cons, List.getD_cons_zero, List.getD_cons_succ, List.set_cons_zero, List.set_cons_succ, Nat.zero_le, Nat.reduceAdd, Nat.reduceLeDiff, Nat.reduceEqDiff, reduceIte]
theorem x0117 : xix 0 117 := ⟨by decide, by decide⟩
theorem c00 : (0 : Int32).toNatClampNeg = 0 := by decide
theorem nI_s1 (k : Nat) : (1 : Int32) + nI k = nI (1 + k) := nI_add 1 k
theorem gd_drop {L : List Int32} {i : Nat} (h : i < L.length) : L.drop i = gd L i :: L.drop (i + 1) := by
  rw [List.drop_eq_getElem_cons h]
  unfold gd
  rw [List.getD_eq_getElem?_getD, List.getElem?_eq_getElem h]
  rfl
theorem lp_inRow (q : isMo h m Z D A) (r : rS (A 1) X) (p : Int32) : ∀ (k i u : Nat), i + k = X.1.length → xf 109 4 [some (.ref m), some (.int p), some (.int (nI u)), some (.int (nI i))] [] h = some (.inl (some (.int (nI (u + cntI (X.1.drop i) p)))), h) := by
  have hL := r.2.1
  intro k
  induction k with
  | zero =>
    intro i u hk
    have h2 : ¬ nI i < nI X.1.length := nI_nlt (by omega) (by omega)
    rw [u_X8_inRow_4]
    simp only [u_X8_inRow_0, u_X8_inRow_1, u_X8_inRow_2, u_X8_inRow_3, u_X8_inRow_5, u_X8_inRow_6, u_X8_inRow_9, u_X8_inRow_10, u_X8_inRow_11, u_X8_inRow_14, u_X8_inRow_15, u_X8_inRow_16, u_X8_inRow_19, u_X8_inRow_20, u_X8_inRow_21, u_X8_inRow_22, u_X8_inRow_23, u_X8_inRow_24, u_X8_inRow_27, u_X8_inRow_28, u_X8_inRow_31, u_X8_inRow_32, u_X8_inRow_33, u_X8_inRow_34, u_X8_inRow_37, u_X8_inRow_40, u_X8_inRow_41, q.ob, q.a1, x0117, c00, r.1, h2, if_false, xgo_some, xgo_none, xgoI_none, xcat_n, xcat_i, xcat_r, xcat_z, List.length_nil, List.length_cons, List.getD_cons_zero, List.getD_cons_succ, List.set_cons_zero, List.set_cons_succ, Nat.zero_le, Nat.reduceAdd, Nat.reduceLeDiff, Nat.reduceEqDiff, reduceIte]
    rw [List.drop_of_length_le (by omega)]
    rfl
  | succ k ih =>
    intro i u hk
    have h2 : nI i < nI X.1.length := nI_lt (by omega) (by omega)
    have hx : xix (nI (1 + i)) 117 := xix_nI (by omega) (by decide)
    have es := r.2.2.1 i (by omega)
    rw [u_X8_inRow_4, gd_drop (show i < X.1.length by omega), cntI]
    by_cases h3 : gd X.1 i = p
    · simp only [u_X8_inRow_0, u_X8_inRow_1, u_X8_inRow_2, u_X8_inRow_3, u_X8_inRow_5, u_X8_inRow_6, u_X8_inRow_9, u_X8_inRow_10, u_X8_inRow_11, u_X8_inRow_14, u_X8_inRow_15, u_X8_inRow_16, u_X8_inRow_19, u_X8_inRow_20, u_X8_inRow_21, u_X8_inRow_22, u_X8_inRow_23, u_X8_inRow_24, u_X8_inRow_27, u_X8_inRow_28, u_X8_inRow_31, u_X8_inRow_32, u_X8_inRow_33, u_X8_inRow_34, u_X8_inRow_37, u_X8_inRow_40, u_X8_inRow_41, q.ob, q.a1, x0117, c00, r.1, h2, nI_s1, hx, nI_clamp (show 1 + i < 2 ^ 31 by omega), es, h3, nI_of1, if_true, xgo_some, xgo_none, xgoI_none, xcat_n, xcat_i, xcat_r, xcat_z, List.length_nil, List.length_cons, List.getD_cons_zero, List.getD_cons_succ, List.set_cons_zero, List.set_cons_succ, Nat.zero_le, Nat.reduceAdd, Nat.reduceLeDiff, Nat.reduceEqDiff, reduceIte]
      rw [ih (i + 1) _ (by omega), Nat.add_assoc]
    · simp only [u_X8_inRow_0, u_X8_inRow_1, u_X8_inRow_2, u_X8_inRow_3, u_X8_inRow_5, u_X8_inRow_6, u_X8_inRow_9, u_X8_inRow_10, u_X8_inRow_11, u_X8_inRow_14, u_X8_inRow_15, u_X8_inRow_16, u_X8_inRow_19, u_X8_inRow_20, u_X8_inRow_21, u_X8_inRow_22, u_X8_inRow_23, u_X8_inRow_24, u_X8_inRow_27, u_X8_inRow_28, u_X8_inRow_31, u_X8_inRow_32, u_X8_inRow_33, u_X8_inRow_34, u_X8_inRow_37, u_X8_inRow_40, u_X8_inRow_41, q.ob, q.a1, x0117, c00, r.1, h2, nI_s1, hx, nI_clamp (show 1 + i < 2 ^ 31 by omega), es, h3, nI_of1, Int32.add_zero, if_true, if_false, xgo_some, xgo_none, xgoI_none, xcat_n, xcat_i, xcat_r, xcat_z, List.length_nil, List.length_cons, List.getD_cons_zero, List.getD_cons_succ, List.set_cons_zero, List.set_cons_succ, Nat.zero_le, Nat.reduceAdd, Nat.reduceLeDiff, Nat.reduceEqDiff, reduceIte]
      rw [ih (i + 1) _ (by omega), Nat.zero_add]
theorem m_inRow (q : isMo h m Z D A) (r : rS (A 1) X) (p : Int32) : xev 109 [.ref m, .int p] h = some (.inl (some (.int (nI (cntI X.1 p)))), h) := by
  rw [e_X8_inRow]
  simp only [u_X8_inRow_0, u_X8_inRow_1, u_X8_inRow_2, u_X8_inRow_3, u_X8_inRow_5, u_X8_inRow_6, u_X8_inRow_9, u_X8_inRow_10, u_X8_inRow_11, u_X8_inRow_14, u_X8_inRow_15, u_X8_inRow_16, u_X8_inRow_19, u_X8_inRow_20, u_X8_inRow_21, u_X8_inRow_22, u_X8_inRow_23, u_X8_inRow_24, u_X8_inRow_27, u_X8_inRow_28, u_X8_inRow_31, u_X8_inRow_32, u_X8_inRow_33, u_X8_inRow_34, u_X8_inRow_37, u_X8_inRow_40, u_X8_inRow_41, xgo_some, xgo_none, xgoI_none, xcat_n, xcat_i, xcat_r, xcat_z, List.length_nil, List.length_cons, List.getD_cons_zero, List.getD_cons_succ, List.set_cons_zero, List.set_cons_succ, Nat.zero_le, Nat.reduceAdd, Nat.reduceLeDiff, Nat.reduceEqDiff, reduceIte]
  rw [show (0 : Int32) = nI 0 from rfl, lp_inRow q r p _ 0 0 (Nat.zero_add _), Nat.zero_add, List.drop_zero]
/-- names that there are not have no pair -/
def okQ (N : xNs) : Prop := ∀ k, 8 ≤ k → k < 24 → N.1 k = -1 → N.2.1 k = -1
theorem lp_inPairs (q : isMo h m Z D A) (r : rS (A 1) X) (o : okQ X.2.1) (p : Int32) (hp : p ≠ -1) : ∀ (k i u : Nat), 8 ≤ i → i + k = 24 → xf 110 5 [some (.ref m), some (.int p), some (.int (nI u)), some (.int (nI i))] [] h = some (.inl (some (.int (nI (u + usN X.2.1.1 X.2.1.2.1 p i k)))), h) := by
  intro k
  induction k with
  | zero =>
    intro i u h8 hk
    have h2 : ¬ nI i < 24 := nI_nlt (b := 24) (by omega) (by omega)
    rw [u_X8_inPairs_5]
    simp only [u_X8_inPairs_0, u_X8_inPairs_1, u_X8_inPairs_2, u_X8_inPairs_4, u_X8_inPairs_6, u_X8_inPairs_8, u_X8_inPairs_11, u_X8_inPairs_12, u_X8_inPairs_13, u_X8_inPairs_14, u_X8_inPairs_17, u_X8_inPairs_20, u_X8_inPairs_21, u_X8_inPairs_22, u_X8_inPairs_25, u_X8_inPairs_26, u_X8_inPairs_29, u_X8_inPairs_30, u_X8_inPairs_33, u_X8_inPairs_34, u_X8_inPairs_35, u_X8_inPairs_36, u_X8_inPairs_39, u_X8_inPairs_40, u_X8_inPairs_43, u_X8_inPairs_44, u_X8_inPairs_47, u_X8_inPairs_48, u_X8_inPairs_49, u_X8_inPairs_52, u_X8_inPairs_53, u_X8_inPairs_54, u_X8_inPairs_55, u_X8_inPairs_58, u_X8_inPairs_61, u_X8_inPairs_62, h2, if_false, usN, Nat.add_zero, xgo_some, xgo_none, xgoI_none, xcat_n, xcat_i, xcat_r, xcat_z, List.length_nil, List.length_cons, List.getD_cons_zero, List.getD_cons_succ, List.set_cons_zero, List.set_cons_succ, Nat.zero_le, Nat.reduceAdd, Nat.reduceLeDiff, Nat.reduceEqDiff, reduceIte]
  | succ k ih =>
    intro i u h8 hk
    have h2 : nI i < 24 := nI_lt (b := 24) (by omega) (by omega)
    have pp := m_isPart q r (nI i)
    rw [hasP_nI h8 (by omega)] at pp
    rw [u_X8_inPairs_5]
    by_cases h3 : X.2.1.1 i = -1
    · rw [decide_eq_false (fun z => z h3)] at pp
      have e2 := o i h8 (by omega) h3
      have h4 : ¬ X.2.1.1 i = p := by rw [h3]; exact hp.symm
      have h5 : ¬ X.2.1.2.1 i = p := by rw [e2]; exact hp.symm
      simp only [u_X8_inPairs_0, u_X8_inPairs_1, u_X8_inPairs_2, u_X8_inPairs_4, u_X8_inPairs_6, u_X8_inPairs_8, u_X8_inPairs_11, u_X8_inPairs_12, u_X8_inPairs_13, u_X8_inPairs_14, u_X8_inPairs_17, u_X8_inPairs_20, u_X8_inPairs_21, u_X8_inPairs_22, u_X8_inPairs_25, u_X8_inPairs_26, u_X8_inPairs_29, u_X8_inPairs_30, u_X8_inPairs_33, u_X8_inPairs_34, u_X8_inPairs_35, u_X8_inPairs_36, u_X8_inPairs_39, u_X8_inPairs_40, u_X8_inPairs_43, u_X8_inPairs_44, u_X8_inPairs_47, u_X8_inPairs_48, u_X8_inPairs_49, u_X8_inPairs_52, u_X8_inPairs_53, u_X8_inPairs_54, u_X8_inPairs_55, u_X8_inPairs_58, u_X8_inPairs_61, u_X8_inPairs_62, h2, pp, q.ob, b32_f, nI_of1, Int32.add_zero, if_true, xgo_some, xgo_none, xgoI_none, xcat_n, xcat_i, xcat_r, xcat_z, List.length_nil, List.length_cons, List.getD_cons_zero, List.getD_cons_succ, List.set_cons_zero, List.set_cons_succ, Nat.zero_le, Nat.reduceAdd, Nat.reduceLeDiff, Nat.reduceEqDiff, reduceIte]
      rw [ih (i + 1) _ (by omega) (by omega), usN, if_neg h4, if_neg h5]
      exact congrArg (fun z => (some (Sum.inl (some (Value.int (nI z))), h) : Option (xR × xH))) (by omega)
    · rw [decide_eq_true h3] at pp
      have p1 := m_first q r h8 (by omega) h3
      have p2 := m_second q r h8 (by omega) h3
      by_cases h4 : X.2.1.1 i = p
      · by_cases h5 : X.2.1.2.1 i = p
        · rw [h4] at p1
          rw [h5] at p2
          simp only [u_X8_inPairs_0, u_X8_inPairs_1, u_X8_inPairs_2, u_X8_inPairs_4, u_X8_inPairs_6, u_X8_inPairs_8, u_X8_inPairs_11, u_X8_inPairs_12, u_X8_inPairs_13, u_X8_inPairs_14, u_X8_inPairs_17, u_X8_inPairs_20, u_X8_inPairs_21, u_X8_inPairs_22, u_X8_inPairs_25, u_X8_inPairs_26, u_X8_inPairs_29, u_X8_inPairs_30, u_X8_inPairs_33, u_X8_inPairs_34, u_X8_inPairs_35, u_X8_inPairs_36, u_X8_inPairs_39, u_X8_inPairs_40, u_X8_inPairs_43, u_X8_inPairs_44, u_X8_inPairs_47, u_X8_inPairs_48, u_X8_inPairs_49, u_X8_inPairs_52, u_X8_inPairs_53, u_X8_inPairs_54, u_X8_inPairs_55, u_X8_inPairs_58, u_X8_inPairs_61, u_X8_inPairs_62, h2, pp, p1, p2, q.ob, b32_t, i10, nI_of1, if_true, if_false, show (1 : Int32) + 1 = nI 2 from rfl, nI_add, xgo_some, xgo_none, xgoI_none, xcat_n, xcat_i, xcat_r, xcat_z, List.length_nil, List.length_cons, List.getD_cons_zero, List.getD_cons_succ, List.set_cons_zero, List.set_cons_succ, Nat.zero_le, Nat.reduceAdd, Nat.reduceLeDiff, Nat.reduceEqDiff, reduceIte]
          rw [ih (i + 1) _ (by omega) (by omega), usN, if_pos h4, if_pos h5]
          exact congrArg (fun z => (some (Sum.inl (some (Value.int (nI z))), h) : Option (xR × xH))) (by omega)
        · rw [h4] at p1
          simp only [u_X8_inPairs_0, u_X8_inPairs_1, u_X8_inPairs_2, u_X8_inPairs_4, u_X8_inPairs_6, u_X8_inPairs_8, u_X8_inPairs_11, u_X8_inPairs_12, u_X8_inPairs_13, u_X8_inPairs_14, u_X8_inPairs_17, u_X8_inPairs_20, u_X8_inPairs_21, u_X8_inPairs_22, u_X8_inPairs_25, u_X8_inPairs_26, u_X8_inPairs_29, u_X8_inPairs_30, u_X8_inPairs_33, u_X8_inPairs_34, u_X8_inPairs_35, u_X8_inPairs_36, u_X8_inPairs_39, u_X8_inPairs_40, u_X8_inPairs_43, u_X8_inPairs_44, u_X8_inPairs_47, u_X8_inPairs_48, u_X8_inPairs_49, u_X8_inPairs_52, u_X8_inPairs_53, u_X8_inPairs_54, u_X8_inPairs_55, u_X8_inPairs_58, u_X8_inPairs_61, u_X8_inPairs_62, h2, pp, p1, p2, h5, q.ob, b32_t, i10, nI_of1, if_true, if_false, show (1 : Int32) + 0 = nI 1 from rfl, nI_add, xgo_some, xgo_none, xgoI_none, xcat_n, xcat_i, xcat_r, xcat_z, List.length_nil, List.length_cons, List.getD_cons_zero, List.getD_cons_succ, List.set_cons_zero, List.set_cons_succ, Nat.zero_le, Nat.reduceAdd, Nat.reduceLeDiff, Nat.reduceEqDiff, reduceIte]
          rw [ih (i + 1) _ (by omega) (by omega), usN, if_pos h4, if_neg h5]
          exact congrArg (fun z => (some (Sum.inl (some (Value.int (nI z))), h) : Option (xR × xH))) (by omega)
      · by_cases h5 : X.2.1.2.1 i = p
        · rw [h5] at p2
          simp only [u_X8_inPairs_0, u_X8_inPairs_1, u_X8_inPairs_2, u_X8_inPairs_4, u_X8_inPairs_6, u_X8_inPairs_8, u_X8_inPairs_11, u_X8_inPairs_12, u_X8_inPairs_13, u_X8_inPairs_14, u_X8_inPairs_17, u_X8_inPairs_20, u_X8_inPairs_21, u_X8_inPairs_22, u_X8_inPairs_25, u_X8_inPairs_26, u_X8_inPairs_29, u_X8_inPairs_30, u_X8_inPairs_33, u_X8_inPairs_34, u_X8_inPairs_35, u_X8_inPairs_36, u_X8_inPairs_39, u_X8_inPairs_40, u_X8_inPairs_43, u_X8_inPairs_44, u_X8_inPairs_47, u_X8_inPairs_48, u_X8_inPairs_49, u_X8_inPairs_52, u_X8_inPairs_53, u_X8_inPairs_54, u_X8_inPairs_55, u_X8_inPairs_58, u_X8_inPairs_61, u_X8_inPairs_62, h2, pp, p1, p2, h4, q.ob, b32_t, i10, nI_of1, if_true, if_false, show (0 : Int32) + 1 = nI 1 from rfl, nI_add, xgo_some, xgo_none, xgoI_none, xcat_n, xcat_i, xcat_r, xcat_z, List.length_nil, List.length_cons, List.getD_cons_zero, List.getD_cons_succ, List.set_cons_zero, List.set_cons_succ, Nat.zero_le, Nat.reduceAdd, Nat.reduceLeDiff, Nat.reduceEqDiff, reduceIte]
          rw [ih (i + 1) _ (by omega) (by omega), usN, if_neg h4, if_pos h5]
          exact congrArg (fun z => (some (Sum.inl (some (Value.int (nI z))), h) : Option (xR × xH))) (by omega)
        · simp only [u_X8_inPairs_0, u_X8_inPairs_1, u_X8_inPairs_2, u_X8_inPairs_4, u_X8_inPairs_6, u_X8_inPairs_8, u_X8_inPairs_11, u_X8_inPairs_12, u_X8_inPairs_13, u_X8_inPairs_14, u_X8_inPairs_17, u_X8_inPairs_20, u_X8_inPairs_21, u_X8_inPairs_22, u_X8_inPairs_25, u_X8_inPairs_26, u_X8_inPairs_29, u_X8_inPairs_30, u_X8_inPairs_33, u_X8_inPairs_34, u_X8_inPairs_35, u_X8_inPairs_36, u_X8_inPairs_39, u_X8_inPairs_40, u_X8_inPairs_43, u_X8_inPairs_44, u_X8_inPairs_47, u_X8_inPairs_48, u_X8_inPairs_49, u_X8_inPairs_52, u_X8_inPairs_53, u_X8_inPairs_54, u_X8_inPairs_55, u_X8_inPairs_58, u_X8_inPairs_61, u_X8_inPairs_62, h2, pp, p1, p2, h4, h5, q.ob, b32_t, i10, nI_of1, if_true, if_false, show (0 : Int32) + 0 = nI 0 from rfl, nI_add, xgo_some, xgo_none, xgoI_none, xcat_n, xcat_i, xcat_r, xcat_z, List.length_nil, List.length_cons, List.getD_cons_zero, List.getD_cons_succ, List.set_cons_zero, List.set_cons_succ, Nat.zero_le, Nat.reduceAdd, Nat.reduceLeDiff, Nat.reduceEqDiff, reduceIte]
          rw [ih (i + 1) _ (by omega) (by omega), usN, if_neg h4, if_neg h5]
          exact congrArg (fun z => (some (Sum.inl (some (Value.int (nI z))), h) : Option (xR × xH))) (by omega)
theorem m_inPairs (q : isMo h m Z D A) (r : rS (A 1) X) (o : okQ X.2.1) (p : Int32) (hp : p ≠ -1) : xev 110 [.ref m, .int p] h = some (.inl (some (.int (nI (usN X.2.1.1 X.2.1.2.1 p 8 16)))), h) := by
  rw [e_X8_inPairs]
  simp only [u_X8_inPairs_0, u_X8_inPairs_1, u_X8_inPairs_2, u_X8_inPairs_4, u_X8_inPairs_6, u_X8_inPairs_8, u_X8_inPairs_11, u_X8_inPairs_12, u_X8_inPairs_13, u_X8_inPairs_14, u_X8_inPairs_17, u_X8_inPairs_20, u_X8_inPairs_21, u_X8_inPairs_22, u_X8_inPairs_25, u_X8_inPairs_26, u_X8_inPairs_29, u_X8_inPairs_30, u_X8_inPairs_33, u_X8_inPairs_34, u_X8_inPairs_35, u_X8_inPairs_36, u_X8_inPairs_39, u_X8_inPairs_40, u_X8_inPairs_43, u_X8_inPairs_44, u_X8_inPairs_47, u_X8_inPairs_48, u_X8_inPairs_49, u_X8_inPairs_52, u_X8_inPairs_53, u_X8_inPairs_54, u_X8_inPairs_55, u_X8_inPairs_58, u_X8_inPairs_61, u_X8_inPairs_62, xgo_some, xgo_none, xgoI_none, xcat_n, xcat_i, xcat_r, xcat_z, List.length_nil, List.length_cons, List.getD_cons_zero, List.getD_cons_succ, List.set_cons_zero, List.set_cons_succ, Nat.zero_le, Nat.reduceAdd, Nat.reduceLeDiff, Nat.reduceEqDiff, reduceIte]
  rw [show (0 : Int32) = nI 0 from rfl, show (8 : Int32) = nI 8 from rfl, lp_inPairs q r o p hp 16 8 0 (by omega) (by omega), Nat.zero_add]
end MO
