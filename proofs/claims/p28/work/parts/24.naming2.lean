/-! Naming: what a tally is, the choice, a step. -/
section NH
variable {h : xH} {b r n : Nat} {f : Nat → Int32}
theorem occI_skip {x y v : Int32} (hv : v ≠ x) (t : List Int32) : occI x y (v :: t) = occI x y t := by
  match t with
  | [] => rfl
  | w :: t => rw [occI, if_neg (fun z => hv z.1)]
theorem cntT_ne {x y : Int32} (hxy : x ≠ y) : ∀ (L : List Int32) (tw : Bool), cntT x y tw L = occI x y L := by
  intro L
  induction L with
  | nil => intro tw; rfl
  | cons u t ih =>
    intro tw
    match t, ih with
    | [], _ => rfl
    | v :: t, ih =>
      rw [cntT, occI]
      by_cases h1 : u = x ∧ v = y
      · rw [if_pos h1, if_neg (by rw [h1.1, h1.2]; exact hxy), if_pos h1, ih false, occI_skip (by rw [h1.2]; exact hxy.symm)]
      · rw [if_neg h1]
        by_cases h2 : u = v
        · rw [if_pos h2]
          cases tw with
          | true => rw [if_pos rfl, ih false, if_neg h1]
          | false => rw [if_neg (by decide), ih true, if_neg h1, Nat.zero_add]
        · rw [if_neg h2, ih false, if_neg h1, Nat.zero_add]
theorem cntT_tr (x u : Int32) (t : List Int32) : cntT x x true (u :: t) = cntT x x false t := by
  match t with
  | [] => rfl
  | v :: t =>
    rw [cntT]
    by_cases h2 : u = v
    · rw [if_pos h2, if_pos rfl]
    · rw [if_neg h2, if_neg (fun z => h2 (z.1.trans z.2.symm)), Nat.zero_add]
theorem cntT_eq (x : Int32) : ∀ (k : Nat) (L : List Int32), L.length ≤ k → cntT x x false L = occI x x L := by
  intro k
  induction k with
  | zero =>
    intro L hL
    have : L = [] := List.eq_nil_of_length_eq_zero (by omega)
    rw [this]
    rfl
  | succ k ih =>
    intro L hL
    match L, hL with
    | [], _ => rfl
    | [_], _ => rfl
    | u :: v :: t, hL =>
      simp only [List.length_cons] at hL
      rw [cntT, occI]
      by_cases h2 : u = v
      · rw [if_pos h2, if_neg (by decide), cntT_tr, ih t (by omega)]
        by_cases h1 : u = x ∧ v = x
        · rw [if_pos h1, if_pos h1]
        · rw [if_neg h1, if_neg h1, Nat.zero_add, occI_skip (fun z => h1 ⟨h2.trans z, z⟩)]
      · rw [if_neg h2, ih (v :: t) (by simp only [List.length_cons]; omega), if_neg (fun z => h2 (z.1.trans z.2.symm)), if_neg (fun z => h2 (z.1.trans z.2.symm)), Nat.zero_add]
theorem cntT_occ (x y : Int32) (L : List Int32) : cntT x y false L = occI x y L := by
  by_cases h1 : x = y
  · subst h1; exact cntT_eq x _ L (Nat.le_refl _)
  · exact cntT_ne h1 L false
theorem m_Naming_tally {p : Nat → Nat} (hp : ∀ i, i < n → f i = nI (p i) ∧ p i < 24) (hbr : r + 2 ≤ b ∨ b + 5 ≤ r) {T K : Nat → Int32} {a c o g : Int32} (qr : isRow h r n f) (q : isNg h b T K a c o g) :
    ∃ h' T2 K2, xev 30 [.ref b, .ref r] h = some (.inl none, h') ∧ isRow h' r n f ∧ isNg h' b T2 K2 a c o g ∧ (∀ i, i + 1 < n → K2 i = nI (p i * 24 + p (i + 1)) ∧ T2 (p i * 24 + p (i + 1)) = nI (occI (f i) (f (i + 1)) (seg f 0 n))) ∧ xFr b (b + 5) h h' := by
  obtain ⟨h1, T1, K1, l3, a1, a2, a3, a4, a5⟩ := lp_tally1 hp hbr (n - 1) 0 h T K none (by omega) qr q (fun i hi => by omega)
  obtain ⟨h2, T2, b1, b2, b3, b4, b5⟩ := lp_tally2 hp hbr (fun i hi => (a4 i hi).1) (n - 1) 0 h1 T1 (-2) none none (by omega) a2 a3 (by decide)
  refine ⟨h2, T2, K1, ?_, b2, b3, fun i hi => ⟨(a4 i hi).1, ?_⟩, a5.tr b5⟩
  · rw [e_X4_tally]
    simp only [u_X4_tally_0, u_X4_tally_1, xgo_some, xgo_none, xgoI_none, xcat_n, xcat_i, xcat_r, xcat_z, List.length_nil, List.length_cons, List.getD_cons_zero, List.getD_cons_succ, List.set_cons_zero, List.set_cons_succ, Nat.zero_le, Nat.reduceAdd, Nat.reduceLeDiff, Nat.reduceEqDiff, reduceIte]
    rw [show (0 : Int32) = nI 0 from rfl, a1]
    cases l3 <;> simp only [u_X4_tally_53, u_X4_tally_55, u_X4_tally_56, u_X4_tally_57, xgo_some, xgo_none, xgoI_none, xcat_n, xcat_i, xcat_r, xcat_z, List.length_nil, List.length_cons, List.getD_cons_zero, List.getD_cons_succ, List.set_cons_zero, List.set_cons_succ, Nat.zero_le, Nat.reduceAdd, Nat.reduceLeDiff, Nat.reduceEqDiff, reduceIte]
    · exact b1
    · exact b1
  · have e1 := hp i (by omega)
    have e2 := hp (i + 1) (by omega)
    rw [b4 _ _ e1.2 e2.2, (a4 i hi).2, Int32.zero_add, show decide ((-2 : Int32) = nI 0 - 1) = false by decide, cntT_occ, e1.1, e2.1]
    rfl
theorem ng_a {T K : Nat → Int32} {a c o g : Int32} (q : isNg h b T K a c o g) (v : Int32) : isNg (xso h b 2 (.int v)) b T K v c o g := by
  have e : xso h b 2 (.int v) = xup h b (.inr (4, [.ref (b + 1), .ref (b + 3), .int v, .int c, .int o, .int g])) := by unfold xso; rw [q.ob]; rfl
  rw [e]
  exact ⟨xup_at _ _ _, isCl_fr q.2.1 (xFr_up (a := b)) (by omega), isCl_fr q.2.2 (xFr_up (a := b)) (by omega)⟩
theorem ng_c {T K : Nat → Int32} {a c o g : Int32} (q : isNg h b T K a c o g) (v : Int32) : isNg (xso h b 3 (.int v)) b T K a v o g := by
  have e : xso h b 3 (.int v) = xup h b (.inr (4, [.ref (b + 1), .ref (b + 3), .int a, .int v, .int o, .int g])) := by unfold xso; rw [q.ob]; rfl
  rw [e]
  exact ⟨xup_at _ _ _, isCl_fr q.2.1 (xFr_up (a := b)) (by omega), isCl_fr q.2.2 (xFr_up (a := b)) (by omega)⟩
theorem ng_o {T K : Nat → Int32} {a c o g : Int32} (q : isNg h b T K a c o g) (v : Int32) : isNg (xso h b 4 (.int v)) b T K a c v g := by
  have e : xso h b 4 (.int v) = xup h b (.inr (4, [.ref (b + 1), .ref (b + 3), .int a, .int c, .int v, .int g])) := by unfold xso; rw [q.ob]; rfl
  rw [e]
  exact ⟨xup_at _ _ _, isCl_fr q.2.1 (xFr_up (a := b)) (by omega), isCl_fr q.2.2 (xFr_up (a := b)) (by omega)⟩
theorem ng_g {T K : Nat → Int32} {a c o g : Int32} (q : isNg h b T K a c o g) (v : Int32) : isNg (xso h b 5 (.int v)) b T K a c o v := by
  have e : xso h b 5 (.int v) = xup h b (.inr (4, [.ref (b + 1), .ref (b + 3), .int a, .int c, .int o, .int v])) := by unfold xso; rw [q.ob]; rfl
  rw [e]
  exact ⟨xup_at _ _ _, isCl_fr q.2.1 (xFr_up (a := b)) (by omega), isCl_fr q.2.2 (xFr_up (a := b)) (by omega)⟩
theorem xFr_so (h : xH) (b k : Nat) (v : Value) : xFr b (b + 1) h (xso h b k v) := xFr_up
def chF (V : Int32 → Int32 → Int32) : List Int32 → Int32 → Int32 × Int32 × Int32 → Int32 × Int32 × Int32
  | u :: v :: t, best, R => if R.2.2 < V u v ∨ (V u v = R.2.2 ∧ u * 24 + v < best) then chF V (v :: t) (u * 24 + v) (u, v, V u v) else chF V (v :: t) best R
  | _, _, R => R
theorem chF_seg (V : Int32 → Int32 → Int32) (f : Nat → Int32) (m n : Nat) (hm : m + 1 < n) (best : Int32) (R : Int32 × Int32 × Int32) : chF V (seg f m (n - m)) best R = if R.2.2 < V (f m) (f (m + 1)) ∨ (V (f m) (f (m + 1)) = R.2.2 ∧ f m * 24 + f (m + 1) < best) then chF V (seg f (m + 1) (n - (m + 1))) (f m * 24 + f (m + 1)) (f m, f (m + 1), V (f m) (f (m + 1))) else chF V (seg f (m + 1) (n - (m + 1))) best R := by
  rw [seg_hd f m n (by omega), seg_hd f (m + 1) n hm, chF]
theorem chF_one (V : Int32 → Int32 → Int32) (f : Nat → Int32) (m k : Nat) (hk : k ≤ 1) (best : Int32) (R : Int32 × Int32 × Int32) : chF V (seg f m k) best R = R := by
  match k, hk with
  | 0, _ => rfl
  | 1, _ => rfl
theorem lp_choose {p : Nat → Nat} {V : Int32 → Int32 → Int32} {T K : Nat → Int32} {g : Int32} (hp : ∀ i, i < n → f i = nI (p i) ∧ p i < 24) (hbr : r + 2 ≤ b ∨ b + 5 ≤ r) (hK : ∀ i, i + 1 < n → K i = nI (p i * 24 + p (i + 1)) ∧ T (p i * 24 + p (i + 1)) = V (f i) (f (i + 1))) : ∀ (k m : Nat) (h : xH) (R : Int32 × Int32 × Int32) (best : Int32) (l4 l5 : Option Value), m + k = n - 1 → isRow h r n f → isNg h b T K R.1 R.2.1 R.2.2 g → (l4 = none ∧ l5 = none ∨ ∃ x y, l4 = some (.int x) ∧ l5 = some (.int y)) →
    ∃ h', xf 31 9 [some (.ref b), some (.ref r), some (.int best), some (.int (nI m)), l4, l5] [] h = some (.inl none, h') ∧ isNg h' b T K (chF V (seg f m (n - m)) best R).1 (chF V (seg f m (n - m)) best R).2.1 (chF V (seg f m (n - m)) best R).2.2 g ∧ xFr b (b + 5) h h' := by
  intro k
  induction k with
  | zero =>
    intro m h R best l4 l5 hk qr q _
    have hn := qr.2.2
    have h2 : ¬ nI (m + 1) < nI n := nI_nlt (by omega) (by omega)
    rw [chF_one _ _ _ _ (by omega)]
    refine ⟨h, ?_, q, xFr.rf⟩
    rw [u_X4_choose_9]
    simp only [u_X4_choose_0, u_X4_choose_1, u_X4_choose_2, u_X4_choose_5, u_X4_choose_6, u_X4_choose_7, u_X4_choose_8, u_X4_choose_10, u_X4_choose_11, u_X4_choose_12, u_X4_choose_13, u_X4_choose_16, u_X4_choose_19, u_X4_choose_20, u_X4_choose_23, u_X4_choose_24, u_X4_choose_27, u_X4_choose_29, u_X4_choose_30, u_X4_choose_33, u_X4_choose_35, u_X4_choose_38, u_X4_choose_40, u_X4_choose_42, u_X4_choose_43, u_X4_choose_46, u_X4_choose_49, u_X4_choose_51, u_X4_choose_52, u_X4_choose_55, u_X4_choose_58, u_X4_choose_60, u_X4_choose_61, u_X4_choose_64, u_X4_choose_65, u_X4_choose_67, u_X4_choose_70, u_X4_choose_72, u_X4_choose_73, u_X4_choose_74, u_X4_choose_75, u_X4_choose_76, u_X4_choose_79, u_X4_choose_82, u_X4_choose_83, u_X4_choose_84, u_X4_choose_85, u_X4_choose_86, u_X4_choose_87, u_X4_choose_90, u_X4_choose_93, u_X4_choose_96, u_X4_choose_99, qr.ob, nI_of1, h2, if_false, xgo_some, xgo_none, xgoI_none, xcat_n, xcat_i, xcat_r, xcat_z, List.length_nil, List.length_cons, List.getD_cons_zero, List.getD_cons_succ, List.set_cons_zero, List.set_cons_succ, Nat.zero_le, Nat.reduceAdd, Nat.reduceLeDiff, Nat.reduceEqDiff, reduceIte]
  | succ k ih =>
    intro m h R best l4 l5 hk qr q hl
    have hn := qr.2.2
    have h2 : nI (m + 1) < nI n := nI_lt (by omega) (by omega)
    have hm1 : m + 1 < n := by omega
    obtain ⟨e1, g1⟩ := hp m (by omega)
    obtain ⟨e2, g2⟩ := hp (m + 1) (by omega)
    have kk := m_Cells_at q.2.2 d64 (nI m)
    rw [clAt_nI (show m < 64 by omega) (by decide), (hK m hm1).1] at kk
    have kt := m_Cells_at q.2.1 d576 (nI (p m * 24 + p (m + 1)))
    rw [clAt_nI (show p m * 24 + p (m + 1) < 576 by omega) (by decide), (hK m hm1).2] at kt
    have ek : f m * 24 + f (m + 1) = nI (p m * 24 + p (m + 1)) := by rw [e1, e2, nI_key]
    rw [chF_seg _ _ _ _ hm1, ek]
    have q1 := ng_o q (V (f m) (f (m + 1)))
    have r1 := isRow_fr qr (xFr_so h b 4 (.int (V (f m) (f (m + 1))))) (by omega)
    have q2 := ng_a q1 (f m)
    have r2 := isRow_fr r1 (xFr_so _ b 2 (.int (f m))) (by omega)
    have q3 := ng_c q2 (f (m + 1))
    have r3 := isRow_fr r2 (xFr_so _ b 3 (.int (f (m + 1)))) (by omega)
    have fr3 := ((xFr.wd (xFr_so h b 4 (.int (V (f m) (f (m + 1))))) (Nat.le_refl b) (show b + 1 ≤ b + 5 by omega)).tr (xFr.wd (xFr_so _ b 2 (.int (f m))) (Nat.le_refl b) (show b + 1 ≤ b + 5 by omega))).tr (xFr.wd (xFr_so _ b 3 (.int (f (m + 1)))) (Nat.le_refl b) (show b + 1 ≤ b + 5 by omega))
    by_cases h3 : R.2.2 < V (f m) (f (m + 1))
    · obtain ⟨h', a1, a2, a3⟩ := ih (m + 1) _ (f m, f (m + 1), V (f m) (f (m + 1))) (nI (p m * 24 + p (m + 1))) (some (.int (nI (p m * 24 + p (m + 1))))) (some (.int (V (f m) (f (m + 1))))) (by omega) r3 q3 (Or.inr ⟨_, _, rfl, rfl⟩)
      rw [if_pos (Or.inl h3)]
      refine ⟨h', ?_, a2, fr3.tr a3⟩
      rw [u_X4_choose_9]
      rcases hl with ⟨rfl, rfl⟩ | ⟨x, y, rfl, rfl⟩
      all_goals
        simp only [u_X4_choose_0, u_X4_choose_1, u_X4_choose_2, u_X4_choose_5, u_X4_choose_6, u_X4_choose_7, u_X4_choose_8, u_X4_choose_10, u_X4_choose_11, u_X4_choose_12, u_X4_choose_13, u_X4_choose_16, u_X4_choose_19, u_X4_choose_20, u_X4_choose_23, u_X4_choose_24, u_X4_choose_27, u_X4_choose_29, u_X4_choose_30, u_X4_choose_33, u_X4_choose_35, u_X4_choose_38, u_X4_choose_40, u_X4_choose_42, u_X4_choose_43, u_X4_choose_46, u_X4_choose_49, u_X4_choose_51, u_X4_choose_52, u_X4_choose_55, u_X4_choose_58, u_X4_choose_60, u_X4_choose_61, u_X4_choose_64, u_X4_choose_65, u_X4_choose_67, u_X4_choose_70, u_X4_choose_72, u_X4_choose_73, u_X4_choose_74, u_X4_choose_75, u_X4_choose_76, u_X4_choose_79, u_X4_choose_82, u_X4_choose_83, u_X4_choose_84, u_X4_choose_85, u_X4_choose_86, u_X4_choose_87, u_X4_choose_90, u_X4_choose_93, u_X4_choose_96, u_X4_choose_99, qr.ob, r1.ob, r2.ob, q.ob, q1.ob, q2.ob, q3.ob, q.2.1.ob, q.2.2.ob, nI_of1, h2, h3, if_true, m_Row_at r1, m_Row_at r2, clAt_lt (show m < n by omega) hn, clAt_lt (show m + 1 < n by omega) hn, kk, kt, xgo_some, xgo_none, xgoI_none, xcat_n, xcat_i, xcat_r, xcat_z, List.length_nil, List.length_cons, List.getD_cons_zero, List.getD_cons_succ, List.set_cons_zero, List.set_cons_succ, Nat.zero_le, Nat.reduceAdd, Nat.reduceLeDiff, Nat.reduceEqDiff, reduceIte]
        exact a1
    · by_cases h4 : V (f m) (f (m + 1)) = R.2.2 ∧ nI (p m * 24 + p (m + 1)) < best
      · obtain ⟨h', a1, a2, a3⟩ := ih (m + 1) _ (f m, f (m + 1), V (f m) (f (m + 1))) (nI (p m * 24 + p (m + 1))) (some (.int (nI (p m * 24 + p (m + 1))))) (some (.int (V (f m) (f (m + 1))))) (by omega) r3 q3 (Or.inr ⟨_, _, rfl, rfl⟩)
        rw [if_pos (Or.inr h4)]
        refine ⟨h', ?_, a2, fr3.tr a3⟩
        rw [u_X4_choose_9]
        have h5 := h4.2
        have h6 := h4.1
        rcases hl with ⟨rfl, rfl⟩ | ⟨x, y, rfl, rfl⟩
        all_goals
          simp only [u_X4_choose_0, u_X4_choose_1, u_X4_choose_2, u_X4_choose_5, u_X4_choose_6, u_X4_choose_7, u_X4_choose_8, u_X4_choose_10, u_X4_choose_11, u_X4_choose_12, u_X4_choose_13, u_X4_choose_16, u_X4_choose_19, u_X4_choose_20, u_X4_choose_23, u_X4_choose_24, u_X4_choose_27, u_X4_choose_29, u_X4_choose_30, u_X4_choose_33, u_X4_choose_35, u_X4_choose_38, u_X4_choose_40, u_X4_choose_42, u_X4_choose_43, u_X4_choose_46, u_X4_choose_49, u_X4_choose_51, u_X4_choose_52, u_X4_choose_55, u_X4_choose_58, u_X4_choose_60, u_X4_choose_61, u_X4_choose_64, u_X4_choose_65, u_X4_choose_67, u_X4_choose_70, u_X4_choose_72, u_X4_choose_73, u_X4_choose_74, u_X4_choose_75, u_X4_choose_76, u_X4_choose_79, u_X4_choose_82, u_X4_choose_83, u_X4_choose_84, u_X4_choose_85, u_X4_choose_86, u_X4_choose_87, u_X4_choose_90, u_X4_choose_93, u_X4_choose_96, u_X4_choose_99, qr.ob, r1.ob, r2.ob, q.ob, q1.ob, q2.ob, q3.ob, q.2.1.ob, q.2.2.ob, nI_of1, h2, h3, h5, h6, if_true, if_false, m_Row_at r1, m_Row_at r2, clAt_lt (show m < n by omega) hn, clAt_lt (show m + 1 < n by omega) hn, kk, kt, xgo_some, xgo_none, xgoI_none, xcat_n, xcat_i, xcat_r, xcat_z, List.length_nil, List.length_cons, List.getD_cons_zero, List.getD_cons_succ, List.set_cons_zero, List.set_cons_succ, Nat.zero_le, Nat.reduceAdd, Nat.reduceLeDiff, Nat.reduceEqDiff, reduceIte]
          rw [← h6]
          simp only [u_X4_choose_0, u_X4_choose_1, u_X4_choose_2, u_X4_choose_5, u_X4_choose_6, u_X4_choose_7, u_X4_choose_8, u_X4_choose_10, u_X4_choose_11, u_X4_choose_12, u_X4_choose_13, u_X4_choose_16, u_X4_choose_19, u_X4_choose_20, u_X4_choose_23, u_X4_choose_24, u_X4_choose_27, u_X4_choose_29, u_X4_choose_30, u_X4_choose_33, u_X4_choose_35, u_X4_choose_38, u_X4_choose_40, u_X4_choose_42, u_X4_choose_43, u_X4_choose_46, u_X4_choose_49, u_X4_choose_51, u_X4_choose_52, u_X4_choose_55, u_X4_choose_58, u_X4_choose_60, u_X4_choose_61, u_X4_choose_64, u_X4_choose_65, u_X4_choose_67, u_X4_choose_70, u_X4_choose_72, u_X4_choose_73, u_X4_choose_74, u_X4_choose_75, u_X4_choose_76, u_X4_choose_79, u_X4_choose_82, u_X4_choose_83, u_X4_choose_84, u_X4_choose_85, u_X4_choose_86, u_X4_choose_87, u_X4_choose_90, u_X4_choose_93, u_X4_choose_96, u_X4_choose_99, qr.ob, r1.ob, r2.ob, q.ob, q1.ob, q2.ob, q3.ob, q.2.1.ob, q.2.2.ob, nI_of1, h2, h3, h5, Int32.lt_irrefl, if_true, if_false, m_Row_at r1, m_Row_at r2, clAt_lt (show m < n by omega) hn, clAt_lt (show m + 1 < n by omega) hn, kk, kt, xgo_some, xgo_none, xgoI_none, xcat_n, xcat_i, xcat_r, xcat_z, List.length_nil, List.length_cons, List.getD_cons_zero, List.getD_cons_succ, List.set_cons_zero, List.set_cons_succ, Nat.zero_le, Nat.reduceAdd, Nat.reduceLeDiff, Nat.reduceEqDiff, reduceIte]
          exact a1
      · obtain ⟨h', a1, a2, a3⟩ := ih (m + 1) h R best (some (.int (nI (p m * 24 + p (m + 1))))) (some (.int (V (f m) (f (m + 1))))) (by omega) qr q (Or.inr ⟨_, _, rfl, rfl⟩)
        rw [if_neg (fun z => z.elim h3 h4)]
        refine ⟨h', ?_, a2, a3⟩
        rw [u_X4_choose_9]
        by_cases h6 : V (f m) (f (m + 1)) = R.2.2
        · have h5 : ¬ nI (p m * 24 + p (m + 1)) < best := fun z => h4 ⟨h6, z⟩
          rcases hl with ⟨rfl, rfl⟩ | ⟨x, y, rfl, rfl⟩
          all_goals
            simp only [u_X4_choose_0, u_X4_choose_1, u_X4_choose_2, u_X4_choose_5, u_X4_choose_6, u_X4_choose_7, u_X4_choose_8, u_X4_choose_10, u_X4_choose_11, u_X4_choose_12, u_X4_choose_13, u_X4_choose_16, u_X4_choose_19, u_X4_choose_20, u_X4_choose_23, u_X4_choose_24, u_X4_choose_27, u_X4_choose_29, u_X4_choose_30, u_X4_choose_33, u_X4_choose_35, u_X4_choose_38, u_X4_choose_40, u_X4_choose_42, u_X4_choose_43, u_X4_choose_46, u_X4_choose_49, u_X4_choose_51, u_X4_choose_52, u_X4_choose_55, u_X4_choose_58, u_X4_choose_60, u_X4_choose_61, u_X4_choose_64, u_X4_choose_65, u_X4_choose_67, u_X4_choose_70, u_X4_choose_72, u_X4_choose_73, u_X4_choose_74, u_X4_choose_75, u_X4_choose_76, u_X4_choose_79, u_X4_choose_82, u_X4_choose_83, u_X4_choose_84, u_X4_choose_85, u_X4_choose_86, u_X4_choose_87, u_X4_choose_90, u_X4_choose_93, u_X4_choose_96, u_X4_choose_99, qr.ob, q.ob, q.2.1.ob, q.2.2.ob, nI_of1, h2, h3, h5, h6, if_true, if_false, kk, kt, xgo_some, xgo_none, xgoI_none, xcat_n, xcat_i, xcat_r, xcat_z, List.length_nil, List.length_cons, List.getD_cons_zero, List.getD_cons_succ, List.set_cons_zero, List.set_cons_succ, Nat.zero_le, Nat.reduceAdd, Nat.reduceLeDiff, Nat.reduceEqDiff, reduceIte]
            rw [← h6, if_neg Int32.lt_irrefl]
            exact a1
        · rcases hl with ⟨rfl, rfl⟩ | ⟨x, y, rfl, rfl⟩
          all_goals
            simp only [u_X4_choose_0, u_X4_choose_1, u_X4_choose_2, u_X4_choose_5, u_X4_choose_6, u_X4_choose_7, u_X4_choose_8, u_X4_choose_10, u_X4_choose_11, u_X4_choose_12, u_X4_choose_13, u_X4_choose_16, u_X4_choose_19, u_X4_choose_20, u_X4_choose_23, u_X4_choose_24, u_X4_choose_27, u_X4_choose_29, u_X4_choose_30, u_X4_choose_33, u_X4_choose_35, u_X4_choose_38, u_X4_choose_40, u_X4_choose_42, u_X4_choose_43, u_X4_choose_46, u_X4_choose_49, u_X4_choose_51, u_X4_choose_52, u_X4_choose_55, u_X4_choose_58, u_X4_choose_60, u_X4_choose_61, u_X4_choose_64, u_X4_choose_65, u_X4_choose_67, u_X4_choose_70, u_X4_choose_72, u_X4_choose_73, u_X4_choose_74, u_X4_choose_75, u_X4_choose_76, u_X4_choose_79, u_X4_choose_82, u_X4_choose_83, u_X4_choose_84, u_X4_choose_85, u_X4_choose_86, u_X4_choose_87, u_X4_choose_90, u_X4_choose_93, u_X4_choose_96, u_X4_choose_99, qr.ob, q.ob, q.2.1.ob, q.2.2.ob, nI_of1, h2, h3, h6, if_true, if_false, kk, kt, xgo_some, xgo_none, xgoI_none, xcat_n, xcat_i, xcat_r, xcat_z, List.length_nil, List.length_cons, List.getD_cons_zero, List.getD_cons_succ, List.set_cons_zero, List.set_cons_succ, Nat.zero_le, Nat.reduceAdd, Nat.reduceLeDiff, Nat.reduceEqDiff, reduceIte]
            exact a1
end NH
