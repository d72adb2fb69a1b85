/-! Naming. -/
section NG
variable {h : xH} {b r n : Nat} {f : Nat → Int32}
def isNg (h : xH) (b : Nat) (T K : Nat → Int32) (a c o g : Int32) : Prop := h.1 b = some (.inr (4, [.ref (b + 1), .ref (b + 3), .int a, .int c, .int o, .int g])) ∧ isCl h (b + 1) 576 T ∧ isCl h (b + 3) 64 K
theorem isNg.ob {T K : Nat → Int32} {a c o g : Int32} (q : isNg h b T K a c o g) : xob h b = (4, [.ref (b + 1), .ref (b + 3), .int a, .int c, .int o, .int g]) := by
  unfold xob
  rw [q.1]
  rfl
theorem d576 : 0 < 576 ∧ 576 < 2 ^ 31 := by decide
theorem d64 : 0 < 64 ∧ 64 < 2 ^ 31 := by decide
theorem ng_T {T K T2 : Nat → Int32} {a c o g : Int32} (q : isNg h b T K a c o g) : isNg (setCl h (b + 1) 576 T2) b T2 K a c o g :=
  ⟨by rw [setCl_ne (by omega)]; exact q.1, setCl_is q.2.1, isCl_ne q.2.2 (by omega) (by omega)⟩
theorem ng_K {T K K2 : Nat → Int32} {a c o g : Int32} (q : isNg h b T K a c o g) : isNg (setCl h (b + 3) 64 K2) b T K2 a c o g :=
  ⟨by rw [setCl_ne (by omega)]; exact q.1, isCl_ne q.2.1 (by omega) (by omega), setCl_is q.2.2⟩
theorem isNg_fr {h' : xH} {lo hi : Nat} {T K : Nat → Int32} {a c o g : Int32} (q : isNg h b T K a c o g) (w : xFr lo hi h h') (hc : b + 5 ≤ lo ∨ hi ≤ b) : isNg h' b T K a c o g :=
  ⟨by rw [w.2 b (by omega)]; exact q.1, isCl_fr q.2.1 w (by omega), isCl_fr q.2.2 w (by omega)⟩
theorem nI_key (a c : Nat) : nI a * 24 + nI c = nI (a * 24 + c) := by
  rw [← nI_add, show (24 : Int32) = nI 24 from rfl]
  exact congrArg (· + nI c) (Int32.ofNat_mul a 24).symm
theorem lp_tally1 {p : Nat → Nat} (hp : ∀ i, i < n → f i = nI (p i) ∧ p i < 24) (hbr : r + 2 ≤ b ∨ b + 5 ≤ r) {a c o g : Int32} : ∀ (k m : Nat) (h : xH) (T K : Nat → Int32) (l3 : Option Value), m + k = n - 1 → isRow h r n f → isNg h b T K a c o g → (∀ i, i < m → K i = nI (p i * 24 + p (i + 1)) ∧ T (p i * 24 + p (i + 1)) = 0) →
    ∃ h' T2 K2 l3', xf 30 2 [some (.ref b), some (.ref r), some (.int (nI m)), l3, none, none] [] h = xf 30 53 [some (.ref b), some (.ref r), some (.int (nI (n - 1))), l3', none, none] [] h' ∧ isRow h' r n f ∧ isNg h' b T2 K2 a c o g ∧ (∀ i, i + 1 < n → K2 i = nI (p i * 24 + p (i + 1)) ∧ T2 (p i * 24 + p (i + 1)) = 0) ∧ xFr b (b + 5) h h' := by
  intro k
  induction k with
  | zero =>
    intro m h T K l3 hk qr q hT
    have hn := qr.2.2
    have h2 : ¬ nI (m + 1) < nI n := nI_nlt (by omega) (by omega)
    refine ⟨h, T, K, l3, ?_, qr, q, fun i hi => hT i (by omega), xFr.rf⟩
    rw [u_X4_tally_2]
    simp only [u_X4_tally_3, u_X4_tally_4, u_X4_tally_5, u_X4_tally_6, u_X4_tally_9, qr.ob, nI_of1, h2, if_false, xgo_some, xgo_none, xgoI_none, xcat_n, xcat_i, xcat_r, xcat_z, List.length_nil, List.length_cons, List.getD_cons_zero, List.getD_cons_succ, List.set_cons_zero, List.set_cons_succ, Nat.zero_le, Nat.reduceAdd, Nat.reduceLeDiff, Nat.reduceEqDiff, reduceIte]
    rw [show n - 1 = m by omega]
  | succ k ih =>
    intro m h T K l3 hk qr q hT
    have hn := qr.2.2
    have h2 : nI (m + 1) < nI n := nI_lt (by omega) (by omega)
    obtain ⟨e1, g1⟩ := hp m (by omega)
    obtain ⟨e2, g2⟩ := hp (m + 1) (by omega)
    have p1 := m_Cells_put_nI q.2.2 d64.2 (show m < 64 by omega) (nI (p m * 24 + p (m + 1)))
    have q1 : isNg (setCl h (b + 3) 64 (va_up K m (nI (p m * 24 + p (m + 1))))) b T (va_up K m (nI (p m * 24 + p (m + 1)))) a c o g := ng_K q
    have r1 : isRow (setCl h (b + 3) 64 (va_up K m (nI (p m * 24 + p (m + 1))))) r n f := isRow_fr qr xFr_cl (by omega)
    have p2 := m_Cells_put_nI q1.2.1 d576.2 (show p m * 24 + p (m + 1) < 576 by omega) 0
    have q2 : isNg (setCl (setCl h (b + 3) 64 (va_up K m (nI (p m * 24 + p (m + 1))))) (b + 1) 576 (va_up T (p m * 24 + p (m + 1)) 0)) b (va_up T (p m * 24 + p (m + 1)) 0) (va_up K m (nI (p m * 24 + p (m + 1)))) a c o g := ng_T q1
    have r2 : isRow (setCl (setCl h (b + 3) 64 (va_up K m (nI (p m * 24 + p (m + 1))))) (b + 1) 576 (va_up T (p m * 24 + p (m + 1)) 0)) r n f := isRow_fr r1 xFr_cl (by omega)
    obtain ⟨h', T2, K2, l3', a1, a2, a3, a4, a5⟩ := ih (m + 1) _ _ _ (some (.int (nI (p m * 24 + p (m + 1))))) (by omega) r2 q2 (by
      intro i hi
      by_cases hi2 : i = m
      · subst hi2; exact ⟨va_up_self _ _ _, va_up_self _ _ _⟩
      · rw [va_up_ne _ _ hi2]
        refine ⟨(hT i (by omega)).1, ?_⟩
        by_cases h5 : p i * 24 + p (i + 1) = p m * 24 + p (m + 1)
        · rw [h5]; exact va_up_self _ _ _
        · rw [va_up_ne _ _ h5]; exact (hT i (by omega)).2)
    refine ⟨h', T2, K2, l3', ?_, a2, a3, a4, ((xFr.wd xFr_cl (by omega) (by omega)).tr (xFr.wd xFr_cl (by omega) (by omega))).tr a5⟩
    rw [u_X4_tally_2]
    simp only [u_X4_tally_0, u_X4_tally_1, u_X4_tally_3, u_X4_tally_4, u_X4_tally_5, u_X4_tally_6, u_X4_tally_9, u_X4_tally_12, u_X4_tally_13, u_X4_tally_14, u_X4_tally_17, u_X4_tally_19, u_X4_tally_20, u_X4_tally_21, u_X4_tally_22, u_X4_tally_23, u_X4_tally_24, u_X4_tally_27, u_X4_tally_28, u_X4_tally_29, u_X4_tally_30, u_X4_tally_33, u_X4_tally_34, u_X4_tally_35, u_X4_tally_38, u_X4_tally_39, u_X4_tally_42, u_X4_tally_43, u_X4_tally_44, u_X4_tally_47, u_X4_tally_50, u_X4_tally_55, u_X4_tally_56, u_X4_tally_57, u_X4_tally_59, u_X4_tally_60, u_X4_tally_61, u_X4_tally_62, u_X4_tally_65, u_X4_tally_68, u_X4_tally_69, u_X4_tally_70, u_X4_tally_73, u_X4_tally_74, u_X4_tally_75, u_X4_tally_76, u_X4_tally_77, u_X4_tally_80, u_X4_tally_83, u_X4_tally_84, u_X4_tally_87, u_X4_tally_88, u_X4_tally_90, u_X4_tally_92, u_X4_tally_95, u_X4_tally_96, u_X4_tally_97, u_X4_tally_98, u_X4_tally_99, u_X4_tally_102, u_X4_tally_103, u_X4_tally_106, u_X4_tally_107, u_X4_tally_110, u_X4_tally_112, u_X4_tally_113, u_X4_tally_116, u_X4_tally_118, u_X4_tally_119, u_X4_tally_122, u_X4_tally_124, u_X4_tally_127, u_X4_tally_128, u_X4_tally_129, u_X4_tally_132, u_X4_tally_134, u_X4_tally_137, u_X4_tally_138, u_X4_tally_141, u_X4_tally_142, u_X4_tally_143, u_X4_tally_146, u_X4_tally_149, qr.ob, q.ob, q1.ob, q.2.2.ob, q1.2.1.ob, nI_of1, h2, if_true, m_Row_at qr, clAt_lt (show m < n by omega) hn, clAt_lt (show m + 1 < n by omega) hn, e1, e2, nI_key, p1, p2, xgo_some, xgo_none, xgoI_none, xcat_n, xcat_i, xcat_r, xcat_z, List.length_nil, List.length_cons, List.getD_cons_zero, List.getD_cons_succ, List.set_cons_zero, List.set_cons_succ, Nat.zero_le, Nat.reduceAdd, Nat.reduceLeDiff, Nat.reduceEqDiff, reduceIte]
    exact a1
def cntT (x y : Int32) : Bool → List Int32 → Nat
  | tw, u :: v :: t => if u = v then (if tw = true then cntT x y false (v :: t) else (if u = x ∧ v = y then 1 else 0) + cntT x y true (v :: t)) else (if u = x ∧ v = y then 1 else 0) + cntT x y false (v :: t)
  | _, _ => 0
theorem cntT_seg (x y : Int32) (tw : Bool) (f : Nat → Int32) (m n : Nat) (hm : m + 1 < n) : cntT x y tw (seg f m (n - m)) = if f m = f (m + 1) then (if tw = true then cntT x y false (seg f (m + 1) (n - (m + 1))) else (if f m = x ∧ f (m + 1) = y then 1 else 0) + cntT x y true (seg f (m + 1) (n - (m + 1)))) else (if f m = x ∧ f (m + 1) = y then 1 else 0) + cntT x y false (seg f (m + 1) (n - (m + 1))) := by
  rw [seg_hd f m n (by omega), seg_hd f (m + 1) n hm, cntT]
theorem cntT_one (x y : Int32) (tw : Bool) (f : Nat → Int32) (m k : Nat) (hk : k ≤ 1) : cntT x y tw (seg f m k) = 0 := by
  match k, hk with
  | 0, _ => rfl
  | 1, _ => rfl
theorem tal_up {p : Nat → Nat} {T : Nat → Int32} {m x y : Nat} (h1 : p m < 24) (h2 : p (m + 1) < 24) (hx : x < 24) (hy : y < 24) (e1 : f m = nI (p m)) (e2 : f (m + 1) = nI (p (m + 1))) (c : Nat) :
    va_up T (p m * 24 + p (m + 1)) (T (p m * 24 + p (m + 1)) + 1) (x * 24 + y) + nI c = T (x * 24 + y) + nI ((if f m = nI x ∧ f (m + 1) = nI y then 1 else 0) + c) := by
  rw [e1, e2]
  by_cases h5 : p m = x ∧ p (m + 1) = y
  · obtain ⟨h6, h7⟩ := h5
    subst h6 h7
    rw [va_up_self, if_pos ⟨rfl, rfl⟩, ← nI_add, ← Int32.add_assoc]
    rfl
  · rw [va_up_ne _ _ (show x * 24 + y ≠ p m * 24 + p (m + 1) by omega), if_neg (fun z => h5 ⟨(nI_eq (by omega) (by omega)).mp z.1, (nI_eq (by omega) (by omega)).mp z.2⟩), Nat.zero_add]
theorem nI_m1 (m : Nat) : nI (m + 1) - 1 = nI m := nI_pred m
theorem lp_tally2 {p : Nat → Nat} (hp : ∀ i, i < n → f i = nI (p i) ∧ p i < 24) (hbr : r + 2 ≤ b ∨ b + 5 ≤ r) {K : Nat → Int32} {a c o g : Int32} (hK : ∀ i, i + 1 < n → K i = nI (p i * 24 + p (i + 1))) : ∀ (k m : Nat) (h : xH) (T : Nat → Int32) (w : Int32) (l4 l5 : Option Value), m + k = n - 1 → isRow h r n f → isNg h b T K a c o g → w < nI m →
    ∃ h' T2, xf 30 58 [some (.ref b), some (.ref r), some (.int w), some (.int (nI m)), l4, l5] [] h = some (.inl none, h') ∧ isRow h' r n f ∧ isNg h' b T2 K a c o g ∧ (∀ x y, x < 24 → y < 24 → T2 (x * 24 + y) = T (x * 24 + y) + nI (cntT (nI x) (nI y) (decide (w = nI m - 1)) (seg f m (n - m)))) ∧ xFr b (b + 5) h h' := by
  intro k
  induction k with
  | zero =>
    intro m h T w l4 l5 hk qr q hw
    have hn := qr.2.2
    have h2 : ¬ nI (m + 1) < nI n := nI_nlt (by omega) (by omega)
    refine ⟨h, T, ?_, qr, q, fun x y _ _ => ?_, xFr.rf⟩
    · rw [u_X4_tally_58]
      simp only [u_X4_tally_0, u_X4_tally_1, u_X4_tally_3, u_X4_tally_4, u_X4_tally_5, u_X4_tally_6, u_X4_tally_9, u_X4_tally_12, u_X4_tally_13, u_X4_tally_14, u_X4_tally_17, u_X4_tally_19, u_X4_tally_20, u_X4_tally_21, u_X4_tally_22, u_X4_tally_23, u_X4_tally_24, u_X4_tally_27, u_X4_tally_28, u_X4_tally_29, u_X4_tally_30, u_X4_tally_33, u_X4_tally_34, u_X4_tally_35, u_X4_tally_38, u_X4_tally_39, u_X4_tally_42, u_X4_tally_43, u_X4_tally_44, u_X4_tally_47, u_X4_tally_50, u_X4_tally_53, u_X4_tally_55, u_X4_tally_56, u_X4_tally_57, u_X4_tally_59, u_X4_tally_60, u_X4_tally_61, u_X4_tally_62, u_X4_tally_65, u_X4_tally_68, u_X4_tally_69, u_X4_tally_70, u_X4_tally_73, u_X4_tally_74, u_X4_tally_75, u_X4_tally_76, u_X4_tally_77, u_X4_tally_80, u_X4_tally_83, u_X4_tally_84, u_X4_tally_87, u_X4_tally_88, u_X4_tally_90, u_X4_tally_92, u_X4_tally_95, u_X4_tally_96, u_X4_tally_97, u_X4_tally_98, u_X4_tally_99, u_X4_tally_102, u_X4_tally_103, u_X4_tally_106, u_X4_tally_107, u_X4_tally_110, u_X4_tally_112, u_X4_tally_113, u_X4_tally_116, u_X4_tally_118, u_X4_tally_119, u_X4_tally_122, u_X4_tally_124, u_X4_tally_127, u_X4_tally_128, u_X4_tally_129, u_X4_tally_132, u_X4_tally_134, u_X4_tally_137, u_X4_tally_138, u_X4_tally_141, u_X4_tally_142, u_X4_tally_143, u_X4_tally_146, u_X4_tally_149, qr.ob, nI_of1, h2, if_false, xgo_some, xgo_none, xgoI_none, xcat_n, xcat_i, xcat_r, xcat_z, List.length_nil, List.length_cons, List.getD_cons_zero, List.getD_cons_succ, List.set_cons_zero, List.set_cons_succ, Nat.zero_le, Nat.reduceAdd, Nat.reduceLeDiff, Nat.reduceEqDiff, reduceIte]
    · rw [cntT_one _ _ _ _ _ _ (by omega), nI_0, Int32.add_zero]
  | succ k ih =>
    intro m h T w l4 l5 hk qr q hw
    have hn := qr.2.2
    have h2 : nI (m + 1) < nI n := nI_lt (by omega) (by omega)
    have hm1 : m + 1 < n := by omega
    obtain ⟨e1, g1⟩ := hp m (by omega)
    obtain ⟨e2, g2⟩ := hp (m + 1) (by omega)
    have hw2 : w < nI (m + 1) := Int32.lt_trans hw (nI_lt (by omega) (by omega))
    have dw : decide (w = nI (m + 1) - 1) = false := by
      rw [nI_m1]
      exact decide_eq_false (fun z => by rw [z] at hw; exact Int32.lt_irrefl hw)
    have kk := m_Cells_at q.2.2 d64 (nI m)
    rw [clAt_nI (show m < 64 by omega) (by decide), hK m hm1] at kk
    have kt := m_Cells_at q.2.1 d576 (nI (p m * 24 + p (m + 1)))
    rw [clAt_nI (show p m * 24 + p (m + 1) < 576 by omega) (by decide)] at kt
    have p2 := m_Cells_put_nI q.2.1 d576.2 (show p m * 24 + p (m + 1) < 576 by omega) (T (p m * 24 + p (m + 1)) + 1)
    have q2 : isNg (setCl h (b + 1) 576 (va_up T (p m * 24 + p (m + 1)) (T (p m * 24 + p (m + 1)) + 1))) b (va_up T (p m * 24 + p (m + 1)) (T (p m * 24 + p (m + 1)) + 1)) K a c o g := ng_T q
    have r2 : isRow (setCl h (b + 1) 576 (va_up T (p m * 24 + p (m + 1)) (T (p m * 24 + p (m + 1)) + 1))) r n f := isRow_fr qr xFr_cl (by omega)
    by_cases h3 : f m = f (m + 1)
    · by_cases h4 : w = nI m - 1
      · obtain ⟨h', T2, a1, a2, a3, a4, a5⟩ := ih (m + 1) h T w (some (.int 1)) l5 (by omega) qr q hw2
        refine ⟨h', T2, ?_, a2, a3, fun x y hx hy => ?_, a5⟩
        · rw [u_X4_tally_58]
          cases l5 <;> simp only [u_X4_tally_0, u_X4_tally_1, u_X4_tally_3, u_X4_tally_4, u_X4_tally_5, u_X4_tally_6, u_X4_tally_9, u_X4_tally_12, u_X4_tally_13, u_X4_tally_14, u_X4_tally_17, u_X4_tally_19, u_X4_tally_20, u_X4_tally_21, u_X4_tally_22, u_X4_tally_23, u_X4_tally_24, u_X4_tally_27, u_X4_tally_28, u_X4_tally_29, u_X4_tally_30, u_X4_tally_33, u_X4_tally_34, u_X4_tally_35, u_X4_tally_38, u_X4_tally_39, u_X4_tally_42, u_X4_tally_43, u_X4_tally_44, u_X4_tally_47, u_X4_tally_50, u_X4_tally_53, u_X4_tally_55, u_X4_tally_56, u_X4_tally_57, u_X4_tally_59, u_X4_tally_60, u_X4_tally_61, u_X4_tally_62, u_X4_tally_65, u_X4_tally_68, u_X4_tally_69, u_X4_tally_70, u_X4_tally_73, u_X4_tally_74, u_X4_tally_75, u_X4_tally_76, u_X4_tally_77, u_X4_tally_80, u_X4_tally_83, u_X4_tally_84, u_X4_tally_87, u_X4_tally_88, u_X4_tally_90, u_X4_tally_92, u_X4_tally_95, u_X4_tally_96, u_X4_tally_97, u_X4_tally_98, u_X4_tally_99, u_X4_tally_102, u_X4_tally_103, u_X4_tally_106, u_X4_tally_107, u_X4_tally_110, u_X4_tally_112, u_X4_tally_113, u_X4_tally_116, u_X4_tally_118, u_X4_tally_119, u_X4_tally_122, u_X4_tally_124, u_X4_tally_127, u_X4_tally_128, u_X4_tally_129, u_X4_tally_132, u_X4_tally_134, u_X4_tally_137, u_X4_tally_138, u_X4_tally_141, u_X4_tally_142, u_X4_tally_143, u_X4_tally_146, u_X4_tally_149, qr.ob, nI_of1, h2, if_true, if_false, m_Row_at qr, clAt_lt (show m < n by omega) hn, clAt_lt (show m + 1 < n by omega) hn, h3, h4, i10, ne_eq, not_true, true_or, or_true, xgo_some, xgo_none, xgoI_none, xcat_n, xcat_i, xcat_r, xcat_z, List.length_nil, List.length_cons, List.getD_cons_zero, List.getD_cons_succ, List.set_cons_zero, List.set_cons_succ, Nat.zero_le, Nat.reduceAdd, Nat.reduceLeDiff, Nat.reduceEqDiff, reduceIte]
          · rw [← h4]; exact a1
          · rw [← h4]; exact a1
        · rw [a4 x y hx hy, dw, cntT_seg _ _ _ _ _ _ hm1, if_pos h3, if_pos (decide_eq_true h4)]
      · obtain ⟨h', T2, a1, a2, a3, a4, a5⟩ := ih (m + 1) _ _ (nI m) (some (.int 1)) (some (.int (nI (p m * 24 + p (m + 1))))) (by omega) r2 q2 (nI_lt (by omega) (by omega))
        refine ⟨h', T2, ?_, a2, a3, fun x y hx hy => ?_, (xFr.wd xFr_cl (by omega) (by omega)).tr a5⟩
        · rw [u_X4_tally_58]
          cases l5 <;> simp only [u_X4_tally_0, u_X4_tally_1, u_X4_tally_3, u_X4_tally_4, u_X4_tally_5, u_X4_tally_6, u_X4_tally_9, u_X4_tally_12, u_X4_tally_13, u_X4_tally_14, u_X4_tally_17, u_X4_tally_19, u_X4_tally_20, u_X4_tally_21, u_X4_tally_22, u_X4_tally_23, u_X4_tally_24, u_X4_tally_27, u_X4_tally_28, u_X4_tally_29, u_X4_tally_30, u_X4_tally_33, u_X4_tally_34, u_X4_tally_35, u_X4_tally_38, u_X4_tally_39, u_X4_tally_42, u_X4_tally_43, u_X4_tally_44, u_X4_tally_47, u_X4_tally_50, u_X4_tally_53, u_X4_tally_55, u_X4_tally_56, u_X4_tally_57, u_X4_tally_59, u_X4_tally_60, u_X4_tally_61, u_X4_tally_62, u_X4_tally_65, u_X4_tally_68, u_X4_tally_69, u_X4_tally_70, u_X4_tally_73, u_X4_tally_74, u_X4_tally_75, u_X4_tally_76, u_X4_tally_77, u_X4_tally_80, u_X4_tally_83, u_X4_tally_84, u_X4_tally_87, u_X4_tally_88, u_X4_tally_90, u_X4_tally_92, u_X4_tally_95, u_X4_tally_96, u_X4_tally_97, u_X4_tally_98, u_X4_tally_99, u_X4_tally_102, u_X4_tally_103, u_X4_tally_106, u_X4_tally_107, u_X4_tally_110, u_X4_tally_112, u_X4_tally_113, u_X4_tally_116, u_X4_tally_118, u_X4_tally_119, u_X4_tally_122, u_X4_tally_124, u_X4_tally_127, u_X4_tally_128, u_X4_tally_129, u_X4_tally_132, u_X4_tally_134, u_X4_tally_137, u_X4_tally_138, u_X4_tally_141, u_X4_tally_142, u_X4_tally_143, u_X4_tally_146, u_X4_tally_149, qr.ob, q.ob, q.2.1.ob, q.2.2.ob, nI_of1, h2, if_true, if_false, m_Row_at qr, clAt_lt (show m < n by omega) hn, clAt_lt (show m + 1 < n by omega) hn, h3, h4, i10, kk, kt, p2, ne_eq, not_true, not_false_eq_true, true_or, or_true, xgo_some, xgo_none, xgoI_none, xcat_n, xcat_i, xcat_r, xcat_z, List.length_nil, List.length_cons, List.getD_cons_zero, List.getD_cons_succ, List.set_cons_zero, List.set_cons_succ, Nat.zero_le, Nat.reduceAdd, Nat.reduceLeDiff, Nat.reduceEqDiff, reduceIte]
          · exact a1
          · exact a1
        · rw [a4 x y hx hy, cntT_seg _ _ _ _ _ _ hm1, if_pos h3, if_neg (by rw [decide_eq_false h4]; decide), tal_up g1 g2 hx hy e1 e2, decide_eq_true (nI_m1 m).symm]
    · obtain ⟨h', T2, a1, a2, a3, a4, a5⟩ := ih (m + 1) _ _ w (some (.int 0)) (some (.int (nI (p m * 24 + p (m + 1))))) (by omega) r2 q2 hw2
      refine ⟨h', T2, ?_, a2, a3, fun x y hx hy => ?_, (xFr.wd xFr_cl (by omega) (by omega)).tr a5⟩
      · rw [u_X4_tally_58]
        cases l5 <;> simp only [u_X4_tally_0, u_X4_tally_1, u_X4_tally_3, u_X4_tally_4, u_X4_tally_5, u_X4_tally_6, u_X4_tally_9, u_X4_tally_12, u_X4_tally_13, u_X4_tally_14, u_X4_tally_17, u_X4_tally_19, u_X4_tally_20, u_X4_tally_21, u_X4_tally_22, u_X4_tally_23, u_X4_tally_24, u_X4_tally_27, u_X4_tally_28, u_X4_tally_29, u_X4_tally_30, u_X4_tally_33, u_X4_tally_34, u_X4_tally_35, u_X4_tally_38, u_X4_tally_39, u_X4_tally_42, u_X4_tally_43, u_X4_tally_44, u_X4_tally_47, u_X4_tally_50, u_X4_tally_53, u_X4_tally_55, u_X4_tally_56, u_X4_tally_57, u_X4_tally_59, u_X4_tally_60, u_X4_tally_61, u_X4_tally_62, u_X4_tally_65, u_X4_tally_68, u_X4_tally_69, u_X4_tally_70, u_X4_tally_73, u_X4_tally_74, u_X4_tally_75, u_X4_tally_76, u_X4_tally_77, u_X4_tally_80, u_X4_tally_83, u_X4_tally_84, u_X4_tally_87, u_X4_tally_88, u_X4_tally_90, u_X4_tally_92, u_X4_tally_95, u_X4_tally_96, u_X4_tally_97, u_X4_tally_98, u_X4_tally_99, u_X4_tally_102, u_X4_tally_103, u_X4_tally_106, u_X4_tally_107, u_X4_tally_110, u_X4_tally_112, u_X4_tally_113, u_X4_tally_116, u_X4_tally_118, u_X4_tally_119, u_X4_tally_122, u_X4_tally_124, u_X4_tally_127, u_X4_tally_128, u_X4_tally_129, u_X4_tally_132, u_X4_tally_134, u_X4_tally_137, u_X4_tally_138, u_X4_tally_141, u_X4_tally_142, u_X4_tally_143, u_X4_tally_146, u_X4_tally_149, qr.ob, q.ob, q.2.1.ob, q.2.2.ob, nI_of1, h2, if_true, if_false, m_Row_at qr, clAt_lt (show m < n by omega) hn, clAt_lt (show m + 1 < n by omega) hn, h3, kk, kt, p2, ne_eq, not_true, not_false_eq_true, true_or, or_true, xgo_some, xgo_none, xgoI_none, xcat_n, xcat_i, xcat_r, xcat_z, List.length_nil, List.length_cons, List.getD_cons_zero, List.getD_cons_succ, List.set_cons_zero, List.set_cons_succ, Nat.zero_le, Nat.reduceAdd, Nat.reduceLeDiff, Nat.reduceEqDiff, reduceIte]
        · exact a1
        · exact a1
      · rw [a4 x y hx hy, dw, cntT_seg _ _ _ _ _ _ hm1, if_neg h3, tal_up g1 g2 hx hy e1 e2]
end NG
