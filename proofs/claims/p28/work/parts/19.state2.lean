/-! A state: what changes it. -/
section ST2
variable {h : xH} {b n : Nat} {f fs sn dp ln se ti : Nat → Int32} {sp go : Int32}
def tiIn (fs sn dp : Nat → Int32) (d : Nat) : Nat → Nat → (Nat → Int32) → (Nat → Int32)
  | _, 0, ti => ti
  | m, k + 1, ti => tiIn fs sn dp d (m + 1) k (if dp m = nI d then va_up ti m (clAt 24 ti (fs m) + clAt 24 ti (sn m)) else ti)
def tiOut (fs sn dp : Nat → Int32) : Nat → Nat → (Nat → Int32) → (Nat → Int32)
  | _, 0, ti => ti
  | d, k + 1, ti => tiOut fs sn dp (d + 1) k (tiIn fs sn dp d 8 16 ti)
def tmF (ti : Nat → Int32) : List Int32 → Int32
  | [] => 0
  | x :: t => clAt 24 ti x + tmF ti t
theorem lp_tiIn (sg : Int32) (d : Nat) (hd : d < 2 ^ 31) : ∀ (k m : Nat) (h : xH) (ti : Nat → Int32) (l4 : Option Value), m + k = 24 → isSt h b n f fs sn dp ln se sp go ti →
    ∃ l4', xf 54 28 [some (.ref b), some (.int sg), some (.int (nI d)), some (.int (nI m)), l4] [] h = xf 54 19 [some (.ref b), some (.int sg), some (.int (nI (d + 1))), some (.int (nI 24)), l4'] [] (setCl h (b + 14) 24 (tiIn fs sn dp d m k ti)) := by
  intro k
  induction k with
  | zero =>
    intro m h ti l4 hk q
    have hm : m = 24 := by omega
    subst hm
    have h2 : ¬ nI 24 < 24 := by decide
    refine ⟨l4, ?_⟩
    rw [u_X6_timesInText_28]
    simp only [u_X6_timesInText_29, u_X6_timesInText_31, u_X6_timesInText_104, u_X6_timesInText_107, h2, if_false, nI_of1, xgo_some, xgo_none, xgoI_none, xcat_n, xcat_i, xcat_r, xcat_z, List.length_nil, List.length_cons, List.getD_cons_zero, List.getD_cons_succ, List.set_cons_zero, List.set_cons_succ, Nat.zero_le, Nat.reduceAdd, Nat.reduceLeDiff, Nat.reduceEqDiff, reduceIte]
    rw [tiIn, setCl_self q.2.2.2.2]
  | succ k ih =>
    intro m h ti l4 hk q
    have h2 : nI m < 24 := nI_lt (b := 24) (by omega) (by omega)
    have hd3 := m_Cells_at q.2.2.1.2.2.2.1 d24 (nI m)
    rw [clAt_nI (by omega) (by decide)] at hd3
    by_cases h3 : dp m = nI d
    · have a1 := m_Cells_at q.2.2.1.2.1 d24 (nI m)
      have a2 := m_Cells_at q.2.2.1.2.2.1 d24 (nI m)
      rw [clAt_nI (by omega) (by decide)] at a1 a2
      have p1 := m_Cells_put_nI q.2.2.2.2 d24.2 (show m < 24 by omega) (clAt 24 ti (fs m) + clAt 24 ti (sn m))
      obtain ⟨l4', e⟩ := ih (m + 1) (setCl h (b + 14) 24 (va_up ti m (clAt 24 ti (fs m) + clAt 24 ti (sn m)))) _ (some (.int (clAt 24 ti (fs m)))) (by omega) (st_ti q)
      refine ⟨l4', ?_⟩
      rw [u_X6_timesInText_28]
      simp only [u_X6_timesInText_0, u_X6_timesInText_1, u_X6_timesInText_4, u_X6_timesInText_5, u_X6_timesInText_8, u_X6_timesInText_9, u_X6_timesInText_12, u_X6_timesInText_13, u_X6_timesInText_14, u_X6_timesInText_17, u_X6_timesInText_18, u_X6_timesInText_20, u_X6_timesInText_22, u_X6_timesInText_25, u_X6_timesInText_27, u_X6_timesInText_29, u_X6_timesInText_31, u_X6_timesInText_34, u_X6_timesInText_35, u_X6_timesInText_38, u_X6_timesInText_41, u_X6_timesInText_42, u_X6_timesInText_45, u_X6_timesInText_46, u_X6_timesInText_49, u_X6_timesInText_50, u_X6_timesInText_53, u_X6_timesInText_54, u_X6_timesInText_57, u_X6_timesInText_60, u_X6_timesInText_61, u_X6_timesInText_64, u_X6_timesInText_67, u_X6_timesInText_69, u_X6_timesInText_70, u_X6_timesInText_73, u_X6_timesInText_74, u_X6_timesInText_76, u_X6_timesInText_77, u_X6_timesInText_80, u_X6_timesInText_81, u_X6_timesInText_84, u_X6_timesInText_87, u_X6_timesInText_88, u_X6_timesInText_91, u_X6_timesInText_94, u_X6_timesInText_95, u_X6_timesInText_98, u_X6_timesInText_101, u_X6_timesInText_104, u_X6_timesInText_107, u_X6_timesInText_110, u_X6_timesInText_111, u_X6_timesInText_112, u_X6_timesInText_113, u_X6_timesInText_115, u_X6_timesInText_116, u_X6_timesInText_119, u_X6_timesInText_122, u_X6_timesInText_125, u_X6_timesInText_126, u_X6_timesInText_127, u_X6_timesInText_130, u_X6_timesInText_131, u_X6_timesInText_134, u_X6_timesInText_135, u_X6_timesInText_138, u_X6_timesInText_141, u_X6_timesInText_142, u_X6_timesInText_143, u_X6_timesInText_146, u_X6_timesInText_149, u_X6_timesInText_150, h2, h3, if_true, q.ob, q.2.2.1.ob, q.2.2.1.2.1.ob, q.2.2.1.2.2.1.ob, q.2.2.1.2.2.2.1.ob, q.2.2.2.2.ob, hd3, a1, a2, m_Cells_at q.2.2.2.2 d24, p1, nI_of1, xgo_some, xgo_none, xgoI_none, xcat_n, xcat_i, xcat_r, xcat_z, List.length_nil, List.length_cons, List.getD_cons_zero, List.getD_cons_succ, List.set_cons_zero, List.set_cons_succ, Nat.zero_le, Nat.reduceAdd, Nat.reduceLeDiff, Nat.reduceEqDiff, reduceIte]
      rw [e, setCl_set, tiIn, if_pos h3]
    · obtain ⟨l4', e⟩ := ih (m + 1) h ti l4 (by omega) q
      refine ⟨l4', ?_⟩
      rw [u_X6_timesInText_28]
      simp only [u_X6_timesInText_0, u_X6_timesInText_1, u_X6_timesInText_4, u_X6_timesInText_5, u_X6_timesInText_8, u_X6_timesInText_9, u_X6_timesInText_12, u_X6_timesInText_13, u_X6_timesInText_14, u_X6_timesInText_17, u_X6_timesInText_18, u_X6_timesInText_20, u_X6_timesInText_22, u_X6_timesInText_25, u_X6_timesInText_27, u_X6_timesInText_29, u_X6_timesInText_31, u_X6_timesInText_34, u_X6_timesInText_35, u_X6_timesInText_38, u_X6_timesInText_41, u_X6_timesInText_42, u_X6_timesInText_45, u_X6_timesInText_46, u_X6_timesInText_49, u_X6_timesInText_50, u_X6_timesInText_53, u_X6_timesInText_54, u_X6_timesInText_57, u_X6_timesInText_60, u_X6_timesInText_61, u_X6_timesInText_64, u_X6_timesInText_67, u_X6_timesInText_69, u_X6_timesInText_70, u_X6_timesInText_73, u_X6_timesInText_74, u_X6_timesInText_76, u_X6_timesInText_77, u_X6_timesInText_80, u_X6_timesInText_81, u_X6_timesInText_84, u_X6_timesInText_87, u_X6_timesInText_88, u_X6_timesInText_91, u_X6_timesInText_94, u_X6_timesInText_95, u_X6_timesInText_98, u_X6_timesInText_101, u_X6_timesInText_104, u_X6_timesInText_107, u_X6_timesInText_110, u_X6_timesInText_111, u_X6_timesInText_112, u_X6_timesInText_113, u_X6_timesInText_115, u_X6_timesInText_116, u_X6_timesInText_119, u_X6_timesInText_122, u_X6_timesInText_125, u_X6_timesInText_126, u_X6_timesInText_127, u_X6_timesInText_130, u_X6_timesInText_131, u_X6_timesInText_134, u_X6_timesInText_135, u_X6_timesInText_138, u_X6_timesInText_141, u_X6_timesInText_142, u_X6_timesInText_143, u_X6_timesInText_146, u_X6_timesInText_149, u_X6_timesInText_150, h2, h3, if_true, if_false, q.ob, q.2.2.1.ob, q.2.2.1.2.2.2.1.ob, hd3, nI_of1, xgo_some, xgo_none, xgoI_none, xcat_n, xcat_i, xcat_r, xcat_z, List.length_nil, List.length_cons, List.getD_cons_zero, List.getD_cons_succ, List.set_cons_zero, List.set_cons_succ, Nat.zero_le, Nat.reduceAdd, Nat.reduceLeDiff, Nat.reduceEqDiff, reduceIte]
      rw [e, tiIn, if_neg h3]
theorem lp_tiOut (sg : Int32) : ∀ (k d : Nat) (h : xH) (ti : Nat → Int32) (l3 l4 : Option Value), d + k = 17 → isSt h b n f fs sn dp ln se sp go ti →
    ∃ l4', xf 54 19 [some (.ref b), some (.int sg), some (.int (nI d)), l3, l4] [] h = xf 54 114 [some (.ref b), some (.int sg), some (.int 0), some (.int 0), l4'] [] (setCl h (b + 14) 24 (tiOut fs sn dp d k ti)) := by
  intro k
  induction k with
  | zero =>
    intro d h ti l3 l4 hk q
    have hd : d = 17 := by omega
    subst hd
    have h2 : (16 : Int32) < nI 17 := by decide
    refine ⟨l4, ?_⟩
    rw [u_X6_timesInText_19]
    simp only [u_X6_timesInText_20, u_X6_timesInText_22, u_X6_timesInText_110, u_X6_timesInText_111, u_X6_timesInText_112, u_X6_timesInText_113, h2, if_true, xgo_some, xgo_none, xgoI_none, xcat_n, xcat_i, xcat_r, xcat_z, List.length_nil, List.length_cons, List.getD_cons_zero, List.getD_cons_succ, List.set_cons_zero, List.set_cons_succ, Nat.zero_le, Nat.reduceAdd, Nat.reduceLeDiff, Nat.reduceEqDiff, reduceIte]
    rw [tiOut, setCl_self q.2.2.2.2]
  | succ k ih =>
    intro d h ti l3 l4 hk q
    have h2 : ¬ (16 : Int32) < nI d := nI_nlt (a := 16) (by omega) (by omega)
    obtain ⟨l4', e⟩ := lp_tiIn sg d (by omega) 16 8 h ti l4 (by omega) q
    obtain ⟨l5, e5⟩ := ih (d + 1) (setCl h (b + 14) 24 (tiIn fs sn dp d 8 16 ti)) _ (some (.int (nI 24))) l4' (by omega) (st_ti q)
    refine ⟨l5, ?_⟩
    rw [u_X6_timesInText_19]
    simp only [u_X6_timesInText_20, u_X6_timesInText_22, u_X6_timesInText_25, u_X6_timesInText_27, h2, if_false, xgo_some, xgo_none, xgoI_none, xcat_n, xcat_i, xcat_r, xcat_z, List.length_nil, List.length_cons, List.getD_cons_zero, List.getD_cons_succ, List.set_cons_zero, List.set_cons_succ, Nat.zero_le, Nat.reduceAdd, Nat.reduceLeDiff, Nat.reduceEqDiff, reduceIte]
    rw [show (8 : Int32) = nI 8 from rfl, e, e5, setCl_set, tiOut]
theorem lp_tmF (q : isSt h b n f fs sn dp ln se sp go ti) (sg : Int32) : ∀ (k m : Nat) (u : Int32) (l4 : Option Value), m + k = n → xf 54 114 [some (.ref b), some (.int sg), some (.int u), some (.int (nI m)), l4] [] h = some (.inl (some (.int (u + tmF ti (seg f m k)))), h) := by
  have hn := q.2.1.2.2
  intro k
  induction k with
  | zero =>
    intro m u l4 hk
    have h2 : ¬ nI m < nI n := nI_nlt (by omega) (by omega)
    rw [u_X6_timesInText_114]
    simp only [u_X6_timesInText_0, u_X6_timesInText_1, u_X6_timesInText_4, u_X6_timesInText_5, u_X6_timesInText_8, u_X6_timesInText_9, u_X6_timesInText_12, u_X6_timesInText_13, u_X6_timesInText_14, u_X6_timesInText_17, u_X6_timesInText_18, u_X6_timesInText_20, u_X6_timesInText_22, u_X6_timesInText_25, u_X6_timesInText_27, u_X6_timesInText_29, u_X6_timesInText_31, u_X6_timesInText_34, u_X6_timesInText_35, u_X6_timesInText_38, u_X6_timesInText_41, u_X6_timesInText_42, u_X6_timesInText_45, u_X6_timesInText_46, u_X6_timesInText_49, u_X6_timesInText_50, u_X6_timesInText_53, u_X6_timesInText_54, u_X6_timesInText_57, u_X6_timesInText_60, u_X6_timesInText_61, u_X6_timesInText_64, u_X6_timesInText_67, u_X6_timesInText_69, u_X6_timesInText_70, u_X6_timesInText_73, u_X6_timesInText_74, u_X6_timesInText_76, u_X6_timesInText_77, u_X6_timesInText_80, u_X6_timesInText_81, u_X6_timesInText_84, u_X6_timesInText_87, u_X6_timesInText_88, u_X6_timesInText_91, u_X6_timesInText_94, u_X6_timesInText_95, u_X6_timesInText_98, u_X6_timesInText_101, u_X6_timesInText_104, u_X6_timesInText_107, u_X6_timesInText_110, u_X6_timesInText_111, u_X6_timesInText_112, u_X6_timesInText_113, u_X6_timesInText_115, u_X6_timesInText_116, u_X6_timesInText_119, u_X6_timesInText_122, u_X6_timesInText_125, u_X6_timesInText_126, u_X6_timesInText_127, u_X6_timesInText_130, u_X6_timesInText_131, u_X6_timesInText_134, u_X6_timesInText_135, u_X6_timesInText_138, u_X6_timesInText_141, u_X6_timesInText_142, u_X6_timesInText_143, u_X6_timesInText_146, u_X6_timesInText_149, u_X6_timesInText_150, q.ob, q.2.1.ob, h2, if_false, xgo_some, xgo_none, xgoI_none, xcat_n, xcat_i, xcat_r, xcat_z, List.length_nil, List.length_cons, List.getD_cons_zero, List.getD_cons_succ, List.set_cons_zero, List.set_cons_succ, Nat.zero_le, Nat.reduceAdd, Nat.reduceLeDiff, Nat.reduceEqDiff, reduceIte]
    simp only [seg, tmF, Int32.add_zero]
  | succ k ih =>
    intro m u l4 hk
    have h2 : nI m < nI n := nI_lt (by omega) (by omega)
    rw [u_X6_timesInText_114]
    simp only [u_X6_timesInText_0, u_X6_timesInText_1, u_X6_timesInText_4, u_X6_timesInText_5, u_X6_timesInText_8, u_X6_timesInText_9, u_X6_timesInText_12, u_X6_timesInText_13, u_X6_timesInText_14, u_X6_timesInText_17, u_X6_timesInText_18, u_X6_timesInText_20, u_X6_timesInText_22, u_X6_timesInText_25, u_X6_timesInText_27, u_X6_timesInText_29, u_X6_timesInText_31, u_X6_timesInText_34, u_X6_timesInText_35, u_X6_timesInText_38, u_X6_timesInText_41, u_X6_timesInText_42, u_X6_timesInText_45, u_X6_timesInText_46, u_X6_timesInText_49, u_X6_timesInText_50, u_X6_timesInText_53, u_X6_timesInText_54, u_X6_timesInText_57, u_X6_timesInText_60, u_X6_timesInText_61, u_X6_timesInText_64, u_X6_timesInText_67, u_X6_timesInText_69, u_X6_timesInText_70, u_X6_timesInText_73, u_X6_timesInText_74, u_X6_timesInText_76, u_X6_timesInText_77, u_X6_timesInText_80, u_X6_timesInText_81, u_X6_timesInText_84, u_X6_timesInText_87, u_X6_timesInText_88, u_X6_timesInText_91, u_X6_timesInText_94, u_X6_timesInText_95, u_X6_timesInText_98, u_X6_timesInText_101, u_X6_timesInText_104, u_X6_timesInText_107, u_X6_timesInText_110, u_X6_timesInText_111, u_X6_timesInText_112, u_X6_timesInText_113, u_X6_timesInText_115, u_X6_timesInText_116, u_X6_timesInText_119, u_X6_timesInText_122, u_X6_timesInText_125, u_X6_timesInText_126, u_X6_timesInText_127, u_X6_timesInText_130, u_X6_timesInText_131, u_X6_timesInText_134, u_X6_timesInText_135, u_X6_timesInText_138, u_X6_timesInText_141, u_X6_timesInText_142, u_X6_timesInText_143, u_X6_timesInText_146, u_X6_timesInText_149, u_X6_timesInText_150, q.ob, q.2.1.ob, q.2.2.2.2.ob, h2, if_true, m_Row_at q.2.1, clAt_lt (show m < n by omega) hn, m_Cells_at q.2.2.2.2 d24, nI_of1, xgo_some, xgo_none, xgoI_none, xcat_n, xcat_i, xcat_r, xcat_z, List.length_nil, List.length_cons, List.getD_cons_zero, List.getD_cons_succ, List.set_cons_zero, List.set_cons_succ, Nat.zero_le, Nat.reduceAdd, Nat.reduceLeDiff, Nat.reduceEqDiff, reduceIte]
    rw [ih (m + 1) _ _ (by omega)]
    simp only [seg, tmF, Int32.add_assoc]
def tiAll (fs sn dp ti : Nat → Int32) (s : Nat) : Nat → Int32 := tiOut fs sn dp 1 16 (va_up (fun i => if i < 24 then 0 else ti i) s 1)
theorem m_State_times (q : isSt h b n f fs sn dp ln se sp go ti) {s : Nat} (hs : s < 24) : xev 54 [.ref b, .int (nI s)] h = some (.inl (some (.int (tmF (tiAll fs sn dp ti s) (seg f 0 n)))), setCl h (b + 14) 24 (tiAll fs sn dp ti s)) := by
  have p1 := m_Cells_fill q.2.2.2.2 d24 0
  have q1 : isSt (setCl h (b + 14) 24 (fun i => if i < 24 then 0 else ti i)) b n f fs sn dp ln se sp go (fun i => if i < 24 then 0 else ti i) := st_ti q
  have p2 := m_Cells_put_nI q1.2.2.2.2 d24.2 hs 1
  rw [setCl_set] at p2
  have q2 : isSt (setCl h (b + 14) 24 (va_up (fun i => if i < 24 then 0 else ti i) s 1)) b n f fs sn dp ln se sp go (va_up (fun i => if i < 24 then 0 else ti i) s 1) := st_ti q
  obtain ⟨l4', e⟩ := lp_tiOut (nI s) 16 1 _ _ none none (by omega) q2
  rw [e_X6_timesInText]
  simp only [u_X6_timesInText_0, u_X6_timesInText_1, u_X6_timesInText_4, u_X6_timesInText_5, u_X6_timesInText_8, u_X6_timesInText_9, u_X6_timesInText_12, u_X6_timesInText_13, u_X6_timesInText_14, u_X6_timesInText_17, u_X6_timesInText_18, u_X6_timesInText_20, u_X6_timesInText_22, u_X6_timesInText_25, u_X6_timesInText_27, u_X6_timesInText_29, u_X6_timesInText_31, u_X6_timesInText_34, u_X6_timesInText_35, u_X6_timesInText_38, u_X6_timesInText_41, u_X6_timesInText_42, u_X6_timesInText_45, u_X6_timesInText_46, u_X6_timesInText_49, u_X6_timesInText_50, u_X6_timesInText_53, u_X6_timesInText_54, u_X6_timesInText_57, u_X6_timesInText_60, u_X6_timesInText_61, u_X6_timesInText_64, u_X6_timesInText_67, u_X6_timesInText_69, u_X6_timesInText_70, u_X6_timesInText_73, u_X6_timesInText_74, u_X6_timesInText_76, u_X6_timesInText_77, u_X6_timesInText_80, u_X6_timesInText_81, u_X6_timesInText_84, u_X6_timesInText_87, u_X6_timesInText_88, u_X6_timesInText_91, u_X6_timesInText_94, u_X6_timesInText_95, u_X6_timesInText_98, u_X6_timesInText_101, u_X6_timesInText_104, u_X6_timesInText_107, u_X6_timesInText_110, u_X6_timesInText_111, u_X6_timesInText_112, u_X6_timesInText_113, u_X6_timesInText_115, u_X6_timesInText_116, u_X6_timesInText_119, u_X6_timesInText_122, u_X6_timesInText_125, u_X6_timesInText_126, u_X6_timesInText_127, u_X6_timesInText_130, u_X6_timesInText_131, u_X6_timesInText_134, u_X6_timesInText_135, u_X6_timesInText_138, u_X6_timesInText_141, u_X6_timesInText_142, u_X6_timesInText_143, u_X6_timesInText_146, u_X6_timesInText_149, u_X6_timesInText_150, q.ob, q1.ob, q.2.2.2.2.ob, q1.2.2.2.2.ob, p1, p2, xgo_some, xgo_none, xgoI_none, xcat_n, xcat_i, xcat_r, xcat_z, List.length_nil, List.length_cons, List.getD_cons_zero, List.getD_cons_succ, List.set_cons_zero, List.set_cons_succ, Nat.zero_le, Nat.reduceAdd, Nat.reduceLeDiff, Nat.reduceEqDiff, reduceIte]
  rw [show (1 : Int32) = nI 1 from rfl] at e ⊢
  rw [e, setCl_set]
  have q3 : isSt (setCl h (b + 14) 24 (tiAll fs sn dp ti s)) b n f fs sn dp ln se sp go (tiAll fs sn dp ti s) := st_ti q
  have := lp_tmF q3 (nI s) n 0 0 l4' (by omega)
  rw [Int32.zero_add] at this
  exact this
/-- the names as one thing -/
abbrev xNs : Type := (Nat → Int32) × (Nat → Int32) × (Nat → Int32) × (Nat → Int32)
def nsOut (N : xNs) (m : Nat) : xNs := (va_up N.1 m (-1), va_up N.2.1 m (-1), va_up N.2.2.1 m 0, va_up N.2.2.2 m 0)
def fgStep (L : List Int32) (d m : Nat) (N : xNs) : xNs := if N.2.2.1 m = nI d ∧ cntI L (nI m) + usN N.1 N.2.1 (nI m) 8 16 = 0 then nsOut N m else N
def fgIn (L : List Int32) (d : Nat) : Nat → Nat → xNs → xNs
  | _, 0, N => N
  | m, k + 1, N => fgIn L d (m + 1) k (fgStep L d m N)
def fgOut (L : List Int32) : Nat → xNs → xNs
  | 0, N => N
  | d + 1, N => fgOut L d (fgIn L (d + 1) 8 16 N)
theorem lp_fgIn (d : Nat) (hd : d < 2 ^ 31) : ∀ (k m : Nat) (h : xH) (N : xNs), m + k = 24 → isSt h b n f N.1 N.2.1 N.2.2.1 N.2.2.2 se sp go ti →
    ∃ h', xf 58 11 [some (.ref b), some (.int (nI d)), some (.int (nI m))] [] h = xf 58 3 [some (.ref b), some (.int (nI d + -1)), some (.int (nI 24))] [] h' ∧ isSt h' b n f (fgIn (seg f 0 n) d m k N).1 (fgIn (seg f 0 n) d m k N).2.1 (fgIn (seg f 0 n) d m k N).2.2.1 (fgIn (seg f 0 n) d m k N).2.2.2 se sp go ti ∧ xFr b (b + 16) h h' := by
  intro k
  induction k with
  | zero =>
    intro m h N hk q
    have hm : m = 24 := by omega
    subst hm
    have h2 : ¬ nI 24 < 24 := by decide
    refine ⟨h, ?_, q, xFr.rf⟩
    rw [u_X6_forgetUnused_11]
    simp only [u_X6_forgetUnused_12, u_X6_forgetUnused_14, u_X6_forgetUnused_54, u_X6_forgetUnused_57, h2, if_false, xgo_some, xgo_none, xgoI_none, xcat_n, xcat_i, xcat_r, xcat_z, List.length_nil, List.length_cons, List.getD_cons_zero, List.getD_cons_succ, List.set_cons_zero, List.set_cons_succ, Nat.zero_le, Nat.reduceAdd, Nat.reduceLeDiff, Nat.reduceEqDiff, reduceIte]
  | succ k ih =>
    intro m h N hk q
    have h2 : nI m < 24 := nI_lt (b := 24) (by omega) (by omega)
    have hd3 := m_Cells_at q.2.2.1.2.2.2.1 d24 (nI m)
    rw [clAt_nI (by omega) (by decide)] at hd3
    have hu := m_State_usesOf q (nI m)
    have hc := cntI_le (seg f 0 n) (nI m)
    rw [seg_len] at hc
    have hn := q.2.1.2.2
    have hu2 := usN_le N.1 N.2.1 (nI m) 16 8
    by_cases h3 : N.2.2.1 m = nI d
    · by_cases h4 : cntI (seg f 0 n) (nI m) + usN N.1 N.2.1 (nI m) 8 16 = 0
      · have p1 := m_Names_forget q.2.2.1 (show m < 24 by omega)
        have q1 : isSt (setNm h (b + 3) (nsOut N m).1 (nsOut N m).2.1 (nsOut N m).2.2.1 (nsOut N m).2.2.2) b n f (nsOut N m).1 (nsOut N m).2.1 (nsOut N m).2.2.1 (nsOut N m).2.2.2 se sp go ti := st_nm q
        obtain ⟨h', e1, e2, e3⟩ := ih (m + 1) _ _ (by omega) q1
        refine ⟨h', ?_, by rw [fgIn, fgStep, if_pos ⟨h3, h4⟩]; exact e2, (xFr.wd xFr_nm (by omega) (by omega)).tr e3⟩
        rw [u_X6_forgetUnused_11]
        simp only [u_X6_forgetUnused_0, u_X6_forgetUnused_2, u_X6_forgetUnused_4, u_X6_forgetUnused_5, u_X6_forgetUnused_8, u_X6_forgetUnused_10, u_X6_forgetUnused_12, u_X6_forgetUnused_14, u_X6_forgetUnused_17, u_X6_forgetUnused_18, u_X6_forgetUnused_21, u_X6_forgetUnused_24, u_X6_forgetUnused_25, u_X6_forgetUnused_28, u_X6_forgetUnused_29, u_X6_forgetUnused_32, u_X6_forgetUnused_33, u_X6_forgetUnused_34, u_X6_forgetUnused_37, u_X6_forgetUnused_40, u_X6_forgetUnused_41, u_X6_forgetUnused_44, u_X6_forgetUnused_45, u_X6_forgetUnused_48, u_X6_forgetUnused_51, u_X6_forgetUnused_54, u_X6_forgetUnused_57, u_X6_forgetUnused_60, h2, h3, h4, nI_0, if_true, q.ob, q.2.2.1.ob, q.2.2.1.2.2.2.1.ob, hd3, hu, p1, nI_of1, xgo_some, xgo_none, xgoI_none, xcat_n, xcat_i, xcat_r, xcat_z, List.length_nil, List.length_cons, List.getD_cons_zero, List.getD_cons_succ, List.set_cons_zero, List.set_cons_succ, Nat.zero_le, Nat.reduceAdd, Nat.reduceLeDiff, Nat.reduceEqDiff, reduceIte]
        exact e1
      · have h4' : ¬ nI (cntI (seg f 0 n) (nI m) + usN N.1 N.2.1 (nI m) 8 16) = 0 := nI_ne0 (by omega) (by omega)
        obtain ⟨h', e1, e2, e3⟩ := ih (m + 1) h N (by omega) q
        refine ⟨h', ?_, by rw [fgIn, fgStep, if_neg (fun z => h4 z.2)]; exact e2, e3⟩
        rw [u_X6_forgetUnused_11]
        simp only [u_X6_forgetUnused_0, u_X6_forgetUnused_2, u_X6_forgetUnused_4, u_X6_forgetUnused_5, u_X6_forgetUnused_8, u_X6_forgetUnused_10, u_X6_forgetUnused_12, u_X6_forgetUnused_14, u_X6_forgetUnused_17, u_X6_forgetUnused_18, u_X6_forgetUnused_21, u_X6_forgetUnused_24, u_X6_forgetUnused_25, u_X6_forgetUnused_28, u_X6_forgetUnused_29, u_X6_forgetUnused_32, u_X6_forgetUnused_33, u_X6_forgetUnused_34, u_X6_forgetUnused_37, u_X6_forgetUnused_40, u_X6_forgetUnused_41, u_X6_forgetUnused_44, u_X6_forgetUnused_45, u_X6_forgetUnused_48, u_X6_forgetUnused_51, u_X6_forgetUnused_54, u_X6_forgetUnused_57, u_X6_forgetUnused_60, h2, h3, h4', if_true, if_false, q.ob, q.2.2.1.ob, q.2.2.1.2.2.2.1.ob, hd3, hu, nI_of1, xgo_some, xgo_none, xgoI_none, xcat_n, xcat_i, xcat_r, xcat_z, List.length_nil, List.length_cons, List.getD_cons_zero, List.getD_cons_succ, List.set_cons_zero, List.set_cons_succ, Nat.zero_le, Nat.reduceAdd, Nat.reduceLeDiff, Nat.reduceEqDiff, reduceIte]
        exact e1
    · obtain ⟨h', e1, e2, e3⟩ := ih (m + 1) h N (by omega) q
      refine ⟨h', ?_, by rw [fgIn, fgStep, if_neg (fun z => h3 z.1)]; exact e2, e3⟩
      rw [u_X6_forgetUnused_11]
      simp only [u_X6_forgetUnused_0, u_X6_forgetUnused_2, u_X6_forgetUnused_4, u_X6_forgetUnused_5, u_X6_forgetUnused_8, u_X6_forgetUnused_10, u_X6_forgetUnused_12, u_X6_forgetUnused_14, u_X6_forgetUnused_17, u_X6_forgetUnused_18, u_X6_forgetUnused_21, u_X6_forgetUnused_24, u_X6_forgetUnused_25, u_X6_forgetUnused_28, u_X6_forgetUnused_29, u_X6_forgetUnused_32, u_X6_forgetUnused_33, u_X6_forgetUnused_34, u_X6_forgetUnused_37, u_X6_forgetUnused_40, u_X6_forgetUnused_41, u_X6_forgetUnused_44, u_X6_forgetUnused_45, u_X6_forgetUnused_48, u_X6_forgetUnused_51, u_X6_forgetUnused_54, u_X6_forgetUnused_57, u_X6_forgetUnused_60, h2, h3, if_true, if_false, q.ob, q.2.2.1.ob, q.2.2.1.2.2.2.1.ob, hd3, nI_of1, xgo_some, xgo_none, xgoI_none, xcat_n, xcat_i, xcat_r, xcat_z, List.length_nil, List.length_cons, List.getD_cons_zero, List.getD_cons_succ, List.set_cons_zero, List.set_cons_succ, Nat.zero_le, Nat.reduceAdd, Nat.reduceLeDiff, Nat.reduceEqDiff, reduceIte]
      exact e1
theorem lp_fgOut : ∀ (d : Nat) (h : xH) (N : xNs) (l2 : Option Value), d ≤ 16 → isSt h b n f N.1 N.2.1 N.2.2.1 N.2.2.2 se sp go ti →
    ∃ h', xf 58 3 [some (.ref b), some (.int (nI d)), l2] [] h = some (.inl none, h') ∧ isSt h' b n f (fgOut (seg f 0 n) d N).1 (fgOut (seg f 0 n) d N).2.1 (fgOut (seg f 0 n) d N).2.2.1 (fgOut (seg f 0 n) d N).2.2.2 se sp go ti ∧ xFr b (b + 16) h h' := by
  intro d
  induction d with
  | zero =>
    intro h N l2 hd q
    have h2 : nI 0 < (1 : Int32) := by decide
    refine ⟨h, ?_, q, xFr.rf⟩
    rw [u_X6_forgetUnused_3]
    simp only [u_X6_forgetUnused_0, u_X6_forgetUnused_2, u_X6_forgetUnused_4, u_X6_forgetUnused_5, u_X6_forgetUnused_8, u_X6_forgetUnused_10, u_X6_forgetUnused_12, u_X6_forgetUnused_14, u_X6_forgetUnused_17, u_X6_forgetUnused_18, u_X6_forgetUnused_21, u_X6_forgetUnused_24, u_X6_forgetUnused_25, u_X6_forgetUnused_28, u_X6_forgetUnused_29, u_X6_forgetUnused_32, u_X6_forgetUnused_33, u_X6_forgetUnused_34, u_X6_forgetUnused_37, u_X6_forgetUnused_40, u_X6_forgetUnused_41, u_X6_forgetUnused_44, u_X6_forgetUnused_45, u_X6_forgetUnused_48, u_X6_forgetUnused_51, u_X6_forgetUnused_54, u_X6_forgetUnused_57, u_X6_forgetUnused_60, h2, if_true, xgo_some, xgo_none, xgoI_none, xcat_n, xcat_i, xcat_r, xcat_z, List.length_nil, List.length_cons, List.getD_cons_zero, List.getD_cons_succ, List.set_cons_zero, List.set_cons_succ, Nat.zero_le, Nat.reduceAdd, Nat.reduceLeDiff, Nat.reduceEqDiff, reduceIte]
  | succ d ih =>
    intro h N l2 hd q
    have h2 : ¬ nI (d + 1) < (1 : Int32) := nI_nlt (b := 1) (by omega) (by omega)
    have e2 : nI (d + 1) + -1 = nI d := by rw [← nI_pred d]; exact (Int32.sub_eq_add_neg _ _).symm
    obtain ⟨h1, a1, a2, a3⟩ := lp_fgIn (d + 1) (by omega) 16 8 h N (by omega) q
    obtain ⟨h', b1, b2, b3⟩ := ih h1 _ (some (.int (nI 24))) (by omega) a2
    refine ⟨h', ?_, b2, a3.tr b3⟩
    rw [u_X6_forgetUnused_3]
    simp only [u_X6_forgetUnused_0, u_X6_forgetUnused_2, u_X6_forgetUnused_4, u_X6_forgetUnused_5, u_X6_forgetUnused_8, u_X6_forgetUnused_10, u_X6_forgetUnused_12, u_X6_forgetUnused_14, u_X6_forgetUnused_17, u_X6_forgetUnused_18, u_X6_forgetUnused_21, u_X6_forgetUnused_24, u_X6_forgetUnused_25, u_X6_forgetUnused_28, u_X6_forgetUnused_29, u_X6_forgetUnused_32, u_X6_forgetUnused_33, u_X6_forgetUnused_34, u_X6_forgetUnused_37, u_X6_forgetUnused_40, u_X6_forgetUnused_41, u_X6_forgetUnused_44, u_X6_forgetUnused_45, u_X6_forgetUnused_48, u_X6_forgetUnused_51, u_X6_forgetUnused_54, u_X6_forgetUnused_57, u_X6_forgetUnused_60, h2, if_false, xgo_some, xgo_none, xgoI_none, xcat_n, xcat_i, xcat_r, xcat_z, List.length_nil, List.length_cons, List.getD_cons_zero, List.getD_cons_succ, List.set_cons_zero, List.set_cons_succ, Nat.zero_le, Nat.reduceAdd, Nat.reduceLeDiff, Nat.reduceEqDiff, reduceIte]
    rw [show (8 : Int32) = nI 8 from rfl, a1, e2, b1]
theorem m_State_forget {N : xNs} (q : isSt h b n f N.1 N.2.1 N.2.2.1 N.2.2.2 se sp go ti) :
    ∃ h', xev 58 [.ref b] h = some (.inl none, h') ∧ isSt h' b n f (fgOut (seg f 0 n) 16 N).1 (fgOut (seg f 0 n) 16 N).2.1 (fgOut (seg f 0 n) 16 N).2.2.1 (fgOut (seg f 0 n) 16 N).2.2.2 se sp go ti ∧ xFr b (b + 16) h h' := by
  obtain ⟨h', a1, a2, a3⟩ := lp_fgOut 16 h N none (by omega) q
  refine ⟨h', ?_, a2, a3⟩
  rw [e_X6_forgetUnused]
  simp only [u_X6_forgetUnused_0, u_X6_forgetUnused_2, u_X6_forgetUnused_4, u_X6_forgetUnused_5, u_X6_forgetUnused_8, u_X6_forgetUnused_10, u_X6_forgetUnused_12, u_X6_forgetUnused_14, u_X6_forgetUnused_17, u_X6_forgetUnused_18, u_X6_forgetUnused_21, u_X6_forgetUnused_24, u_X6_forgetUnused_25, u_X6_forgetUnused_28, u_X6_forgetUnused_29, u_X6_forgetUnused_32, u_X6_forgetUnused_33, u_X6_forgetUnused_34, u_X6_forgetUnused_37, u_X6_forgetUnused_40, u_X6_forgetUnused_41, u_X6_forgetUnused_44, u_X6_forgetUnused_45, u_X6_forgetUnused_48, u_X6_forgetUnused_51, u_X6_forgetUnused_54, u_X6_forgetUnused_57, u_X6_forgetUnused_60, xgo_some, xgo_none, xgoI_none, xcat_n, xcat_i, xcat_r, xcat_z, List.length_nil, List.length_cons, List.getD_cons_zero, List.getD_cons_succ, List.set_cons_zero, List.set_cons_succ, Nat.zero_le, Nat.reduceAdd, Nat.reduceLeDiff, Nat.reduceEqDiff, reduceIte]
  exact a1
/-- copied -/
theorem m_State_copy {d m : Nat} {g f2 s2 d2 l2 se2 ti2 : Nat → Int32} {sp2 go2 : Int32} (q : isSt h b n f fs sn dp ln se sp go ti) (qd : isSt h d m g f2 s2 d2 l2 se2 sp2 go2 ti2) (hd : d + 16 ≤ b ∨ b + 16 ≤ d) :
    ∃ h', xev 48 [.ref b, .ref d] h = some (.inl none, h') ∧ isSt h' b m (fun i => if i < m then g i else f i) (cpy fs f2) (cpy sn s2) (cpy dp d2) (cpy ln l2) (fun i => if i < 2 then se2 i else se i) sp2 go2 ti ∧ xFr b (b + 16) h h' := by
  have p1 := m_Row_copy q.2.1 qd.2.1 (by omega) (by omega) (by omega)
  obtain ⟨h1, e1⟩ : ∃ h1, h1 = setRow h (b + 1) m (fun i => if i < m then g i else f i) := ⟨_, rfl⟩
  have q1 : isSt h1 b m (fun i => if i < m then g i else f i) fs sn dp ln se sp go ti := by rw [e1]; exact st_row q qd.2.1.2.2
  have f1 : xFr b (b + 16) h h1 := by rw [e1]; exact xFr.wd xFr_row (by omega) (by omega)
  rw [← e1] at p1
  have qd1 := isSt_fr qd f1 (by omega)
  have p2 := m_Names_copy q1.2.2.1 qd1.2.2.1 (by omega)
  obtain ⟨h2, e2⟩ : ∃ h2, h2 = setNm h1 (b + 3) (cpy fs f2) (cpy sn s2) (cpy dp d2) (cpy ln l2) := ⟨_, rfl⟩
  have q2 : isSt h2 b m (fun i => if i < m then g i else f i) (cpy fs f2) (cpy sn s2) (cpy dp d2) (cpy ln l2) se sp go ti := by rw [e2]; exact st_nm q1
  have f2' : xFr b (b + 16) h h2 := f1.tr (by rw [e2]; exact xFr.wd xFr_nm (by omega) (by omega))
  rw [← e2] at p2
  have qd2 := isSt_fr qd f2' (by omega)
  have p3 := m_Cells_copy q2.2.2.2.1 qd2.2.2.2.1 (by decide) (by omega) (by omega)
  obtain ⟨h3, e3⟩ : ∃ h3, h3 = setCl h2 (b + 12) 2 (fun i => if i < 2 then se2 i else se i) := ⟨_, rfl⟩
  have q3 : isSt h3 b m (fun i => if i < m then g i else f i) (cpy fs f2) (cpy sn s2) (cpy dp d2) (cpy ln l2) (fun i => if i < 2 then se2 i else se i) sp go ti := by rw [e3]; exact st_se q2
  have f3 : xFr b (b + 16) h h3 := f2'.tr (by rw [e3]; exact xFr.wd xFr_cl (by omega) (by omega))
  rw [← e3] at p3
  have qd3 := isSt_fr qd f3 (by omega)
  obtain ⟨h4, e4⟩ : ∃ h4, h4 = xso h3 b 3 (.int sp2) := ⟨_, rfl⟩
  have q4 : isSt h4 b m (fun i => if i < m then g i else f i) (cpy fs f2) (cpy sn s2) (cpy dp d2) (cpy ln l2) (fun i => if i < 2 then se2 i else se i) sp2 go ti := by rw [e4]; exact st_sp q3 _
  have f4 : xFr b (b + 16) h h4 := f3.tr (by rw [e4]; exact xFr.wd (xFr_sp q3 _) (by omega) (by omega))
  have qd4 := isSt_fr qd f4 (by omega)
  obtain ⟨h5, e5⟩ : ∃ h5, h5 = xso h4 b 4 (.int go2) := ⟨_, rfl⟩
  have q5 : isSt h5 b m (fun i => if i < m then g i else f i) (cpy fs f2) (cpy sn s2) (cpy dp d2) (cpy ln l2) (fun i => if i < 2 then se2 i else se i) sp2 go2 ti := by rw [e5]; exact st_go q4 _
  have f5 : xFr b (b + 16) h h5 := f4.tr (by rw [e5]; exact xFr.wd (xFr_go q4 _) (by omega) (by omega))
  refine ⟨h5, ?_, q5, f5⟩
  rw [e_X6_copyFrom]
  simp only [u_X6_copyFrom_0, u_X6_copyFrom_1, u_X6_copyFrom_4, u_X6_copyFrom_5, u_X6_copyFrom_8, u_X6_copyFrom_11, u_X6_copyFrom_12, u_X6_copyFrom_15, u_X6_copyFrom_16, u_X6_copyFrom_19, u_X6_copyFrom_22, u_X6_copyFrom_23, u_X6_copyFrom_26, u_X6_copyFrom_27, u_X6_copyFrom_30, u_X6_copyFrom_33, u_X6_copyFrom_34, u_X6_copyFrom_35, u_X6_copyFrom_38, u_X6_copyFrom_41, u_X6_copyFrom_42, u_X6_copyFrom_43, u_X6_copyFrom_46, u_X6_copyFrom_49, q.ob, q1.ob, q2.ob, q3.ob, q4.ob, qd.ob, qd1.ob, qd2.ob, qd3.ob, qd4.ob, q.2.1.ob, q1.2.2.1.ob, q2.2.2.2.1.ob, p1, p2, p3, ← e4, ← e5, xgo_some, xgo_none, xgoI_none, xcat_n, xcat_i, xcat_r, xcat_z, List.length_nil, List.length_cons, List.getD_cons_zero, List.getD_cons_succ, List.set_cons_zero, List.set_cons_succ, Nat.zero_le, Nat.reduceAdd, Nat.reduceLeDiff, Nat.reduceEqDiff, reduceIte]
end ST2
