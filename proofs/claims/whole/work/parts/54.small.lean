/-! The model: small things. -/
section SM
variable {h : xH} {m : Nat} {Z : Nat → Int32} {D : Int64} {A : Nat → Nat → Int32} {X : xS}
theorem m_holds (q : isMo h m Z D A) (p : Int32) : xev 100 [.ref m, .int p] h = some (.inl (some (.int (if p = 0 then 1 else 0))), xso h m 0 (.int p)) := by
  rw [e_X8_holds]
  by_cases h1 : p = 0
  · simp only [u_X8_holds_0, u_X8_holds_1, u_X8_holds_2, u_X8_holds_5, u_X8_holds_6, u_X8_holds_9, u_X8_holds_10, u_X8_holds_13, u_X8_holds_14, q.ob, h1, if_true, or_true, xgo_some, xgo_none, xgoI_none, xcat_n, xcat_i, xcat_r, xcat_z, List.length_nil, List.length_cons, List.getD_cons_zero, List.getD_cons_succ, List.set_cons_zero, List.set_cons_succ, Nat.zero_le, Nat.reduceAdd, Nat.reduceLeDiff, Nat.reduceEqDiff, reduceIte]
  · simp only [u_X8_holds_0, u_X8_holds_1, u_X8_holds_2, u_X8_holds_5, u_X8_holds_6, u_X8_holds_9, u_X8_holds_10, u_X8_holds_13, u_X8_holds_14, q.ob, h1, if_false, true_or, xgo_some, xgo_none, xgoI_none, xcat_n, xcat_i, xcat_r, xcat_z, List.length_nil, List.length_cons, List.getD_cons_zero, List.getD_cons_succ, List.set_cons_zero, List.set_cons_succ, Nat.zero_le, Nat.reduceAdd, Nat.reduceLeDiff, Nat.reduceEqDiff, reduceIte]
theorem m_thrown (q : isMo h m Z D A) : xev 98 [.ref m] h = some (.inl (some (.int (Z 0))), h) := by
  rw [e_X8_thrown]
  simp only [u_X8_thrown_0, u_X8_thrown_1, u_X8_thrown_4, q.ob, xgo_some, xgo_none, xgoI_none, xcat_n, xcat_i, xcat_r, xcat_z, List.length_nil, List.length_cons, List.getD_cons_zero, List.getD_cons_succ, List.set_cons_zero, List.set_cons_succ, Nat.zero_le, Nat.reduceAdd, Nat.reduceLeDiff, Nat.reduceEqDiff, reduceIte]
end SM
