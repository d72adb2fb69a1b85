/-! The heap, as what lies at its addresses. -/
theorem xcat_n : xcat none = none := rfl
theorem xcat_i (x : Int32) : xcat (some (.int x)) = some (.int x) := rfl
theorem xcat_r (x : Nat) : xcat (some (.ref x)) = some (.ref x) := rfl
theorem xcat_z : xcat (some .null) = some .null := rfl
theorem xob_up_a (h : xH) (a b : Nat) (x : Nat × vp_A) : xob (xup h a (.inl x)) b = if b = a then (999, []) else xob h b := by
  unfold xob xup
  by_cases hb : b = a <;> simp [hb]
theorem xob_up_o (h : xH) (a b c : Nat) (fs : List Value) (hl : fs.length = xN c) : xob (xup h a (.inr (c, fs))) b = if b = a then (c, fs) else xob h b := by
  unfold xob xup
  by_cases hb : b = a <;> simp [hb, hl]
theorem xai_up_a (h : xH) (a b n : Nat) (f : Nat → Int32) : xai (xup h a (.inl (0, n, .inl f))) b = if b = a then (n, f) else xai h b := by
  unfold xai xup
  by_cases hb : b = a <;> simp [hb]
theorem xai_up_o (h : xH) (a b : Nat) (o : Nat × List Value) : xai (xup h a (.inr o)) b = if b = a then (0, fun _ => 0) else xai h b := by
  unfold xai xup
  by_cases hb : b = a <;> simp [hb]
theorem xob_ext {h h' : xH} {b : Nat} (e : h'.1 b = h.1 b) : xob h' b = xob h b := by unfold xob; rw [e]
theorem xai_ext {h h' : xH} {b : Nat} (e : h'.1 b = h.1 b) : xai h' b = xai h b := by unfold xai; rw [e]
theorem xaq_ext {h h' : xH} {b : Nat} (e : h'.1 b = h.1 b) : xaq h' b = xaq h b := by unfold xaq; rw [e]
theorem xup_at (h : xH) (a : Nat) (e : xE) : (xup h a e).1 a = some e := by simp [xup]
theorem xup_ne (h : xH) {a b : Nat} (e : xE) (hb : b ≠ a) : (xup h a e).1 b = h.1 b := by simp [xup, hb]
theorem xup_2 (h : xH) (a : Nat) (e : xE) : (xup h a e).2 = h.2 := rfl
theorem xup_up (h : xH) (a : Nat) (e e' : xE) : xup (xup h a e) a e' = xup h a e' := by
  unfold xup
  refine Prod.ext (funext fun b => ?_) rfl
  by_cases hb : b = a <;> simp [hb]
theorem xup_comm (h : xH) {a b : Nat} (e e' : xE) (hab : a ≠ b) : xup (xup h a e) b e' = xup (xup h b e') a e := by
  unfold xup
  refine Prod.ext (funext fun c => ?_) rfl
  by_cases hb : c = b
  · subst hb
    simp [Ne.symm hab]
  · by_cases ha : c = a
    · subst ha
      simp [hb]
    · simp [ha, hb]
theorem xup_self (h : xH) (a : Nat) (e : xE) (he : h.1 a = some e) : xup h a e = h := by
  unfold xup
  refine Prod.ext (funext fun c => ?_) rfl
  by_cases hc : c = a
  · simp [hc, he]
  · simp [hc]
theorem xix_nI {k n : Nat} (h : k < n) (hn : n < 2 ^ 31) : xix (nI k) n := by
  have := vp_in_nI (n := k) (N := n) h hn
  exact ⟨fun q => this (Or.inl q), Nat.not_le.mp fun q => this (Or.inr q)⟩
/-- an int that is not below 0, and below n, is a number below n -/
theorem xi_nat {i : Int32} (h : ¬ i < 0) : ∃ k : Nat, k < 2 ^ 31 ∧ i = nI k := nI_of h
theorem nI_clamp' {k : Nat} (h : k < 2 ^ 31) : (nI k).toNatClampNeg = k := nI_clamp h
/-- cells of numbers at c, their array behind it -/
def isCl (h : xH) (c n : Nat) (f : Nat → Int32) : Prop := h.1 c = some (.inr (1, [.ref (c + 1)])) ∧ h.1 (c + 1) = some (.inl (0, n, .inl f))
def setCl (h : xH) (c n : Nat) (f : Nat → Int32) : xH := xup h (c + 1) (.inl (0, n, .inl f))
theorem isCl.ob {h : xH} {c n : Nat} {f : Nat → Int32} (q : isCl h c n f) : xob h c = (1, [.ref (c + 1)]) := by
  unfold xob
  rw [q.1]
  rfl
theorem isCl.ai {h : xH} {c n : Nat} {f : Nat → Int32} (q : isCl h c n f) : xai h (c + 1) = (n, f) := by
  unfold xai
  simp only [q.2]
theorem setCl_is {h : xH} {c n : Nat} {f g : Nat → Int32} (q : isCl h c n f) : isCl (setCl h c n g) c n g := ⟨by unfold setCl; rw [xup_ne _ _ (by omega)]; exact q.1, xup_at _ _ _⟩
theorem setCl_set (h : xH) (c n : Nat) (f g : Nat → Int32) : setCl (setCl h c n f) c n g = setCl h c n g := xup_up _ _ _ _
theorem setCl_self {h : xH} {c n : Nat} {f : Nat → Int32} (q : isCl h c n f) : setCl h c n f = h := xup_self _ _ _ q.2
theorem xsi_cl {h : xH} {c n : Nat} {f : Nat → Int32} (q : isCl h c n f) (k : Nat) (v : Int32) : xsi h (c + 1) k v = setCl h c n (va_up f k v) := by
  unfold xsi setCl
  rw [q.ai]
/-- reading cells -/
def clAt (n : Nat) (f : Nat → Int32) (i : Int32) : Int32 := if i < 0 then -1 else if i < nI n then f i.toNatClampNeg else -1
theorem clAt_nI {n : Nat} {f : Nat → Int32} {k : Nat} (h : k < n) (hn : n < 2 ^ 31) : clAt n f (nI k) = f k := by
  unfold clAt
  rw [if_neg (nI_pos (by omega)), if_pos (nI_lt h hn), nI_clamp (by omega)]
theorem xix_of {n : Nat} {i : Int32} (h1 : ¬ i < 0) (h2 : i < nI n) (hn : n < 2 ^ 31) : xix i n := by
  obtain ⟨k, hk, rfl⟩ := xi_nat h1
  exact xix_nI ((nI_ltI hk hn).mp h2) hn
theorem m_Cells_at {h : xH} {c n : Nat} {f : Nat → Int32} (q : isCl h c n f) (hn : 0 < n ∧ n < 2 ^ 31) (i : Int32) : xev 12 [.ref c, .int i] h = some (.inl (some (.int (clAt n f i))), h) := by
  have ho := q.ob
  have ha := q.ai
  rw [e_X1_at]
  unfold clAt
  by_cases h1 : i < 0
  · simp only [u_X1_at_0, u_X1_at_1, u_X1_at_4, u_X1_at_5, u_X1_at_6, u_X1_at_9, u_X1_at_10, u_X1_at_13, u_X1_at_14, u_X1_at_17, u_X1_at_18, u_X1_at_19, u_X1_at_22, u_X1_at_23, h1, if_true, xgo_some, xgo_none, xgoI_none, xcat_n, xcat_i, xcat_r, xcat_z, List.length_nil, List.length_cons, List.getD_cons_zero, List.getD_cons_succ, List.set_cons_zero, List.set_cons_succ, Nat.zero_le, Nat.reduceAdd, Nat.reduceLeDiff, Nat.reduceEqDiff, reduceIte]
  · by_cases h2 : i < nI n
    · have hx := xix_of h1 h2 hn.2
      have h2' : i < Int32.ofNat n := h2
      simp only [u_X1_at_0, u_X1_at_1, u_X1_at_4, u_X1_at_5, u_X1_at_6, u_X1_at_9, u_X1_at_10, u_X1_at_13, u_X1_at_14, u_X1_at_17, u_X1_at_18, u_X1_at_19, u_X1_at_22, u_X1_at_23, h1, h2, h2', if_true, if_false, ho, ha, hx, hn.1, xgo_some, xgo_none, xgoI_none, xcat_n, xcat_i, xcat_r, xcat_z, List.length_nil, List.length_cons, List.getD_cons_zero, List.getD_cons_succ, List.set_cons_zero, List.set_cons_succ, Nat.zero_le, Nat.reduceAdd, Nat.reduceLeDiff, Nat.reduceEqDiff, reduceIte]
    · have h2' : ¬ i < Int32.ofNat n := h2
      simp only [u_X1_at_0, u_X1_at_1, u_X1_at_4, u_X1_at_5, u_X1_at_6, u_X1_at_9, u_X1_at_10, u_X1_at_13, u_X1_at_14, u_X1_at_17, u_X1_at_18, u_X1_at_19, u_X1_at_22, u_X1_at_23, h1, h2, h2', if_true, if_false, ho, ha, hn.1, xgo_some, xgo_none, xgoI_none, xcat_n, xcat_i, xcat_r, xcat_z, List.length_nil, List.length_cons, List.getD_cons_zero, List.getD_cons_succ, List.set_cons_zero, List.set_cons_succ, Nat.zero_le, Nat.reduceAdd, Nat.reduceLeDiff, Nat.reduceEqDiff, reduceIte]
