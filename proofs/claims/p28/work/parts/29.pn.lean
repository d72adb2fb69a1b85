/-! The class: its object, and what a call answers. -/
section PN
variable {h : xH} {x : Nat}
def gd (C : List Int32) : Nat → Int32 := fun i => C.getD i 0
def isB (h : xH) (b : Nat) (C : List Int32) : Prop := ∃ f, isBf h b C.length f ∧ seg f 0 C.length = C
theorem seg_get (f : Nat → Int32) : ∀ (k i j : Nat), j < k → (seg f i k).getD j 0 = f (i + j) := by
  intro k
  induction k with
  | zero => intro i j hj; omega
  | succ k ih =>
    intro i j hj
    match j with
    | 0 => rfl
    | j + 1 => rw [seg, List.getD_cons_succ, ih (i + 1) j (by omega), show i + 1 + j = i + (j + 1) by omega]
theorem clAt_cg {N n : Nat} {f g : Nat → Int32} (hn : n ≤ N) (hN : N < 2 ^ 31) (e : ∀ i, i < n → f i = g i) (i : Int32) (hi : i < nI n) : clAt N f i = clAt N g i := by
  unfold clAt
  by_cases h1 : i < 0
  · rw [if_pos h1, if_pos h1]
  · rw [if_neg h1, if_neg h1]
    obtain ⟨j, j1, j2⟩ := nI_of h1
    have : j < n := by
      rw [j2] at hi
      exact (nI_ltI j1 (by omega)).mp hi
    rw [j2, nI_clamp j1, e j this]
theorem bf_gd {b n : Nat} {f : Nat → Int32} (q : isBf h b n f) : bfAt n f = bfAt n (gd (seg f 0 n)) := by
  funext i
  unfold bfAt
  by_cases h1 : i < nI n
  · rw [if_pos h1, if_pos h1]
    refine clAt_cg q.2.2 (by omega) (fun j hj => ?_) i h1
    unfold gd
    rw [seg_get _ _ _ _ hj, Nat.zero_add]
  · rw [if_neg h1, if_neg h1]
theorem tm_cg {n : Nat} {f g : Nat → Int32} (e : bfAt n f = bfAt n g) : tmA n f = tmA n g := by
  funext i
  unfold tmA
  rw [e]
theorem fw_cg {n : Nat} {f g : Nat → Int32} (e : bfAt n f = bfAt n g) : ∀ k m, fwF n f m k = fwF n g m k := by
  intro k
  induction k with
  | zero => intro m; rfl
  | succ k ih => intro m; rw [fwF, fwF, e, ih]
theorem wb_cg {n : Nat} {f g : Nat → Int32} (e : bfAt n f = bfAt n g) : ∀ k m, wbF n f m k = wbF n g m k := by
  intro k
  induction k with
  | zero => intro m; rfl
  | succ k ih => intro m; rw [wbF, wbF, tmN, tmN, e, tm_cg e, ih]
def fwC (C : List Int32) : Nat := fwF C.length (gd C) 0 C.length
def wbC (C : List Int32) : List Int32 := wbF C.length (gd C) 0 C.length
abbrev pP : Type := xS × List xS × List Int32
def isP (h : xH) (x : Nat) (P : pP) : Prop := h.1 x = some (.inr (7, [.ref (x + 1), .ref (x + 17), .ref (x + 115), .ref (x + 118), .ref (x + 123)])) ∧ isS h (x + 1) P.1 ∧ isHi h (x + 17) P.2.1 ∧ isB h (x + 115) P.2.2 ∧ (∃ Z, isN h (x + 118) Z) ∧ ∃ Y, isS h (x + 123) Y
theorem isP.ob {P : pP} (q : isP h x P) : xob h x = (7, [.ref (x + 1), .ref (x + 17), .ref (x + 115), .ref (x + 118), .ref (x + 123)]) := by
  unfold xob
  rw [q.1]
  rfl
theorem isB_fr {h' : xH} {lo hi b : Nat} {C : List Int32} (q : isB h b C) (w : xFr lo hi h h') (hc : b + 3 ≤ lo ∨ hi ≤ b) : isB h' b C := by
  obtain ⟨f, q, e⟩ := q
  exact ⟨f, isBf_fr q w hc, e⟩
theorem P_st {h' : xH} {X X' : xS} {Hs : List xS} {C : List Int32} (q : isP h x (X, Hs, C)) (s : isS h' (x + 1) X') (w : xFr (x + 1) (x + 17) h h') : isP h' x (X', Hs, C) := by
  obtain ⟨q1, q2, q3, q4, ⟨Z, q5⟩, Y, q6⟩ := q
  exact ⟨by rw [w.2 x (by omega)]; exact q1, s, isHi_fr q3 w (by omega), isB_fr q4 w (by omega), ⟨Z, isN_fr q5 w (by omega)⟩, Y, isS_fr q6 w (by omega)⟩
theorem P_hi {h' : xH} {X : xS} {Hs Hs' : List xS} {C : List Int32} (q : isP h x (X, Hs, C)) (s : isHi h' (x + 17) Hs') (w : xFr (x + 17) (x + 115) h h') : isP h' x (X, Hs', C) := by
  obtain ⟨q1, q2, q3, q4, ⟨Z, q5⟩, Y, q6⟩ := q
  exact ⟨by rw [w.2 x (by omega)]; exact q1, isS_fr q2 w (by omega), s, isB_fr q4 w (by omega), ⟨Z, isN_fr q5 w (by omega)⟩, Y, isS_fr q6 w (by omega)⟩
theorem P_bf {h' : xH} {X : xS} {Hs : List xS} {C C' : List Int32} (q : isP h x (X, Hs, C)) (s : isB h' (x + 115) C') (w : xFr (x + 115) (x + 118) h h') : isP h' x (X, Hs, C') := by
  obtain ⟨q1, q2, q3, q4, ⟨Z, q5⟩, Y, q6⟩ := q
  exact ⟨by rw [w.2 x (by omega)]; exact q1, isS_fr q2 w (by omega), isHi_fr q3 w (by omega), s, ⟨Z, isN_fr q5 w (by omega)⟩, Y, isS_fr q6 w (by omega)⟩
theorem P_nt {h' : xH} {X : xS} {Hs : List xS} {C : List Int32} {Z : Int32 × Int32 × Int32 × Int32} {Y : xS} (q : isP h x (X, Hs, C)) (s : isN h' (x + 118) Z) (t : isS h' (x + 123) Y) (w : xFr (x + 118) (x + 139) h h') : isP h' x (X, Hs, C) := by
  obtain ⟨q1, q2, q3, q4, _, _⟩ := q
  exact ⟨by rw [w.2 x (by omega)]; exact q1, isS_fr q2 w (by omega), isHi_fr q3 w (by omega), isB_fr q4 w (by omega), ⟨Z, s⟩, Y, t⟩
theorem P_save {X : xS} {Hs : List xS} {C : List Int32} (q : isP h x (X, Hs, C)) : ∃ h', xev 17 [.ref (x + 17), .ref (x + 1)] h = some (.inl none, h') ∧ isP h' x (X, (X :: Hs).take 6, C) ∧ xFr x (x + 139) h h' := by
  obtain ⟨h', a1, a2, a3⟩ := c_save q.2.2.1 q.2.1 (by omega)
  exact ⟨h', a1, P_hi q a2 (by exact xFr.wd a3 (by omega) (by omega)), xFr.wd a3 (by omega) (by omega)⟩
theorem isS.ob {b : Nat} {X : xS} (q : isS h b X) : xob h b = (6, [.ref (b + 1), .ref (b + 3), .ref (b + 12), .int X.2.2.2.2.1, .int X.2.2.2.2.2, .ref (b + 14)]) := by
  obtain ⟨_, _, _, _, _, _, _, _, o⟩ := q
  exact o.ob
theorem isS.rw {b : Nat} {X : xS} (q : isS h b X) : xob h (b + 1) = (5, [.ref (b + 2), .int (nI X.1.length)]) := by
  obtain ⟨_, n, f, _, _, e, _, _, o⟩ := q
  rw [← e, seg_len]
  exact o.2.1.ob
theorem isS.nm {b : Nat} {X : xS} (q : isS h b X) : xob h (b + 3) = (3, [.ref (b + 4), .ref (b + 6), .ref (b + 8), .ref (b + 10)]) := by
  obtain ⟨_, n, f, _, _, e, _, _, o⟩ := q
  exact o.2.2.1.ob
theorem isS.se {b : Nat} {X : xS} (q : isS h b X) : xob h (b + 12) = (1, [.ref (b + 13)]) := by
  obtain ⟨_, n, f, _, _, e, _, _, o⟩ := q
  exact o.2.2.2.1.ob
theorem isHi.ob {b : Nat} {Hs : List xS} (q : isHi h b Hs) : ∃ fr, xob h b = (2, [.ref (b + 1), .int (nI Hs.length), .int (nI fr)]) := by
  obtain ⟨fr, g, S, q1, _⟩ := q
  exact ⟨fr, q1.ob⟩
theorem isB.ob {b : Nat} {C : List Int32} (q : isB h b C) : xob h b = (0, [.ref (b + 1), .int (nI C.length)]) := by
  obtain ⟨f, q, _⟩ := q
  exact q.ob
theorem isN.ob {b : Nat} {Z : Int32 × Int32 × Int32 × Int32} (q : isN h b Z) : xob h b = (4, [.ref (b + 1), .ref (b + 3), .int Z.1, .int Z.2.1, .int Z.2.2.1, .int Z.2.2.2]) := by
  obtain ⟨_, _, q⟩ := q
  exact q.ob
theorem c_has {b : Nat} {X : xS} (q : isS h b X) (p : Int32) : xev 21 [.ref (b + 3), .int p] h = some (.inl (some (.int (b32 (hasP X.2.1.1 p)))), h) := by
  obtain ⟨_, n, f, _, _, e, _, _, o⟩ := q
  exact m_Names_hasPart o.2.2.1 p
theorem c_takes {b : Nat} {X : xS} (q : isS h b X) {k : Nat} (hk : k < 2 ^ 31) : xev 37 [.ref (b + 1), .int (nI k)] h = some (.inl (some (.int (if X.1.length + k ≤ 64 then 1 else 0))), h) := by
  obtain ⟨_, n, f, _, _, e, _, _, o⟩ := q
  rw [← e, seg_len]
  exact m_Row_takes_nI o.2.1 hk
theorem c_push {b : Nat} {L : List Int32} {T : xNs × Int32 × Int32 × Int32 × Int32} (q : isS h b (L, T)) (p : Int32) (hL : L.length < 64) : ∃ h', xev 38 [.ref (b + 1), .int p] h = some (.inl none, h') ∧ isS h' b (L ++ [p], T) ∧ xFr b (b + 16) h h' := by
  obtain ⟨z, n, f, se, ti, e, e2, e3, o⟩ := q
  simp only at e e2 e3 o z
  rw [← e, seg_len] at hL
  have p1 := m_Row_push o.2.1 p
  rw [if_pos hL] at p1
  refine ⟨_, p1, ⟨z, n + 1, va_up f n p, se, ti, ?_, e2, e3, st_row o (by omega)⟩, xFr.wd xFr_row (by omega) (by omega)⟩
  rw [seg_push, e]
theorem seg_take (f : Nat → Int32) (n k : Nat) (hk : k ≤ n) : seg f 0 k = (seg f 0 n).take k := by
  rw [show n = k + (n - k) by omega, seg_app, List.take_append_of_le_length (by rw [seg_len]; omega), List.take_of_length_le (by rw [seg_len]; omega)]
theorem c_short {b : Nat} {L : List Int32} {T : xNs × Int32 × Int32 × Int32 × Int32} (q : isS h b (L, T)) {k : Nat} (hk : k ≤ L.length) : ∃ h', xev 39 [.ref (b + 1), .int (nI k)] h = some (.inl none, h') ∧ isS h' b (L.take k, T) ∧ xFr b (b + 16) h h' := by
  obtain ⟨z, n, f, se, ti, e, e2, e3, o⟩ := q
  simp only at e e2 e3 o z
  rw [← e, seg_len] at hk
  have p1 := m_Row_shorten o.2.1 hk
  have hn := o.2.1.2.2
  refine ⟨_, p1, ⟨z, k, f, se, ti, ?_, e2, e3, st_row o (by omega)⟩, xFr.wd xFr_row (by omega) (by omega)⟩
  rw [← e]
  exact seg_take f n k hk
theorem c_amount {b : Nat} {X : xS} (q : isS h b X) : xev 22 [.ref (b + 3)] h = some (.inl (some (.int (nI (namN X.2.1.1 8 16)))), h) := by
  obtain ⟨_, n, f, _, _, e, _, _, o⟩ := q
  exact m_Names_amount o.2.2.1
theorem c_at {b : Nat} {X : xS} (q : isS h b X) (i : Int32) : xev 36 [.ref (b + 1), .int i] h = some (.inl (some (.int (clAt X.1.length (gd X.1) i))), h) := by
  obtain ⟨_, n, f, _, _, e, _, _, o⟩ := q
  have hn := o.2.1.2.2
  rw [← e, seg_len, m_Row_at o.2.1]
  by_cases h1 : i < nI n
  · rw [clAt_cg (Nat.le_refl n) (by omega) (fun j hj => ?_) i h1]
    unfold gd
    rw [seg_get _ _ _ _ hj, Nat.zero_add]
  · unfold clAt
    rw [if_neg h1, if_neg h1]
/-- what a call answers: a number and the state after, or the thrown one's number -/
def outP (x : Nat) (h : xH) (r : Option (xR × xH)) (s : (Int32 × pP) ⊕ Nat) : Prop := match s with
  | .inl (v, P) => ∃ h', r = some (.inl (some (.int v)), h') ∧ isP h' x P ∧ xFr x (x + 139) h h'
  | .inr e => r = some (.inr e, xdead h)
def sp_grow (P : pP) : (Int32 × pP) ⊕ Nat := if P.2.2.length = 0 ∨ fwC P.2.2 ≠ P.2.2.length then .inr 0 else if P.1.1.length + (wbC P.2.2).length ≤ 64 then .inl (nI (P.1.1.length + (wbC P.2.2).length), (P.1.1 ++ wbC P.2.2, P.1.2), (P.1 :: P.2.1).take 6, []) else .inr 1
theorem c_isText {b : Nat} {C : List Int32} (q : isB h b C) : xev 7 [.ref b] h = some (.inl (some (.int (if C.length ≠ 0 ∧ fwC C = C.length then 1 else 0))), h) := by
  obtain ⟨f, q, e⟩ := q
  have eb := bf_gd q
  rw [e] at eb
  rw [m_Buf_isText q, fw_cg eb]
  rfl
theorem c_sa {b : Nat} {C : List Int32} (q : isB h b C) : xev 9 [.ref b] h = some (.inl (some (.int (nI (wbC C).length))), h) := by
  obtain ⟨f, q, e⟩ := q
  have eb := bf_gd q
  rw [e] at eb
  rw [m_Buf_sa q, sa_wb, wb_cg eb]
  rfl
theorem wbF_le (N : Nat) (c : Nat → Int32) : ∀ (k m : Nat), (wbF N c m k).length ≤ 9 * k := by
  intro k
  induction k with
  | zero => intro m; exact Nat.le_refl _
  | succ k ih =>
    intro m
    have h1 := ih (m + 1)
    have h2 := (tmN_is N c m).2
    rw [wbF, List.length_append, List.length_replicate]
    omega
theorem c_write {b d : Nat} {L C : List Int32} {T : xNs × Int32 × Int32 × Int32 × Int32} (q : isB h b C) (qs : isS h d (L, T)) (hd : d + 16 ≤ b ∨ b + 3 ≤ d) (hn : L.length + (wbC C).length ≤ 64) : ∃ h', xev 10 [.ref b, .ref (d + 1)] h = some (.inl none, h') ∧ isS h' d (L ++ wbC C, T) ∧ xFr d (d + 16) h h' := by
  obtain ⟨c, q, e⟩ := q
  have eb := bf_gd q
  rw [e] at eb
  obtain ⟨z, n, f, se, ti, g1, g2, g3, o⟩ := qs
  simp only at g1 g2 g3 o z
  have ew : wbF C.length c 0 C.length = wbC C := wb_cg eb _ _
  rw [← g1, seg_len, ← ew] at hn
  obtain ⟨g, a1, a2⟩ := m_Buf_write (by omega) o.2.1 q hn
  refine ⟨_, a1, ⟨z, _, g, se, ti, ?_, g2, g3, st_row o hn⟩, xFr.wd xFr_row (by omega) (by omega)⟩
  rw [a2, g1, ew]
theorem c_empty {b : Nat} {C : List Int32} (q : isB h b C) : ∃ h', xev 3 [.ref b] h = some (.inl none, h') ∧ isB h' b [] ∧ xFr b (b + 3) h h' := by
  obtain ⟨f, q, e⟩ := q
  obtain ⟨h', a1, a2, a3⟩ := m_Buf_empty q
  exact ⟨h', a1, ⟨f, a2, rfl⟩, a3⟩
theorem P_grow {P : pP} (q : isP h x P) : outP x h (xev 63 [.ref x] h) (sp_grow P) := by
  obtain ⟨⟨L, T⟩, Hs, C⟩ := P
  have hC : C.length ≤ 60 := by
    obtain ⟨f, b, _⟩ := q.2.2.2.1
    exact b.2.2
  have hw : (wbC C).length ≤ 9 * C.length := wbF_le _ _ _ _
  have p1 := c_isText q.2.2.2.1
  unfold sp_grow
  rw [e_X7_grow]
  simp only at p1 ⊢
  by_cases h1 : C.length = 0 ∨ fwC C ≠ C.length
  · rw [if_neg (fun z => h1.elim z.1 (fun w => w z.2))] at p1
    rw [if_pos h1]
    unfold outP
    simp only [u_X7_grow_0, u_X7_grow_1, u_X7_grow_4, u_X7_grow_7, u_X7_grow_10, u_X7_grow_20, u_X7_grow_21, u_X7_grow_24, u_X7_grow_27, u_X7_grow_28, u_X7_grow_31, u_X7_grow_34, u_X7_grow_37, u_X7_grow_40, u_X7_grow_50, u_X7_grow_51, u_X7_grow_54, u_X7_grow_55, u_X7_grow_58, u_X7_grow_61, u_X7_grow_62, u_X7_grow_65, u_X7_grow_66, u_X7_grow_69, u_X7_grow_72, u_X7_grow_75, u_X7_grow_76, u_X7_grow_79, u_X7_grow_82, u_X7_grow_83, u_X7_grow_86, u_X7_grow_89, u_X7_grow_92, q.ob, q.2.2.2.1.ob, p1, if_true, xgo_some, xgo_none, xgoI_none, xcat_n, xcat_i, xcat_r, xcat_z, List.length_nil, List.length_cons, List.getD_cons_zero, List.getD_cons_succ, List.set_cons_zero, List.set_cons_succ, Nat.zero_le, Nat.reduceAdd, Nat.reduceLeDiff, Nat.reduceEqDiff, reduceIte]
  · rw [if_pos ⟨fun z => h1 (Or.inl z), Classical.byContradiction (fun z => h1 (Or.inr z))⟩] at p1
    rw [if_neg h1]
    have p2 := c_sa q.2.2.2.1
    have p3 := c_takes q.2.1 (k := (wbC C).length) (by omega)
    simp only at p2 p3
    by_cases h2 : L.length + (wbC C).length ≤ 64
    · rw [if_pos h2] at p3 ⊢
      obtain ⟨h1', b1, b2, b3⟩ := P_save q
      obtain ⟨h2', c1, c2, c3⟩ := c_write b2.2.2.2.1 b2.2.1 (by omega) h2
      have r2 := P_st b2 c2 (by exact xFr.wd c3 (by omega) (by omega))
      obtain ⟨h3', d1, d2, d3⟩ := c_empty r2.2.2.2.1
      have r3 := P_bf r2 d2 (by exact xFr.wd d3 (by omega) (by omega))
      refine ⟨h3', ?_, r3, (b3.tr (xFr.wd c3 (by omega) (by omega))).tr (xFr.wd d3 (by omega) (by omega))⟩
      obtain ⟨fr, ho⟩ := q.2.2.1.ob
      have ro := r3.2.1.rw
      simp only [List.length_append] at ro
      simp only [u_X7_grow_0, u_X7_grow_1, u_X7_grow_4, u_X7_grow_7, u_X7_grow_10, u_X7_grow_20, u_X7_grow_21, u_X7_grow_24, u_X7_grow_27, u_X7_grow_28, u_X7_grow_31, u_X7_grow_34, u_X7_grow_37, u_X7_grow_40, u_X7_grow_50, u_X7_grow_51, u_X7_grow_54, u_X7_grow_55, u_X7_grow_58, u_X7_grow_61, u_X7_grow_62, u_X7_grow_65, u_X7_grow_66, u_X7_grow_69, u_X7_grow_72, u_X7_grow_75, u_X7_grow_76, u_X7_grow_79, u_X7_grow_82, u_X7_grow_83, u_X7_grow_86, u_X7_grow_89, u_X7_grow_92, q.ob, q.2.2.2.1.ob, q.2.1.ob, q.2.1.rw, b2.ob, b2.2.1.ob, b2.2.2.2.1.ob, r2.ob, r2.2.2.2.1.ob, r3.ob, r3.2.1.ob, ro, ho, p1, p2, p3, b1, c1, d1, i10, if_true, if_false, xgo_some, xgo_none, xgoI_none, xcat_n, xcat_i, xcat_r, xcat_z, List.length_nil, List.length_cons, List.getD_cons_zero, List.getD_cons_succ, List.set_cons_zero, List.set_cons_succ, Nat.zero_le, Nat.reduceAdd, Nat.reduceLeDiff, Nat.reduceEqDiff, reduceIte]
    · rw [if_neg h2] at p3 ⊢
      unfold outP
      simp only [u_X7_grow_0, u_X7_grow_1, u_X7_grow_4, u_X7_grow_7, u_X7_grow_10, u_X7_grow_20, u_X7_grow_21, u_X7_grow_24, u_X7_grow_27, u_X7_grow_28, u_X7_grow_31, u_X7_grow_34, u_X7_grow_37, u_X7_grow_40, u_X7_grow_50, u_X7_grow_51, u_X7_grow_54, u_X7_grow_55, u_X7_grow_58, u_X7_grow_61, u_X7_grow_62, u_X7_grow_65, u_X7_grow_66, u_X7_grow_69, u_X7_grow_72, u_X7_grow_75, u_X7_grow_76, u_X7_grow_79, u_X7_grow_82, u_X7_grow_83, u_X7_grow_86, u_X7_grow_89, u_X7_grow_92, q.ob, q.2.2.2.1.ob, q.2.1.ob, q.2.1.rw, p1, p2, p3, i10, if_true, if_false, xgo_some, xgo_none, xgoI_none, xcat_n, xcat_i, xcat_r, xcat_z, List.length_nil, List.length_cons, List.getD_cons_zero, List.getD_cons_succ, List.set_cons_zero, List.set_cons_succ, Nat.zero_le, Nat.reduceAdd, Nat.reduceLeDiff, Nat.reduceEqDiff, reduceIte]
end PN
