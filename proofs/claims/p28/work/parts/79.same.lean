/-! The text of a row: what leaves it as it is. -/
section TX
variable {N M : xNs} {d l : Nat → Nat}
theorem exP_cg (w : wfN M d l) (e : ∀ k, 8 ≤ k → k < 24 → M.1 k ≠ -1 → N.1 k = M.1 k ∧ N.2.1 k = M.2.1 k) : ∀ (n k p : Nat), p < 24 → hsN M p → d p ≤ n → n ≤ k → exP N k p = exP M k p := by
  intro n
  induction n with
  | zero =>
    intro k p h24 hs hd hk
    by_cases h8 : p < 8
    · rw [exP_8 h8, exP_8 h8]
    · obtain ⟨p1, p2, a, b, a24, b24, ea, eb, ha, hb, e, hl⟩ := wf_pr w h24 hs (by omega)
      omega
  | succ n ih =>
    intro k p h24 hs hd hk
    by_cases h8 : p < 8
    · rw [exP_8 h8, exP_8 h8]
    · obtain ⟨p1, p2, a, b, a24, b24, ea, eb, ha, hb, ed, hl⟩ := wf_pr w h24 hs (by omega)
      obtain ⟨k, rfl⟩ : ∃ k', k = k' + 1 := ⟨k - 1, by omega⟩
      obtain ⟨e1, e2⟩ := e p (by omega) h24 (hs.elim (fun z => absurd z h8) id)
      rw [exP, exP, if_neg h8, if_neg h8, e1, e2, ea, eb, nI_clamp (by omega), nI_clamp (by omega), ih k a a24 ha (by omega) (by omega), ih k b b24 hb (by omega) (by omega)]
theorem exL_cg (w : wfN M d l) (e : ∀ k, 8 ≤ k → k < 24 → M.1 k ≠ -1 → N.1 k = M.1 k ∧ N.2.1 k = M.2.1 k) : ∀ L : List Int32, rPr L M → exL N L = exL M L := by
  intro L
  induction L with
  | nil => intro _; rfl
  | cons x t ih =>
    intro pr
    obtain ⟨p, p24, ep, hp⟩ := pr x List.mem_cons_self
    rw [exL, exL, ep, nI_clamp (by omega), exP_cg w e 16 16 p p24 hp (wf_d16 w p24 hp) (Nat.le_refl _), ih (fun y hy => pr y (List.mem_cons_of_mem _ hy))]
theorem exL_sw {L : List Int32} (q : swR L N M) (us : swE L M) (w : wfN N d l) (pr : rPr L N) : exL M L = exL N L :=
  (exL_cg (sw_wf q us w) (fun k _ _ hk => (q.1 k).elim (fun z => ⟨z.1.symm, z.2.1.symm⟩) (fun z => absurd z.2.2.1 hk)) L (sw_pr q pr)).symm
theorem exL_rep {a b c : Nat} (ha : a < 24) (hb : b < 24) (hc : c < 24) (e : exP N 16 c = exP N 16 a ++ exP N 16 b) : ∀ (n : Nat) (L : List Int32), L.length ≤ n → exL N (repI (nI a) (nI b) (nI c) L) = exL N L := by
  intro n
  induction n with
  | zero =>
    intro L hL
    have eL : L = [] := List.eq_nil_of_length_eq_zero (by omega)
    rw [eL]
    rfl
  | succ n ih =>
    intro L hL
    match L, hL with
    | [], _ => rfl
    | [_], _ => rfl
    | x :: y :: t, hL =>
      simp only [List.length_cons] at hL
      rw [repI]
      by_cases h1 : x = nI a ∧ y = nI b
      · rw [if_pos h1, h1.1, h1.2, exL, exL, exL, nI_clamp (by omega), nI_clamp (by omega), nI_clamp (by omega), e, ih t (by omega), List.append_assoc]
      · rw [if_neg h1]
        show exP N 16 x.toNatClampNeg ++ exL N (repI (nI a) (nI b) (nI c) (y :: t)) = exP N 16 x.toNatClampNeg ++ exL N (y :: t)
        rw [ih (y :: t) (by simp only [List.length_cons]; omega)]
/-- a step of naming leaves the text as it is -/
theorem exL_ap {X : xS} (k : okS X) (hg : (fdF X.1 X.2.1 X.2.2.1).2.2.2 ≠ -1) : exL (apF X (fdF X.1 X.2.1 X.2.2.1)).2.1 (apF X (fdF X.1 X.2.1 X.2.2.1)).1 = exL X.2.1 X.1 := by
  obtain ⟨a, c, b, v, a24, c24, b8, b24, eF, ha, hc, ho, hb⟩ := ap_is k hg
  obtain ⟨_, ⟨d', l', w'⟩, _, _, _⟩ := ok_ap k hg
  obtain ⟨hl, ⟨d, l, w⟩, pr, us, o, o2, o9, eo⟩ := k
  rw [eF] at w' ⊢
  have key : ∀ N' : xNs, wfN N' d' l' → N'.1 b = nI a → N'.2.1 b = nI c → (∀ k, 8 ≤ k → k < 24 → X.2.1.1 k ≠ -1 → N'.1 k = X.2.1.1 k ∧ N'.2.1 k = X.2.1.2.1 k) → exL N' (repI (nI a) (nI c) (nI b) X.1) = exL X.2.1 X.1 := by
    intro N' wN e1 e2 hk
    have hb' : N'.1 b ≠ -1 := by rw [e1]; exact nI_nm1 (by omega)
    obtain ⟨p1, p2, a', c', a24', c24', ea, ec, ha', hc', ed, el⟩ := wN.2.2 b b8 b24 hb'
    have ea2 : a' = a := (nI_eq (by omega) (by omega)).mp (ea.symm.trans e1)
    have ec2 : c' = c := (nI_eq (by omega) (by omega)).mp (ec.symm.trans e2)
    subst ea2 ec2
    have es := exP_st wN b24 b8 a24' c24' ea ec ha' hc' ed (wf_d16 wN b24 (Or.inr hb'))
    rw [exL_rep a24' c24' b24 es _ X.1 (Nat.le_refl _)]
    exact exL_cg w hk X.1 pr
  unfold apF at w' ⊢
  simp only at w' ⊢
  rw [nI_clamp (by omega), hasP_nI b8 b24] at w' ⊢
  by_cases hb1 : X.2.1.1 b = -1
  · rw [decide_eq_false (fun z => z hb1), if_neg (by decide)] at w' ⊢
    refine key _ w' (va_up_self _ _ _) (va_up_self _ _ _) ?_
    intro k _ _ hk
    have hne : k ≠ b := fun y => hk (by rw [y]; exact hb1)
    exact ⟨va_up_ne _ _ hne, va_up_ne _ _ hne⟩
  · rw [decide_eq_true hb1, if_pos rfl] at w' ⊢
    obtain ⟨e1, e2⟩ := hb.elim (fun z => absurd z hb1) id
    exact key _ w' e1 e2 (fun _ _ _ _ => ⟨rfl, rfl⟩)
theorem exL_all : ∀ (k n : Nat) (X : xS), okS X → exL (allF k n X).2.2.1 (allF k n X).2.1 = exL X.2.1 X.1 := by
  intro k
  induction k with
  | zero => intro n X q; rfl
  | succ k ih =>
    intro n X q
    rw [allF]
    by_cases g : (fdF X.1 X.2.1 X.2.2.1).2.2.2 = -1
    · rw [if_pos g]
    · rw [if_neg g, ih _ _ (ok_ap q g)]
      exact exL_ap q g
theorem exL_rl {v a b : Nat} (hv : v < 24) (ha : a < 24) (hb : b < 24) (e : exP N 16 v = exP N 16 a ++ exP N 16 b) : ∀ L : List Int32, exL N (rlI (nI v) (nI a) (nI b) L) = exL N L := by
  intro L
  induction L with
  | nil => rfl
  | cons x t ih =>
    rw [rlI]
    by_cases h1 : x = nI v
    · rw [if_pos h1, h1, exL, exL, exL, ih, nI_clamp (by omega), nI_clamp (by omega), nI_clamp (by omega), e, List.append_assoc]
    · rw [if_neg h1, exL, exL, ih]
/-- letting names go leaves the text as it is -/
theorem exL_lg : ∀ (k : Nat) (X : xS), okS X → exL (lgF k X).2.1 (lgF k X).1 = exL X.2.1 X.1 := by
  intro k
  induction k with
  | zero => intro X q; rfl
  | succ k ih =>
    intro X q
    rw [lgF]
    rcases lowL_is X.1 X.2.1 X.2.2.2.1 16 8 (Nat.le_refl _) with e | ⟨v, v8, v24, e, hp, hr, hu, hl⟩
    · rw [if_pos e]
    · rw [if_neg (by rw [e]; exact nI_nm1 (by omega)), e, nI_clamp (by omega)]
      obtain ⟨q1, ⟨d, l, w⟩, pr, us, ho⟩ := q
      have hv : X.2.1.1 v ≠ -1 := ((hs_hasP (by omega)).mp hp).elim (fun z => absurd z (by omega)) id
      obtain ⟨s1, s2, s3⟩ := rl_sw w us v8 (by omega) hv hu
      have pr' := rl_pr w pr v8 (by omega) hv
      have kk : okS (rlI (nI v) (X.2.1.1 v) (X.2.1.2.1 v) X.1, nsOut X.2.1 v, X.2.2.1, X.2.2.2.1, X.2.2.2.2.1, X.2.2.2.2.2 + 1) := ⟨by simp only; rw [rlI_len]; exact hl, ⟨d, l, sw_wf s2 s3 w⟩, sw_pr s2 pr', s3, ho⟩
      rw [ih _ kk]
      show exL (nsOut X.2.1 v) (rlI (nI v) (X.2.1.1 v) (X.2.1.2.1 v) X.1) = _
      rw [exL_sw s2 s3 w pr']
      obtain ⟨p1, p2, a, b, a24, b24, ea, eb, ha, hb, ed, el⟩ := w.2.2 v v8 (by omega) hv
      rw [ea, eb]
      exact exL_rl (by omega) a24 b24 (exP_st w (by omega) v8 a24 b24 ea eb ha hb ed (wf_d16 w (by omega) (Or.inr hv))) X.1
/-- opening a name leaves the text as it is -/
theorem exL_op {L : List Int32} (w : wfN N d l) (us : swE L N) (pr : rPr L N) {k v : Nat} (hk : k < L.length) (hv : gd L k = nI v) (h8 : 8 ≤ v) (h24 : v < 24) (hn : N.1 v ≠ -1) : exL (opN L N k) (opL L N k) = exL N L := by
  obtain ⟨s1, s2⟩ := op_sw us hk hv h8 h24
  obtain ⟨p1, p2, a, b, a24, b24, ea, eb, ha, hb, ed, el⟩ := w.2.2 v h8 h24 hn
  have eo := opL_is (N := N) hv h24
  have pr' : rPr (opL L N k) N := by
    rw [eo, ea, eb]
    refine rPr_app (fun x hx => pr x (List.mem_of_mem_take hx)) (fun x hx => ?_)
    rcases List.mem_cons.mp hx with z | hx
    · exact ⟨a, a24, z, ha⟩
    · rcases List.mem_cons.mp hx with z | hx
      · exact ⟨b, b24, z, hb⟩
      · exact pr x (List.mem_of_mem_drop hx)
  rw [exL_sw s1 s2 w pr']
  have e2 := congrArg (exL N) (row_mid hk)
  rw [e2, eo, hv, exL_app, exL_app, ea, eb, exL, exL, exL, nI_clamp (by omega), nI_clamp (by omega), nI_clamp (by omega), exP_st w h24 h8 a24 b24 ea eb ha hb ed (wf_d16 w h24 (Or.inr hn)), List.append_assoc]
/-- signs are their own text -/
def sgs (R : List Int32) : Prop := ∀ x ∈ R, ∃ p, p < 8 ∧ x = nI p
theorem exL_sgs (N : xNs) : ∀ R : List Int32, sgs R → exL N R = R := by
  intro R
  induction R with
  | nil => intro _; rfl
  | cons x t ih =>
    intro s
    obtain ⟨p, p8, ep⟩ := s x List.mem_cons_self
    rw [exL, ih (fun y hy => s y (List.mem_cons_of_mem _ hy)), ep, nI_clamp (by omega), exP_8 p8]
    rfl
theorem sgs_app {s t : List Int32} (a : sgs s) (b : sgs t) : sgs (s ++ t) := fun x hx => (List.mem_append.mp hx).elim (a x) (b x)
theorem exP_sgs (w : wfN N d l) : ∀ (n p : Nat), p < 24 → hsN N p → d p ≤ n → sgs (exP N 16 p) := by
  intro n
  induction n with
  | zero =>
    intro p h24 hs hd
    by_cases h8 : p < 8
    · rw [exP_8 h8]
      exact fun x hx => ⟨p, h8, List.mem_singleton.mp hx⟩
    · obtain ⟨p1, p2, a, b, a24, b24, ea, eb, ha, hb, e, hl⟩ := wf_pr w h24 hs (by omega)
      omega
  | succ n ih =>
    intro p h24 hs hd
    by_cases h8 : p < 8
    · rw [exP_8 h8]
      exact fun x hx => ⟨p, h8, List.mem_singleton.mp hx⟩
    · obtain ⟨p1, p2, a, b, a24, b24, ea, eb, ha, hb, e, hl⟩ := wf_pr w h24 hs (by omega)
      rw [exP_st w h24 (by omega) a24 b24 ea eb ha hb e (wf_d16 w h24 hs)]
      exact sgs_app (ih a a24 ha (by omega)) (ih b b24 hb (by omega))
theorem exLsgs (w : wfN N d l) : ∀ L : List Int32, rPr L N → sgs (exL N L) := by
  intro L
  induction L with
  | nil => intro _ x hx; cases hx
  | cons x t ih =>
    intro pr
    obtain ⟨p, p24, ep, hp⟩ := pr x List.mem_cons_self
    rw [exL, ep, nI_clamp (by omega)]
    exact sgs_app (exP_sgs w (d p) p p24 hp (Nat.le_refl _)) (ih (fun y hy => pr y (List.mem_cons_of_mem _ hy)))
/-- opening all names leaves the text as it is -/
theorem exL_oa {X : xS} (k : okS X) : exL (fgOut (oaF X 0 (txF X.2.1.2.2.2 X.1).toNatClampNeg) 16 X.2.1) (oaF X 0 (txF X.2.1.2.2.2 X.1).toNatClampNeg) = exL X.2.1 X.1 := by
  obtain ⟨q1, ⟨d, l, w⟩, pr, us, ho⟩ := k
  obtain ⟨b1, b2⟩ := lnL_bd w X.1 pr
  rw [txF_ln w X.1 pr, nI_clamp (by omega)]
  have eo : oaF X 0 (lnL l X.1) = exL X.2.1 X.1 := by
    have := oaF_ex (L := X.1) (N := X.2.1) (T := X.2.2) w pr (by omega) _ 0 (Nat.zero_add _)
    rw [List.drop_zero] at this
    exact this
  rw [eo]
  exact exL_sgs _ _ (exLsgs w X.1 pr)
/-- the same text -/
def sameT (X Y : xS) : Prop := exL X.2.1 X.1 = exL Y.2.1 Y.1
theorem sgR_out (w : wfN N d l) : ∀ (L : List Int32) (r : Nat), rPr L N → lnL l L ≤ r → r < 2 ^ 31 → sgR N.1 N.2.1 N.2.2.2 L (nI r) = -1 := by
  intro L
  induction L with
  | nil => intro r _ _ _; rfl
  | cons x t ih =>
    intro r pr hr hr2
    obtain ⟨p, p24, ep, hp⟩ := pr x List.mem_cons_self
    have l1 := wf_l16 w p24 hp
    rw [lnL, ep, nI_clamp (by omega)] at hr
    rw [sgR, ep, clAt_nI p24 (by decide), wf_len w p24 hp, if_neg (nI_nlt (by omega) (by omega)), nI_sub (by omega)]
    exact ih _ (fun y hy => pr y (List.mem_cons_of_mem _ hy)) (by omega) (by omega)
/-- how long the text is -/
theorem tx_len {X : xS} (k : okS X) : txF X.2.1.2.2.2 X.1 = nI (exL X.2.1 X.1).length ∧ (exL X.2.1 X.1).length ≤ 4194304 := by
  obtain ⟨q1, ⟨d, l, w⟩, pr, us, ho⟩ := k
  obtain ⟨b1, b2⟩ := lnL_bd w X.1 pr
  rw [txF_ln w X.1 pr, exL_len w X.1 pr]
  exact ⟨rfl, by omega⟩
/-- a sign of the text -/
theorem sg_ex {X : xS} (k : okS X) {r : Nat} (hr : r < 2 ^ 31) : sgX X (nI r) = if r < (exL X.2.1 X.1).length then gd (exL X.2.1 X.1) r else -1 := by
  obtain ⟨q1, ⟨d, l, w⟩, pr, us, ho⟩ := k
  obtain ⟨b1, b2⟩ := lnL_bd w X.1 pr
  rw [exL_len w X.1 pr]
  unfold sgX
  by_cases h1 : r < lnL l X.1
  · rw [if_pos h1]
    exact sgR_ex w X.1 r pr (by omega) h1
  · rw [if_neg h1]
    exact sgR_out w X.1 r pr (by omega) hr
end TX
