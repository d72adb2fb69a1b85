/-! What stays true of names and rows. -/
section IV
variable {N M : xNs} {d l : Nat → Nat} {L : List Int32}
theorem cntI_c (x : Int32) (t : List Int32) (p : Int32) : cntI (x :: t) p = (if x = p then 1 else 0) + cntI t p := rfl
theorem fdR_short {L : List Int32} (h2 : ¬ 1 < L.length) : (fdR L).2.2 = 0 := by
  match L, h2 with
  | [], _ => rfl
  | [_], _ => rfl
  | _ :: _ :: _, h2 => simp at h2
theorem cntI_mem {x : Int32} : ∀ {L : List Int32}, x ∈ L → cntI L x ≠ 0 := by
  intro L
  induction L with
  | nil => intro hx; cases hx
  | cons y t ih =>
    intro hx
    rw [cntI]
    rcases List.mem_cons.mp hx with e | hx
    · rw [if_pos e.symm]; omega
    · have := ih hx; omega
theorem sw_pr (q : swR L N M) (pr : rPr L N) : rPr L M := by
  intro x hx
  obtain ⟨p, p24, ep, hp⟩ := pr x hx
  refine ⟨p, p24, ep, ?_⟩
  by_cases h8 : p < 8
  · exact Or.inl h8
  · have hn := hp.elim (fun z => absurd z h8) id
    have hu := q.2 (fun k => N.1 k ≠ -1 ∧ cntI L (nI k) ≠ 0) (fun k _ _ hk => ⟨hk.1, Or.inl hk.2⟩) p (by omega) p24 ⟨hn, by rw [← ep]; exact cntI_mem hx⟩
    exact Or.inr (by rw [hu.1]; exact hn)
theorem sw_wf (q : swR L N M) (e : swE L M) (w : wfN N d l) : wfN M d l := by
  have bM := swR_B q w.1
  have hcl := swE_cl q w.1 e
  have hsg : ∀ k, ¬ (8 ≤ k ∧ k < 24) → M.1 k = N.1 k ∧ M.2.1 k = N.2.1 k ∧ M.2.2.1 k = N.2.2.1 k ∧ M.2.2.2 k = N.2.2.2 k := by
    intro k hk
    rcases q.1 k with z | z
    · exact z
    · exact absurd ⟨z.1, z.2.1⟩ hk
  refine ⟨bM, fun k hk => ?_, fun k h8 h24 hk => ?_⟩
  · obtain ⟨e1, e2, e3, e4⟩ := hsg k (by omega)
    rw [e1, e2, e3, e4]
    exact w.2.1 k hk
  · have hN : M.1 k = N.1 k ∧ M.2.1 k = N.2.1 k ∧ M.2.2.1 k = N.2.2.1 k ∧ M.2.2.2 k = N.2.2.2 k := by
      rcases q.1 k with z | z
      · exact z
      · exact absurd z.2.2.1 hk
    obtain ⟨e1, e2, e3, e4⟩ := hN
    have hk' : N.1 k ≠ -1 := by rw [← e1]; exact hk
    obtain ⟨p1, p2, a, b, a24, b24, ea, eb, ha, hb, ed, el⟩ := w.2.2 k h8 h24 hk'
    have hU : clS L N (fun j => M.1 j ≠ -1 ∨ (N.1 j ≠ -1 ∧ (N.1 k = nI j ∨ N.2.1 k = nI j))) := by
      intro j j8 j24 hj
      rcases hj with hj | hj
      · obtain ⟨c1, c2⟩ := hcl j j8 j24 hj
        refine ⟨c1, c2.elim Or.inl (fun ⟨i, i8, i24, hi, hij⟩ => Or.inr ⟨i, i8, i24, Or.inl hi, hij⟩)⟩
      · exact ⟨hj.1, Or.inr ⟨k, h8, h24, Or.inl hk, hj.2⟩⟩
    have hst : ∀ j, j < 24 → hsN N j → (N.1 k = nI j ∨ N.2.1 k = nI j) → hsN M j := by
      intro j j24 hj hkj
      by_cases j8 : j < 8
      · exact Or.inl j8
      · have hn := hj.elim (fun z => absurd z j8) id
        have := q.2 _ hU j (by omega) j24 (Or.inr ⟨hn, hkj⟩)
        exact Or.inr (by rw [this.1]; exact hn)
    rw [e1, e2, e3, e4]
    exact ⟨p1, p2, a, b, a24, b24, ea, eb, hst a a24 ha (Or.inl ea), hst b b24 hb (Or.inr eb), ed, el⟩
theorem xmax_nI {a b : Nat} (ha : a < 2 ^ 31) (hb : b < 2 ^ 31) : xmax (nI a) (nI b) = nI (max a b) := by
  unfold xmax
  by_cases h1 : a < b
  · rw [if_pos (nI_lt h1 hb)]
    exact congrArg nI (by omega)
  · rw [if_neg (nI_nlt (by omega) ha)]
    exact congrArg nI (by omega)
theorem def_wf (w : wfN N d l) {a c b : Nat} (a24 : a < 24) (c24 : c < 24) (ha : hsN N a) (hc : hsN N c) (b8 : 8 ≤ b) (b24 : b < 24) (hb : N.1 b = -1) : ∃ d' l', wfN (nsDef N b (nI a) (nI c)) d' l' := by
  have nb : ∀ k, hsN N k → k ≠ b := by
    intro k hk z
    subst z
    exact hk.elim (fun y => absurd y (by omega)) (fun y => y hb)
  have hk' : ∀ k, hsN N k → hsN (nsDef N b (nI a) (nI c)) k := by
    intro k hk
    refine hk.elim Or.inl (fun z => Or.inr ?_)
    show va_up N.1 b (nI a) k ≠ -1
    rw [va_up_ne _ _ (nb k hk)]
    exact z
  have da := wf_d16 w a24 ha
  have dc := wf_d16 w c24 hc
  refine ⟨va_up d b (1 + max (d a) (d c)), va_up l b (l a + l c), fun k h8 h24 hk => ?_, fun k h8 => ?_, fun k h8 h24 hk => ?_⟩
  · have hne : k ≠ b := by
      intro z
      subst z
      have hk : va_up N.1 k (nI a) k = -1 := hk
      rw [va_up_self] at hk
      exact nI_nm1 (by omega) hk
    have hk : va_up N.1 b (nI a) k = -1 := hk
    rw [va_up_ne _ _ hne] at hk
    simp only [nsDef, va_up_ne _ _ hne]
    exact w.1 k h8 h24 hk
  · have hne : k ≠ b := by omega
    simp only [nsDef, va_up_ne _ _ hne]
    exact w.2.1 k h8
  · by_cases hne : k = b
    · subst hne
      refine ⟨?_, ?_, a, c, a24, c24, va_up_self _ _ _, va_up_self _ _ _, hk' a ha, hk' c hc, ?_, ?_⟩
      · simp only [nsDef, va_up_self]
        rw [clAt_nI a24 (by decide), clAt_nI c24 (by decide), wf_dep w a24 ha, wf_dep w c24 hc, xmax_nI (by omega) (by omega), show (1 : Int32) = nI 1 from rfl, nI_add]
      · simp only [nsDef, va_up_self]
        rw [clAt_nI a24 (by decide), clAt_nI c24 (by decide), wf_len w a24 ha, wf_len w c24 hc, nI_add]
      · rw [va_up_self, va_up_ne _ _ (nb a ha), va_up_ne _ _ (nb c hc)]
      · rw [va_up_self, va_up_ne _ _ (nb a ha), va_up_ne _ _ (nb c hc)]
    · have hk : va_up N.1 b (nI a) k ≠ -1 := hk
      rw [va_up_ne _ _ hne] at hk
      obtain ⟨p1, p2, x, y, x24, y24, ex, ey, hx, hy, ed, el⟩ := w.2.2 k h8 h24 hk
      refine ⟨?_, ?_, x, y, x24, y24, ?_, ?_, hk' x hx, hk' y hy, ?_, ?_⟩
      · simp only [nsDef, va_up_ne _ _ hne]; exact p1
      · simp only [nsDef, va_up_ne _ _ hne]; exact p2
      · simp only [nsDef, va_up_ne _ _ hne]; exact ex
      · simp only [nsDef, va_up_ne _ _ hne]; exact ey
      · rw [va_up_ne _ _ hne, va_up_ne _ _ (nb x hx), va_up_ne _ _ (nb y hy)]; exact ed
      · rw [va_up_ne _ _ hne, va_up_ne _ _ (nb x hx), va_up_ne _ _ (nb y hy)]; exact el
theorem repI_ge (a b c : Int32) {p : Int32} (hpa : p ≠ a) (hpb : p ≠ b) : ∀ (n : Nat) (L : List Int32), L.length ≤ n → cntI L p ≤ cntI (repI a b c L) p := by
  intro n
  induction n with
  | zero =>
    intro L hL
    have eL : L = [] := List.eq_nil_of_length_eq_zero (by omega)
    rw [eL]
    exact Nat.le_refl _
  | succ n ih =>
    intro L hL
    match L, hL with
    | [], _ => exact Nat.le_refl _
    | [_], _ => exact Nat.le_refl _
    | x :: y :: t, hL =>
      simp only [List.length_cons] at hL
      rw [repI]
      by_cases h1 : x = a ∧ y = b
      · rw [if_pos h1, cntI_c x (y :: t), cntI_c y t, cntI_c c (repI a b c t), if_neg (fun z => hpa (z.symm.trans h1.1)), if_neg (fun z => hpb (z.symm.trans h1.2))]
        have := ih t (by omega)
        omega
      · rw [if_neg h1, cntI_c x (y :: t), cntI_c x (repI a b c (y :: t))]
        have := ih (y :: t) (by simp only [List.length_cons]; omega)
        omega
theorem repI_c (a b c : Int32) : ∀ (n : Nat) (L : List Int32), L.length ≤ n → occI a b L ≤ cntI (repI a b c L) c := by
  intro n
  induction n with
  | zero =>
    intro L hL
    have eL : L = [] := List.eq_nil_of_length_eq_zero (by omega)
    rw [eL]
    exact Nat.zero_le _
  | succ n ih =>
    intro L hL
    match L, hL with
    | [], _ => exact Nat.zero_le _
    | [_], _ => exact Nat.zero_le _
    | x :: y :: t, hL =>
      simp only [List.length_cons] at hL
      rw [repI, occI]
      by_cases h1 : x = a ∧ y = b
      · rw [if_pos h1, if_pos h1, cntI, if_pos rfl]
        have := ih t (by omega)
        omega
      · rw [if_neg h1, if_neg h1, cntI]
        have := ih (y :: t) (by simp only [List.length_cons]; omega)
        omega
theorem usN_up {fs sn : Nat → Int32} {p x y : Int32} {b : Nat} (h1 : fs b = -1) (h2 : sn b = -1) (hp : p ≠ -1) : ∀ (k i : Nat), usN fs sn p i k ≤ usN (va_up fs b x) (va_up sn b y) p i k := by
  intro k
  induction k with
  | zero => intro i; exact Nat.le_refl _
  | succ k ih =>
    intro i
    rw [usN, usN]
    have := ih (i + 1)
    by_cases e : i = b
    · subst e
      rw [h1, h2, if_neg (fun z => hp z.symm)]
      omega
    · rw [va_up_ne _ _ e, va_up_ne _ _ e]
      omega
theorem adj_mem : ∀ (L : List Int32) (p q : Nat), adj L p q → nI p ∈ L ∧ nI q ∈ L := by
  intro L
  induction L with
  | nil => intro p q hh; exact hh.elim
  | cons x t ih =>
    intro p q hh
    match t, ih, hh with
    | [], _, hh => exact hh.elim
    | y :: t, ih, hh =>
      rcases hh with hh | hh
      · exact ⟨by rw [← hh.1]; exact List.mem_cons_self, by rw [← hh.2]; exact List.mem_cons_of_mem _ List.mem_cons_self⟩
      · obtain ⟨i1, i2⟩ := ih p q hh
        exact ⟨List.mem_cons_of_mem _ i1, List.mem_cons_of_mem _ i2⟩
/-- the state as it should be -/
def okS (X : xS) : Prop := X.1.length ≤ 64 ∧ (∃ d l, wfN X.2.1 d l) ∧ rPr X.1 X.2.1 ∧ swE X.1 X.2.1 ∧ ∃ o, 2 ≤ o ∧ o ≤ 9 ∧ X.2.2.1 = nI o
theorem ap_is {X : xS} (k : okS X) (hg : (fdF X.1 X.2.1 X.2.2.1).2.2.2 ≠ -1) : ∃ a c b v, a < 24 ∧ c < 24 ∧ 8 ≤ b ∧ b < 24 ∧ fdF X.1 X.2.1 X.2.2.1 = (nI a, nI c, v, nI b) ∧ hsN X.2.1 a ∧ hsN X.2.1 c ∧ occI (nI a) (nI c) X.1 ≠ 0 ∧ (X.2.1.1 b = -1 ∨ (X.2.1.1 b = nI a ∧ X.2.1.2.1 b = nI c)) := by
  obtain ⟨hl, ⟨d, l, w⟩, pr, us, o, o2, o9, eo⟩ := k
  have hR := rPr_ok pr
  have ha : 0 < X.2.2.1 := by rw [eo, ← nI_0]; exact nI_lt (by omega) (by omega)
  have hG : fdG X.1 X.2.1 X.2.2.1 ≠ -1 := by
    intro z
    exact hg (by unfold fdF; rw [if_pos z])
  have eF : fdF X.1 X.2.1 X.2.2.1 = ((fdR X.1).1, (fdR X.1).2.1, (fdR X.1).2.2, fdG X.1 X.2.1 X.2.2.1) := if_neg hG
  have h6 : ¬ (fdR X.1).2.2 < X.2.2.1 := by
    intro z
    exact hG (if_pos z)
  by_cases h2 : 1 < X.1.length
  · obtain ⟨a, c, a24, c24, e, _⟩ := fdR_best hl hR h2
    have hv : vN X.1 a c ≠ 0 := by
      intro z
      refine h6 ?_
      rw [e, z, eo]
      exact nI_lt (by omega) (by omega)
    obtain ⟨m1, m2⟩ := adj_mem X.1 a c (occ_adj a c _ X.1 (Nat.le_refl _) hv)
    have hm : ∀ j, j < 24 → nI j ∈ X.1 → hsN X.2.1 j := by
      intro j j24 hj
      obtain ⟨p, p24, ep, hp⟩ := pr _ hj
      rw [(nI_eq (by omega) (by omega)).mp ep]
      exact hp
    have eG : fdG X.1 X.2.1 X.2.2.1 = nmF X.2.1.1 X.2.1.2.1 (fdR X.1).1 (fdR X.1).2.1 16 (-1) := if_neg h6
    rw [e] at eG
    simp only at eG
    rcases nmF_pr X.2.1.1 X.2.1.2.1 (nI a) (nI c) 16 (-1) (Nat.le_refl _) with z | ⟨b, b1, b2, b3, b4⟩
    · exact absurd (eG.trans z) hG
    · refine ⟨a, c, b, (fdR X.1).2.2, a24, c24, b1, by omega, ?_, hm a a24 m1, hm c c24 m2, hv, b4⟩
      rw [eF, eG, b3, e]
  · refine absurd ?_ h6
    have e : (fdR X.1).2.2 = 0 := fdR_short h2
    rw [e]
    exact ha
theorem ok_ap {X : xS} (k : okS X) (hg : (fdF X.1 X.2.1 X.2.2.1).2.2.2 ≠ -1) : okS (apF X (fdF X.1 X.2.1 X.2.2.1)) := by
  obtain ⟨a, c, b, v, a24, c24, b8, b24, eF, ha, hc, ho, hb⟩ := ap_is k hg
  obtain ⟨hl, ⟨d, l, w⟩, pr, us, o, o2, o9, eo⟩ := k
  rw [eF]
  have hle := repI_le (nI a) (nI c) (nI b) _ X.1 (Nat.le_refl _)
  have hcb := repI_c (nI a) (nI c) (nI b) _ X.1 (Nat.le_refl _)
  have mem : ∀ x, x ∈ repI (nI a) (nI c) (nI b) X.1 → x = nI b ∨ x ∈ X.1 := fun x hx => repI_mem _ _ _ _ X.1 (Nat.le_refl _) x hx
  have key : ∀ N' : xNs, (∃ d l, wfN N' d l) → N'.1 b = nI a → N'.2.1 b = nI c → (∀ k, k < 24 → hsN X.2.1 k → hsN N' k) → (∀ k, 8 ≤ k → k < 24 → k ≠ b → N'.1 k = X.2.1.1 k) → (∀ k, 8 ≤ k → k < 24 → usN X.2.1.1 X.2.1.2.1 (nI k) 8 16 ≤ usN N'.1 N'.2.1 (nI k) 8 16) → okS (repI (nI a) (nI c) (nI b) X.1, N', X.2.2.1, X.2.2.2.1, X.2.2.2.2.1 + 1, X.2.2.2.2.2) := by
    intro N' w' e1 e2 hs' hne hus
    refine ⟨by simp only; omega, w', ?_, ?_, o, o2, o9, eo⟩
    · intro x hx
      rcases mem x hx with e | hx
      · exact ⟨b, b24, e, Or.inr (by simp only; rw [e1]; exact nI_nm1 (by omega))⟩
      · obtain ⟨p, p24, ep, hp⟩ := pr x hx
        exact ⟨p, p24, ep, hs' p p24 hp⟩
    · intro j j8 j24 hj
      simp only at hj ⊢
      by_cases e : j = b
      · subst e; omega
      · by_cases ea : j = a
        · have := usN_pos (fs := N'.1) (sn := N'.2.1) (p := nI j) (j := b) (Or.inl (by rw [e1, ea])) 16 8 b8 (by omega)
          omega
        · by_cases ec : j = c
          · have := usN_pos (fs := N'.1) (sn := N'.2.1) (p := nI j) (j := b) (Or.inr (by rw [e2, ec])) 16 8 b8 (by omega)
            omega
          · have h1 := us j j8 j24 (by rw [← hne j j8 j24 e]; exact hj)
            have h2 := repI_ge (nI a) (nI c) (nI b) (p := nI j) (fun z => ea ((nI_eq (by omega) (by omega)).mp z)) (fun z => ec ((nI_eq (by omega) (by omega)).mp z)) _ X.1 (Nat.le_refl _)
            have h3 := hus j j8 j24
            omega
  unfold apF
  simp only
  rw [nI_clamp (by omega), hasP_nI b8 b24]
  by_cases hb1 : X.2.1.1 b = -1
  · rw [decide_eq_false (fun z => z hb1), if_neg (by decide)]
    have bb := (w.1 b b8 b24 hb1).1
    refine key _ (def_wf w a24 c24 ha hc b8 b24 hb1) (va_up_self _ _ _) (va_up_self _ _ _) ?_ ?_ ?_
    · intro k k24 hk
      refine hk.elim Or.inl (fun z => Or.inr ?_)
      show va_up X.2.1.1 b (nI a) k ≠ -1
      rw [va_up_ne _ _ (fun y => z (by rw [y]; exact hb1))]
      exact z
    · intro k _ _ hk
      exact va_up_ne _ _ hk
    · intro k k8 k24
      exact usN_up hb1 bb (nI_nm1 (by omega)) 16 8
  · rw [decide_eq_true hb1, if_pos rfl]
    obtain ⟨e1, e2⟩ := hb.elim (fun z => absurd z hb1) id
    exact key _ ⟨d, l, w⟩ e1 e2 (fun _ _ z => z) (fun _ _ _ _ => rfl) (fun _ _ _ => Nat.le_refl _)
theorem ok_all : ∀ (k n : Nat) (X : xS), okS X → okS (allF k n X).2 := by
  intro k
  induction k with
  | zero => intro n X q; exact q
  | succ k ih =>
    intro n X q
    rw [allF]
    by_cases g : (fdF X.1 X.2.1 X.2.2.1).2.2.2 = -1
    · rw [if_pos g]; exact q
    · rw [if_neg g]; exact ih _ _ (ok_ap q g)
theorem ok_tr {X : xS} (k : okS X) {o : Nat} (o2 : 2 ≤ o) (o9 : o ≤ 9) : okS (trX X (nI o)) := by
  obtain ⟨hl, w, pr, us, _⟩ := k
  exact ok_all _ _ _ ⟨hl, w, pr, us, o, o2, o9, rfl⟩
theorem rlI_len (v a c : Int32) : ∀ L : List Int32, (rlI v a c L).length = L.length + cntI L v := by
  intro L
  induction L with
  | nil => rfl
  | cons x t ih =>
    rw [rlI, cntI]
    by_cases h1 : x = v
    · rw [if_pos h1, if_pos h1, List.length_cons, List.length_cons, List.length_cons, ih]; omega
    · rw [if_neg h1, if_neg h1, List.length_cons, List.length_cons, ih]; omega
theorem rlI_mem (v a c : Int32) : ∀ (L : List Int32) (x : Int32), x ∈ rlI v a c L → x = a ∨ x = c ∨ (x ∈ L ∧ x ≠ v) := by
  intro L
  induction L with
  | nil => intro x hx; cases hx
  | cons y t ih =>
    intro x hx
    rw [rlI] at hx
    by_cases h1 : y = v
    · rw [if_pos h1] at hx
      rcases List.mem_cons.mp hx with e | hx
      · exact Or.inl e
      · rcases List.mem_cons.mp hx with e | hx
        · exact Or.inr (Or.inl e)
        · rcases ih x hx with z | z | z
          · exact Or.inl z
          · exact Or.inr (Or.inl z)
          · exact Or.inr (Or.inr ⟨List.mem_cons_of_mem _ z.1, z.2⟩)
    · rw [if_neg h1] at hx
      rcases List.mem_cons.mp hx with e | hx
      · exact Or.inr (Or.inr ⟨by rw [e]; exact List.mem_cons_self, by rw [e]; exact h1⟩)
      · rcases ih x hx with z | z | z
        · exact Or.inl z
        · exact Or.inr (Or.inl z)
        · exact Or.inr (Or.inr ⟨List.mem_cons_of_mem _ z.1, z.2⟩)
theorem rlI_ge {v a c p : Int32} (hp : p ≠ v) : ∀ L : List Int32, cntI L p ≤ cntI (rlI v a c L) p ∧ ((a = p ∨ c = p) → cntI L v ≤ cntI (rlI v a c L) p) := by
  intro L
  induction L with
  | nil => exact ⟨Nat.le_refl _, fun _ => Nat.le_refl _⟩
  | cons x t ih =>
    obtain ⟨i1, i2⟩ := ih
    rw [rlI]
    by_cases h1 : x = v
    · rw [if_pos h1, cntI_c x t p, cntI_c x t v, cntI_c a (c :: rlI v a c t) p, cntI_c c (rlI v a c t) p, if_neg (fun z => hp (z.symm.trans h1)), if_pos h1]
      refine ⟨by omega, fun z => ?_⟩
      have := i2 z
      rcases z with z | z
      · rw [if_pos z]; omega
      · rw [if_pos z]; omega
    · rw [if_neg h1, cntI_c x t p, cntI_c x t v, cntI_c x (rlI v a c t) p, if_neg h1]
      refine ⟨by omega, fun z => ?_⟩
      have := i2 z
      omega
/-- a name that no pair has, let go -/
theorem rl_sw (w : wfN N d l) (us : swE L N) {v : Nat} (h8 : 8 ≤ v) (h24 : v < 24) (hv : N.1 v ≠ -1) (hu : usN N.1 N.2.1 (nI v) 8 16 = 0) : cntI L (nI v) ≠ 0 ∧ swR (rlI (nI v) (N.1 v) (N.2.1 v) L) N (nsOut N v) ∧ swE (rlI (nI v) (N.1 v) (N.2.1 v) L) (nsOut N v) := by
  have hc : cntI L (nI v) ≠ 0 := by
    have := us v h8 h24 hv
    omega
  obtain ⟨ac1, ac2⟩ := wf_ac w v h24
  have h0 : cntI (rlI (nI v) (N.1 v) (N.2.1 v) L) (nI v) = 0 := by
    apply Classical.byContradiction
    intro z
    have hm : ∀ (R : List Int32), cntI R (nI v) ≠ 0 → nI v ∈ R := by
      intro R
      induction R with
      | nil => intro y; exact absurd rfl y
      | cons x t ih =>
        intro y
        rw [cntI] at y
        by_cases e : x = nI v
        · rw [e]; exact List.mem_cons_self
        · rw [if_neg e] at y
          exact List.mem_cons_of_mem _ (ih (by omega))
    rcases rlI_mem _ _ _ L _ (hm _ z) with y | y | y
    · exact ac1 y.symm
    · exact ac2 y.symm
    · exact y.2 rfl
  refine ⟨hc, swR_out (swR_rf _ _) h8 h24 (by omega), fun j j8 j24 hj => ?_⟩
  have hne : j ≠ v := by
    intro z
    subst z
    exact hj (va_up_self _ _ _)
  simp only [nsOut, va_up_ne _ _ hne] at hj ⊢
  obtain ⟨g1, g2⟩ := rlI_ge (a := N.1 v) (c := N.2.1 v) (show nI j ≠ nI v from fun z => hne ((nI_eq (by omega) (by omega)).mp z)) L
  by_cases h1 : N.1 v = nI j
  · have := g2 (Or.inl h1); omega
  · by_cases h2 : N.2.1 v = nI j
    · have := g2 (Or.inr h2); omega
    · rw [usN_outE h1 h2 (nI_nm1 (by omega))]
      have a1 := us j j8 j24 hj
      omega
theorem rl_pr (w : wfN N d l) (pr : rPr L N) {v : Nat} (h8 : 8 ≤ v) (h24 : v < 24) (hv : N.1 v ≠ -1) : rPr (rlI (nI v) (N.1 v) (N.2.1 v) L) N := by
  obtain ⟨p1, p2, a, b, a24, b24, ea, eb, ha, hb, ed, el⟩ := w.2.2 v h8 h24 hv
  intro x hx
  rcases rlI_mem _ _ _ L x hx with z | z | z
  · exact ⟨a, a24, z.trans ea, ha⟩
  · exact ⟨b, b24, z.trans eb, hb⟩
  · exact pr x z.1
theorem ok_lg : ∀ (k : Nat) (X : xS), okS X → okS (lgF k X) := by
  intro k
  induction k with
  | zero => intro X q; exact q
  | succ k ih =>
    intro X q
    rw [lgF]
    rcases lowL_is X.1 X.2.1 X.2.2.2.1 16 8 (Nat.le_refl _) with e | ⟨v, v8, v24, e, hp, hr, hu, hl⟩
    · rw [if_pos e]; exact q
    · rw [if_neg (by rw [e]; exact nI_nm1 (by omega)), e, nI_clamp (by omega)]
      refine ih _ ?_
      obtain ⟨q1, ⟨d, l, w⟩, pr, us, ho⟩ := q
      have hv : X.2.1.1 v ≠ -1 := ((hs_hasP (by omega)).mp hp).elim (fun z => absurd z (by omega)) id
      obtain ⟨s1, s2, s3⟩ := rl_sw w us v8 (by omega) hv hu
      have pr' := rl_pr w pr v8 (by omega) hv
      exact ⟨by simp only; rw [rlI_len]; exact hl, ⟨d, l, sw_wf s2 s3 w⟩, sw_pr s2 pr', s3, ho⟩
end IV
section HP
theorem hasP_ex {N : xNs} {p : Int32} (hp : hasP N.1 p = true) : ∃ k, k < 24 ∧ p = nI k ∧ hsN N k := by
  unfold hasP at hp
  by_cases h8 : p < 8
  · rw [if_pos h8] at hp
    obtain ⟨k, k1, k2⟩ := nI_of (of_decide_eq_true hp)
    have k3 : k < 8 := by rw [k2] at h8; exact (nI_ltI (b := 8) k1 (by decide)).mp h8
    exact ⟨k, by omega, k2, Or.inl k3⟩
  · rw [if_neg h8] at hp
    have hp := of_decide_eq_true hp
    unfold clAt at hp
    by_cases h0 : p < 0
    · rw [if_pos h0] at hp; exact absurd rfl hp
    · rw [if_neg h0] at hp
      by_cases h24 : p < nI 24
      · rw [if_pos h24] at hp
        obtain ⟨k, k1, k2⟩ := nI_of h0
        have k3 : k < 24 := by rw [k2] at h24; exact (nI_ltI k1 (by decide)).mp h24
        rw [k2, nI_clamp k1] at hp
        exact ⟨k, k3, k2, Or.inr hp⟩
      · rw [if_neg h24] at hp; exact absurd rfl hp
end HP
