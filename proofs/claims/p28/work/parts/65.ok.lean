/-! Names as they should be: their depths, their lengths. -/
section OK
def hsN (N : xNs) (a : Nat) : Prop := a < 8 ∨ N.1 a ≠ -1
/-- d and l: depth and length -/
def wfN (N : xNs) (d l : Nat → Nat) : Prop := nsB N ∧ (∀ k, k < 8 → N.1 k = -1 ∧ N.2.1 k = -1 ∧ N.2.2.1 k = 0 ∧ N.2.2.2 k = 1 ∧ d k = 0 ∧ l k = 1) ∧ ∀ k, 8 ≤ k → k < 24 → N.1 k ≠ -1 → N.2.2.1 k = nI (d k) ∧ N.2.2.2 k = nI (l k) ∧ ∃ a b, a < 24 ∧ b < 24 ∧ N.1 k = nI a ∧ N.2.1 k = nI b ∧ hsN N a ∧ hsN N b ∧ d k = 1 + max (d a) (d b) ∧ l k = l a + l b
def cDp (d : Nat → Nat) (D : Nat) : Nat → Nat → Nat
  | _, 0 => 0
  | i, k + 1 => (if 1 ≤ d i ∧ d i ≤ D then 1 else 0) + cDp d D (i + 1) k
theorem cDp_le (d : Nat → Nat) (D : Nat) : ∀ (k i : Nat), cDp d D i k ≤ k := by
  intro k
  induction k with
  | zero => intro i; exact Nat.le_refl _
  | succ k ih =>
    intro i
    have := ih (i + 1)
    rw [cDp]
    split <;> omega
theorem cDp_mono (d : Nat → Nat) (D : Nat) : ∀ (k i : Nat), cDp d D i k ≤ cDp d (D + 1) i k := by
  intro k
  induction k with
  | zero => intro i; exact Nat.le_refl _
  | succ k ih =>
    intro i
    have := ih (i + 1)
    rw [cDp, cDp]
    by_cases h1 : 1 ≤ d i ∧ d i ≤ D
    · rw [if_pos h1, if_pos ⟨h1.1, by omega⟩]; omega
    · rw [if_neg h1]; omega
theorem cDp_lt {d : Nat → Nat} {D j : Nat} (hj : d j = D + 1) : ∀ (k i : Nat), i ≤ j → j < i + k → cDp d D i k + 1 ≤ cDp d (D + 1) i k := by
  intro k
  induction k with
  | zero => intro i h1 h2; omega
  | succ k ih =>
    intro i h1 h2
    rw [cDp, cDp]
    by_cases e : i = j
    · subst e
      have := cDp_mono d D k (i + 1)
      rw [if_neg (by omega), if_pos (by omega)]
      omega
    · have := ih (i + 1) (by omega) (by omega)
      by_cases h3 : 1 ≤ d i ∧ d i ≤ D
      · rw [if_pos h3, if_pos ⟨h3.1, by omega⟩]; omega
      · rw [if_neg h3]; omega
theorem cDp_ge {d : Nat → Nat} : ∀ (D : Nat), (∀ e, 1 ≤ e → e ≤ D → ∃ j, 8 ≤ j ∧ j < 24 ∧ d j = e) → D ≤ cDp d D 8 16 := by
  intro D
  induction D with
  | zero => intro _; exact Nat.zero_le _
  | succ D ih =>
    intro hh
    have h1 := ih (fun e h1 h2 => hh e h1 (by omega))
    obtain ⟨j, j1, j2, j3⟩ := hh (D + 1) (by omega) (Nat.le_refl _)
    have := cDp_lt j3 16 8 j1 (by omega)
    omega
variable {N : xNs} {d l : Nat → Nat}
theorem wf_pr (w : wfN N d l) {k : Nat} (h24 : k < 24) (hs : hsN N k) (h8 : 8 ≤ k) : N.2.2.1 k = nI (d k) ∧ N.2.2.2 k = nI (l k) ∧ ∃ a b, a < 24 ∧ b < 24 ∧ N.1 k = nI a ∧ N.2.1 k = nI b ∧ hsN N a ∧ hsN N b ∧ d k = 1 + max (d a) (d b) ∧ l k = l a + l b :=
  w.2.2 k h8 h24 (hs.elim (fun z => absurd z (by omega)) id)
theorem wf_chain (w : wfN N d l) : ∀ (n k : Nat), d k ≤ n → k < 24 → hsN N k → ∀ e, 1 ≤ e → e ≤ d k → ∃ j, 8 ≤ j ∧ j < 24 ∧ d j = e := by
  intro n
  induction n with
  | zero => intro k h1 _ _ e h2 h3; omega
  | succ n ih =>
    intro k h1 h24 hs e h2 h3
    have h8 : 8 ≤ k := by
      apply Nat.le_of_not_lt
      intro z
      have := (w.2.1 k z).2.2.2.2.1
      omega
    obtain ⟨p1, p2, a, b, a24, b24, ea, eb, ha, hb, hd, hl⟩ := wf_pr w h24 hs h8
    by_cases h4 : e = d k
    · exact ⟨k, h8, h24, h4.symm⟩
    · by_cases h5 : d b ≤ d a
      · exact ih a (by omega) a24 ha e h2 (by omega)
      · exact ih b (by omega) b24 hb e h2 (by omega)
theorem wf_d16 (w : wfN N d l) {k : Nat} (h24 : k < 24) (hs : hsN N k) : d k ≤ 16 := by
  have h1 := cDp_ge (d := d) (d k) (fun e h1 h2 => wf_chain w (d k) k (Nat.le_refl _) h24 hs e h1 h2)
  have h2 := cDp_le d (d k) 16 8
  omega
theorem wf_l (w : wfN N d l) : ∀ (n k : Nat), d k ≤ n → k < 24 → hsN N k → 1 ≤ l k ∧ l k ≤ 2 ^ d k := by
  intro n
  induction n with
  | zero =>
    intro k h1 h24 hs
    by_cases h8 : k < 8
    · have := w.2.1 k h8
      rw [this.2.2.2.2.1, this.2.2.2.2.2]
      exact ⟨by decide, by decide⟩
    · obtain ⟨p1, p2, a, b, a24, b24, ea, eb, ha, hb, hd, hl⟩ := wf_pr w h24 hs (by omega)
      omega
  | succ n ih =>
    intro k h1 h24 hs
    by_cases h8 : k < 8
    · have := w.2.1 k h8
      rw [this.2.2.2.2.1, this.2.2.2.2.2]
      exact ⟨by decide, by decide⟩
    · obtain ⟨p1, p2, a, b, a24, b24, ea, eb, ha, hb, hd, hl⟩ := wf_pr w h24 hs (by omega)
      obtain ⟨a1, a2⟩ := ih a (by omega) a24 ha
      obtain ⟨b1, b2⟩ := ih b (by omega) b24 hb
      have e1 : 2 ^ d a ≤ 2 ^ (max (d a) (d b)) := Nat.pow_le_pow_right (by decide) (Nat.le_max_left _ _)
      have e2 : 2 ^ d b ≤ 2 ^ (max (d a) (d b)) := Nat.pow_le_pow_right (by decide) (Nat.le_max_right _ _)
      have e3 : 2 ^ d k = 2 * 2 ^ (max (d a) (d b)) := by rw [hd, Nat.pow_add]
      omega
theorem wf_l16 (w : wfN N d l) {k : Nat} (h24 : k < 24) (hs : hsN N k) : 1 ≤ l k ∧ l k ≤ 65536 := by
  obtain ⟨h1, h2⟩ := wf_l w (d k) k (Nat.le_refl _) h24 hs
  have h3 : 2 ^ d k ≤ 2 ^ 16 := Nat.pow_le_pow_right (by decide) (wf_d16 w h24 hs)
  exact ⟨h1, by omega⟩
theorem wf_dep (w : wfN N d l) {k : Nat} (h24 : k < 24) (hs : hsN N k) : N.2.2.1 k = nI (d k) := by
  by_cases h8 : k < 8
  · obtain ⟨h1, h2, h3, h4, h5, h6⟩ := w.2.1 k h8
    rw [h3, h5]; rfl
  · exact (wf_pr w h24 hs (by omega)).1
theorem wf_len (w : wfN N d l) {k : Nat} (h24 : k < 24) (hs : hsN N k) : N.2.2.2 k = nI (l k) := by
  by_cases h8 : k < 8
  · obtain ⟨h1, h2, h3, h4, h5, h6⟩ := w.2.1 k h8
    rw [h4, h6]; rfl
  · exact (wf_pr w h24 hs (by omega)).2.1
theorem wf_dpt (w : wfN N d l) : dpt N d := by
  intro k h8 h24 hk
  obtain ⟨p1, p2, a, b, a24, b24, ea, eb, ha, hb, hd, hl⟩ := w.2.2 k h8 h24 hk
  have := wf_d16 w h24 (Or.inr hk)
  refine ⟨p1, by omega, this, fun j j8 j24 hj => ?_⟩
  rcases hj with e | e
  · have : a = j := (nI_eq (by omega) (by omega)).mp (ea.symm.trans e)
    rw [← this]; omega
  · have : b = j := (nI_eq (by omega) (by omega)).mp (eb.symm.trans e)
    rw [← this]; omega
theorem wf_ac (w : wfN N d l) : acN N := by
  intro k h24
  by_cases h8 : k < 8
  · obtain ⟨h1, h2, -⟩ := w.2.1 k h8
    rw [h1, h2]
    exact ⟨fun z => nI_nm1 (by omega) z.symm, fun z => nI_nm1 (by omega) z.symm⟩
  · by_cases hk : N.1 k = -1
    · rw [hk, (w.1 k (by omega) h24 hk).1]
      exact ⟨fun z => nI_nm1 (by omega) z.symm, fun z => nI_nm1 (by omega) z.symm⟩
    · obtain ⟨p1, p2, p3, p4⟩ := wf_dpt w k (by omega) h24 hk
      exact ⟨fun z => absurd (p4 k (by omega) h24 (Or.inl z)) (Nat.lt_irrefl _), fun z => absurd (p4 k (by omega) h24 (Or.inr z)) (Nat.lt_irrefl _)⟩
theorem hs_hasP {k : Nat} (h24 : k < 24) : hasP N.1 (nI k) = true ↔ hsN N k := by
  unfold hasP hsN
  by_cases h8 : k < 8
  · have c8 : nI k < 8 := nI_lt (b := 8) h8 (by decide)
    rw [if_pos c8]
    exact ⟨fun _ => Or.inl h8, fun _ => decide_eq_true (nI_pos (by omega))⟩
  · have c8 : ¬ nI k < 8 := nI_nlt (b := 8) (by omega) (by omega)
    rw [if_neg c8, clAt_nI h24 (by decide)]
    exact ⟨fun z => Or.inr (of_decide_eq_true z), fun z => decide_eq_true (z.elim (fun y => absurd y h8) id)⟩
end OK
/-! The sign at a place of a name; how often a sign is in it. -/
section SG
variable {N : xNs} {d l : Nat → Nat}
theorem sgN_8 (fs sn ln : Nat → Int32) {p : Nat} (h8 : p < 8) (k : Nat) (r : Int32) : sgN fs sn ln k (nI p) r = nI p := by
  cases k with
  | zero => rfl
  | succ k =>
    have c8 : nI p < 8 := nI_lt (b := 8) h8 (by decide)
    rw [sgN, if_pos c8]
theorem sgN_fu (w : wfN N d l) : ∀ (n k j p : Nat) (r : Int32), p < 24 → hsN N p → d p ≤ n → n ≤ k → n ≤ j → sgN N.1 N.2.1 N.2.2.2 k (nI p) r = sgN N.1 N.2.1 N.2.2.2 j (nI p) r := by
  intro n
  induction n with
  | zero =>
    intro k j p r h24 hs hd _ _
    by_cases h8 : p < 8
    · rw [sgN_8 _ _ _ h8, sgN_8 _ _ _ h8]
    · obtain ⟨p1, p2, a, b, a24, b24, ea, eb, ha, hb, e, hl⟩ := wf_pr w h24 hs (by omega)
      omega
  | succ n ih =>
    intro k j p r h24 hs hd hk hj
    by_cases h8 : p < 8
    · rw [sgN_8 _ _ _ h8, sgN_8 _ _ _ h8]
    · obtain ⟨p1, p2, a, b, a24, b24, ea, eb, ha, hb, e, hl⟩ := wf_pr w h24 hs (by omega)
      obtain ⟨k, rfl⟩ : ∃ k', k = k' + 1 := ⟨k - 1, by omega⟩
      obtain ⟨j, rfl⟩ : ∃ j', j = j' + 1 := ⟨j - 1, by omega⟩
      have n8 : ¬ nI p < 8 := nI_nlt (a := p) (b := 8) (by omega) (by omega)
      rw [sgN, sgN, if_neg n8, if_neg n8, clAt_nI h24 (by decide), clAt_nI h24 (by decide), ea, eb]
      rw [ih k j a r a24 ha (by omega) (by omega) (by omega), ih k j b _ b24 hb (by omega) (by omega) (by omega)]
theorem sgN_st (w : wfN N d l) {p a b : Nat} (h24 : p < 24) (h8 : 8 ≤ p) (a24 : a < 24) (b24 : b < 24) (ea : N.1 p = nI a) (eb : N.2.1 p = nI b) (ha : hsN N a) (hb : hsN N b) (e : d p = 1 + max (d a) (d b)) (hp : d p ≤ 16) (r : Int32) : sgN N.1 N.2.1 N.2.2.2 16 (nI p) r = if r < nI (l a) then sgN N.1 N.2.1 N.2.2.2 16 (nI a) r else sgN N.1 N.2.1 N.2.2.2 16 (nI b) (r - nI (l a)) := by
  have n8 : ¬ nI p < 8 := nI_nlt (a := p) (b := 8) h8 (by omega)
  rw [show (16 : Nat) = 15 + 1 from rfl, sgN, if_neg n8, clAt_nI h24 (by decide), clAt_nI h24 (by decide), ea, eb, clAt_nI a24 (by decide), wf_len w a24 ha]
  rw [sgN_fu w 15 15 (15 + 1) a r a24 ha (by omega) (by omega) (by omega), sgN_fu w 15 15 (15 + 1) b _ b24 hb (by omega) (by omega) (by omega)]
theorem wf_dp0 (w : wfN N d l) {j D : Nat} (h8 : 8 ≤ j) (h24 : j < 24) (hD : 1 ≤ D) (hD2 : D ≤ 16) (e : N.2.2.1 j = nI D) : N.1 j ≠ -1 ∧ d j = D := by
  have h1 : N.1 j ≠ -1 := by
    intro z
    have := (w.1 j h8 h24 z).2.1
    rw [this] at e
    have := (nI_eq (a := 0) (b := D) (by omega) (by omega)).mp e
    omega
  have h2 := wf_dep w h24 (Or.inr h1)
  rw [h2] at e
  have h3 := wf_d16 w h24 (Or.inr h1)
  exact ⟨h1, (nI_eq (by omega) (by omega)).mp e⟩
theorem tiIn_at (w : wfN N d l) {D : Nat} (hD : 1 ≤ D) (hD2 : D ≤ 16) : ∀ (k m : Nat) (T : Nat → Int32), 8 ≤ m → m + k = 24 → ∀ j, j < 24 → tiIn N.1 N.2.1 N.2.2.1 D m k T j = if m ≤ j ∧ N.2.2.1 j = nI D then clAt 24 T (N.1 j) + clAt 24 T (N.2.1 j) else T j := by
  intro k
  induction k with
  | zero =>
    intro m T _ hk j hj
    rw [if_neg (by omega)]
    rfl
  | succ k ih =>
    intro m T h8 hk j hj
    rw [tiIn, ih (m + 1) _ (by omega) (by omega) j hj]
    by_cases e : N.2.2.1 m = nI D
    · rw [if_pos e]
      by_cases h1 : m + 1 ≤ j ∧ N.2.2.1 j = nI D
      · rw [if_pos h1, if_pos ⟨by omega, h1.2⟩]
        obtain ⟨m1, m2⟩ := wf_dp0 w h8 (by omega) hD hD2 e
        obtain ⟨j1, j2⟩ := wf_dp0 w (by omega) hj hD hD2 h1.2
        obtain ⟨p1, p2, a, b, a24, b24, ea, eb, ha, hb, hd, hl⟩ := w.2.2 j (by omega) hj j1
        have na : a ≠ m := fun z => by rw [z] at hd; omega
        have nb : b ≠ m := fun z => by rw [z] at hd; omega
        rw [ea, eb, clAt_nI a24 (by decide), clAt_nI b24 (by decide), clAt_nI a24 (by decide), clAt_nI b24 (by decide), va_up_ne _ _ na, va_up_ne _ _ nb]
      · rw [if_neg h1]
        by_cases h2 : j = m
        · subst h2
          rw [va_up_self, if_pos ⟨Nat.le_refl _, e⟩]
        · rw [va_up_ne _ _ h2, if_neg (fun z => h1 ⟨by omega, z.2⟩)]
    · rw [if_neg e]
      by_cases h1 : m + 1 ≤ j ∧ N.2.2.1 j = nI D
      · rw [if_pos h1, if_pos ⟨by omega, h1.2⟩]
      · rw [if_neg h1, if_neg]
        intro z
        by_cases h2 : j = m
        · subst h2; exact e z.2
        · exact h1 ⟨by omega, z.2⟩
theorem tiOut_at (w : wfN N d l) : ∀ (k D : Nat) (T : Nat → Int32), D + k = 17 → 1 ≤ D → (∀ j, 8 ≤ j → j < 24 → N.1 j ≠ -1 → d j < D → T j = clAt 24 T (N.1 j) + clAt 24 T (N.2.1 j)) →
    (∀ j, j < 8 → tiOut N.1 N.2.1 N.2.2.1 D k T j = T j) ∧ ∀ j, 8 ≤ j → j < 24 → N.1 j ≠ -1 → tiOut N.1 N.2.1 N.2.2.1 D k T j = clAt 24 (tiOut N.1 N.2.1 N.2.2.1 D k T) (N.1 j) + clAt 24 (tiOut N.1 N.2.1 N.2.2.1 D k T) (N.2.1 j) := by
  intro k
  induction k with
  | zero =>
    intro D T hk hD hT
    refine ⟨fun j _ => rfl, fun j h8 h24 hj => hT j h8 h24 hj ?_⟩
    have := wf_d16 w h24 (Or.inr hj)
    omega
  | succ k ih =>
    intro D T hk hD hT
    have hat := tiIn_at w hD (by omega : D ≤ 16) 16 8 T (Nat.le_refl _) (by omega)
    have hsm : ∀ j, j < 24 → (8 ≤ j → N.1 j ≠ -1 → d j ≠ D) → tiIn N.1 N.2.1 N.2.2.1 D 8 16 T j = T j := by
      intro j h24 hne
      rw [hat j h24, if_neg]
      intro z
      obtain ⟨j1, j2⟩ := wf_dp0 w z.1 h24 hD (by omega) z.2
      exact hne z.1 j1 j2
    obtain ⟨i1, i2⟩ := ih (D + 1) (tiIn N.1 N.2.1 N.2.2.1 D 8 16 T) (by omega) (by omega) (by
      intro j h8 h24 hj hlt
      obtain ⟨p1, p2, a, b, a24, b24, ea, eb, ha, hb, hd, hl⟩ := w.2.2 j h8 h24 hj
      have ta := hsm a a24 (fun _ _ => by omega)
      have tb := hsm b b24 (fun _ _ => by omega)
      rw [ea, eb, clAt_nI a24 (by decide), clAt_nI b24 (by decide), ta, tb]
      by_cases e : d j = D
      · rw [hat j h24, if_pos ⟨h8, by rw [p1, e]⟩, ea, eb, clAt_nI a24 (by decide), clAt_nI b24 (by decide)]
      · rw [hsm j h24 (fun _ _ => e), hT j h8 h24 hj (by omega), ea, eb, clAt_nI a24 (by decide), clAt_nI b24 (by decide)])
    rw [tiOut]
    exact ⟨fun j h8 => (i1 j h8).trans (hsm j (by omega) (fun z => absurd z (by omega))), i2⟩
theorem ti0_8 (w : wfN N d l) {s j : Nat} (hj : j < 8) : ti0 N s j = if j = s then 1 else 0 := by
  unfold ti0
  rw [(tiOut_at w 16 1 _ (by omega) (by omega) (fun j h8 h24 hj hlt => by
    obtain ⟨p1, p2, a, b, a24, b24, ea, eb, ha, hb, hd, hl⟩ := w.2.2 j h8 h24 hj
    omega)).1 j hj]
  by_cases e : j = s
  · rw [if_pos e, e, va_up_self]
  · rw [if_neg e, va_up_ne _ _ e]
theorem ti0_st (w : wfN N d l) {s j a b : Nat} (h8 : 8 ≤ j) (h24 : j < 24) (hj : N.1 j ≠ -1) (a24 : a < 24) (b24 : b < 24) (ea : N.1 j = nI a) (eb : N.2.1 j = nI b) : ti0 N s j = ti0 N s a + ti0 N s b := by
  have := (tiOut_at w 16 1 (va_up (fun _ => 0) s 1) (by omega) (by omega) (fun j h8 h24 hj hlt => by
    obtain ⟨p1, p2, a, b, a24, b24, ea, eb, ha, hb, hd, hl⟩ := w.2.2 j h8 h24 hj
    omega)).2 j h8 h24 hj
  rw [ea, eb, clAt_nI a24 (by decide), clAt_nI b24 (by decide)] at this
  exact this
end SG
