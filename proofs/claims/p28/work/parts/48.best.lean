/-! The pair that both sides choose. -/
section BE
def vN (L : List Int32) (p q : Nat) : Nat := occI (nI p) (nI q) L
def adj : List Int32 → Nat → Nat → Prop
  | u :: v :: t, p, q => (u = nI p ∧ v = nI q) ∨ adj (v :: t) p q
  | _, _, _ => False
theorem occ_adj (p q : Nat) : ∀ (k : Nat) (L : List Int32), L.length ≤ k → vN L p q ≠ 0 → adj L p q := by
  intro k
  induction k with
  | zero =>
    intro L hL hv
    have : L = [] := List.eq_nil_of_length_eq_zero (by omega)
    rw [this] at hv
    exact absurd rfl hv
  | succ k ih =>
    intro L hL hv
    match L, hL, hv with
    | [], _, hv => exact absurd rfl hv
    | [_], _, hv => exact absurd rfl hv
    | u :: v :: t, hL, hv =>
      simp only [List.length_cons] at hL
      by_cases h1 : u = nI p ∧ v = nI q
      · exact Or.inl h1
      · refine Or.inr (ih (v :: t) (by simp only [List.length_cons]; omega) ?_)
        unfold vN at hv ⊢
        rw [occI, if_neg h1] at hv
        exact hv
/-- better or the same -/
def geB (L : List Int32) (a c p q : Nat) : Prop := vN L p q < vN L a c ∨ (vN L p q = vN L a c ∧ a * 24 + c ≤ p * 24 + q)
theorem geB_rf (L : List Int32) (a c : Nat) : geB L a c a c := Or.inr ⟨rfl, Nat.le_refl _⟩
theorem geB_tr {L : List Int32} {a c p q s t : Nat} (x : geB L a c p q) (y : geB L p q s t) : geB L a c s t := by
  unfold geB at *
  omega
theorem vN_le (L : List Int32) (p q : Nat) : vN L p q ≤ L.length := occI_le _ _ _ L (Nat.le_refl _)
theorem chF_st {L : List Int32} (hL : L.length ≤ 64) : ∀ (L' : List Int32) (a c : Nat), rOk L' → a < 24 → c < 24 → ∃ a' c', a' < 24 ∧ c' < 24 ∧ chF (occV L) L' (nI (a * 24 + c)) (nI a, nI c, nI (vN L a c)) = (nI a', nI c', nI (vN L a' c')) ∧ geB L a' c' a c ∧ ∀ p q, p < 24 → q < 24 → adj L' p q → geB L a' c' p q := by
  intro L'
  induction L' with
  | nil => intro a c _ ha hc; exact ⟨a, c, ha, hc, rfl, geB_rf L a c, fun _ _ _ _ z => z.elim⟩
  | cons u t ih =>
    intro a c hR ha hc
    match t, ih, hR with
    | [], _, _ => exact ⟨a, c, ha, hc, rfl, geB_rf L a c, fun _ _ _ _ z => z.elim⟩
    | v :: t, ih, hR =>
      obtain ⟨u1, u2⟩ := hR u List.mem_cons_self
      obtain ⟨v1, v2⟩ := hR v (List.mem_cons_of_mem _ List.mem_cons_self)
      obtain ⟨x, ex⟩ : ∃ x, x = u.toNatClampNeg := ⟨_, rfl⟩
      obtain ⟨y, ey⟩ : ∃ y, y = v.toNatClampNeg := ⟨_, rfl⟩
      rw [← ex] at u1 u2
      rw [← ey] at v1 v2
      subst u1 v1
      have hR' : rOk (nI y :: t) := fun z hz => hR z (List.mem_cons_of_mem _ hz)
      have l1 := vN_le L x y
      have l2 := vN_le L a c
      have adjE : ∀ p q, p < 24 → q < 24 → adj (nI x :: nI y :: t) p q → (p = x ∧ q = y) ∨ adj (nI y :: t) p q := by
        intro p q hp hq z
        rcases z with z | z
        · exact Or.inl ⟨((nI_eq (by omega) (by omega)).mp z.1).symm, ((nI_eq (by omega) (by omega)).mp z.2).symm⟩
        · exact Or.inr z
      have eV : occV L (nI x) (nI y) = nI (vN L x y) := rfl
      rw [chF, eV, nI_key]
      by_cases h1 : vN L a c < vN L x y ∨ (vN L x y = vN L a c ∧ x * 24 + y < a * 24 + c)
      · rw [if_pos (by
          rcases h1 with z | z
          · exact Or.inl (nI_lt z (by omega))
          · exact Or.inr ⟨by rw [z.1], nI_lt z.2 (by omega)⟩)]
        obtain ⟨a', c', b1, b2, b3, b4, b5⟩ := ih x y hR' u2 v2
        have g : geB L x y a c := by unfold geB; omega
        refine ⟨a', c', b1, b2, b3, geB_tr b4 g, fun p q hp hq z => ?_⟩
        rcases adjE p q hp hq z with z | z
        · rw [z.1, z.2]; exact b4
        · exact b5 p q hp hq z
      · rw [if_neg (by
          intro z
          rcases z with z | z
          · exact h1 (Or.inl ((nI_ltI (by omega) (by omega)).mp z))
          · exact h1 (Or.inr ⟨(nI_eq (by omega) (by omega)).mp z.1, (nI_ltI (by omega) (by omega)).mp z.2⟩))]
        obtain ⟨a', c', b1, b2, b3, b4, b5⟩ := ih a c hR' ha hc
        have g : geB L a c x y := by unfold geB; omega
        refine ⟨a', c', b1, b2, b3, b4, fun p q hp hq z => ?_⟩
        rcases adjE p q hp hq z with z | z
        · rw [z.1, z.2]; exact geB_tr b4 g
        · exact b5 p q hp hq z
/-- the class's choice is the best of all pairs -/
theorem fdR_best {L : List Int32} (hL : L.length ≤ 64) (hR : rOk L) (h2 : 1 < L.length) : ∃ a c, a < 24 ∧ c < 24 ∧ fdR L = (nI a, nI c, nI (vN L a c)) ∧ ∀ p q, p < 24 → q < 24 → geB L a c p q := by
  match L, hL, hR, h2 with
  | u :: v :: t, hL, hR, _ =>
    obtain ⟨u1, u2⟩ := hR u List.mem_cons_self
    obtain ⟨v1, v2⟩ := hR v (List.mem_cons_of_mem _ List.mem_cons_self)
    obtain ⟨x, ex⟩ : ∃ x, x = u.toNatClampNeg := ⟨_, rfl⟩
    obtain ⟨y, ey⟩ : ∃ y, y = v.toNatClampNeg := ⟨_, rfl⟩
    rw [← ex] at u1 u2
    rw [← ey] at v1 v2
    subst u1 v1
    obtain ⟨L0, eL⟩ : ∃ L0, L0 = nI x :: nI y :: t := ⟨_, rfl⟩
    have hv : 0 < vN L0 x y := by
      rw [eL]
      unfold vN
      rw [occI, if_pos ⟨rfl, rfl⟩]
      omega
    have hL0 : L0.length ≤ 64 := by rw [eL]; exact hL
    have l1 := vN_le L0 x y
    obtain ⟨a', c', b1, b2, b3, b4, b5⟩ := chF_st hL0 (nI y :: t) x y (fun z hz => hR z (List.mem_cons_of_mem _ hz)) u2 v2
    refine ⟨a', c', b1, b2, ?_, fun p q hp hq => ?_⟩
    · unfold fdR
      rw [chF, if_pos (Or.inl (show (0 : Int32) < occV (nI x :: nI y :: t) (nI x) (nI y) from by
        rw [← eL, show occV L0 (nI x) (nI y) = nI (vN L0 x y) from rfl, ← nI_0]
        exact nI_lt hv (by omega))), nI_key, ← eL]
      exact b3
    · rw [← eL]
      by_cases h0 : vN L0 p q = 0
      · have : geB L0 x y p q := by unfold geB; omega
        exact geB_tr b4 this
      · have := occ_adj p q _ L0 (Nat.le_refl _) h0
        rw [eL] at this
        rcases this with z | z
        · have e1 := (nI_eq (by omega) (by omega)).mp z.1
          have e2 := (nI_eq (by omega) (by omega)).mp z.2
          rw [← e1, ← e2]; exact b4
        · exact b5 p q hp hq z
/-- the model's state of the search, the pairs below K seen -/
def wB (L : List Int32) (o K : Nat) (S : Int32 × Int32 × Int32) : Prop := (S.1 = 0 ∧ ∀ p q, p < 24 → q < 24 → p * 24 + q < K → vN L p q < o) ∨ ∃ a c, a < 24 ∧ c < 24 ∧ S = (nI (vN L a c), nI a, nI c) ∧ o ≤ vN L a c ∧ a * 24 + c < K ∧ ∀ p q, p < 24 → q < 24 → p * 24 + q < K → geB L a c p q
theorem wB_st {L : List Int32} (hL : L.length ≤ 64) {o a j : Nat} (ho : 1 ≤ o) (ho2 : o < 2 ^ 31) (ha : a < 24) (hj : j < 24) {S : Int32 × Int32 × Int32} (w : wB L o (a * 24 + j) S) : wB L o (a * 24 + j + 1) (mfS (nI (occI (nI a) (nI j) L)) (nI o) a j S) := by
  have l1 := vN_le L a j
  have et : nI (occI (nI a) (nI j) L) = nI (vN L a j) := rfl
  have key : ∀ p q, p < 24 → q < 24 → p * 24 + q < a * 24 + j + 1 → p * 24 + q < a * 24 + j ∨ (p = a ∧ q = j) := by
    intro p q hp hq hk
    omega
  rw [et]
  unfold mfS
  rcases w with ⟨w1, w2⟩ | ⟨x, y, hx, hy, w1, w2, w4, w3⟩
  · by_cases h1 : vN L a j < o
    · rw [if_neg (fun z => z.1 (nI_lt h1 ho2))]
      refine Or.inl ⟨w1, fun p q hp hq hk => ?_⟩
      rcases key p q hp hq hk with z | z
      · exact w2 p q hp hq z
      · rw [z.1, z.2]; exact h1
    · rw [if_pos ⟨nI_nlt (by omega) (by omega), by rw [w1, ← nI_0]; exact nI_lt (by omega) (by omega)⟩]
      refine Or.inr ⟨a, j, ha, hj, rfl, by omega, by omega, fun p q hp hq hk => ?_⟩
      rcases key p q hp hq hk with z | z
      · have := w2 p q hp hq z
        unfold geB
        omega
      · rw [z.1, z.2]; exact geB_rf L a j
  · have l2 := vN_le L x y
    by_cases h1 : vN L x y < vN L a j
    · rw [if_pos ⟨nI_nlt (by omega) (by omega), by rw [w1]; exact nI_lt h1 (by omega)⟩]
      refine Or.inr ⟨a, j, ha, hj, rfl, by omega, by omega, fun p q hp hq hk => ?_⟩
      rcases key p q hp hq hk with z | z
      · have := w3 p q hp hq z
        unfold geB at this ⊢
        omega
      · rw [z.1, z.2]; exact geB_rf L a j
    · rw [if_neg (fun z => h1 (by have := z.2; rw [w1] at this; exact (nI_ltI (by omega) (by omega)).mp this))]
      refine Or.inr ⟨x, y, hx, hy, w1, w2, by omega, fun p q hp hq hk => ?_⟩
      rcases key p q hp hq hk with z | z
      · exact w3 p q hp hq z
      · rw [z.1, z.2]
        unfold geB
        omega
theorem mfI_w {L : List Int32} (hL : L.length ≤ 64) {o a : Nat} (ho : 1 ≤ o) (ho2 : o < 2 ^ 31) (ha : a < 24) : ∀ (k j : Nat) (S : Int32 × Int32 × Int32), j + k = 24 → wB L o (a * 24 + j) S → wB L o (a * 24 + 24) (mfI L (nI o) a j k S) := by
  intro k
  induction k with
  | zero => intro j S hk w; rw [show j = 24 by omega] at w; exact w
  | succ k ih => intro j S hk w; rw [mfI]; exact ih (j + 1) _ (by omega) (wB_st hL ho ho2 ha (by omega) w)
theorem mfO_w {L : List Int32} (hL : L.length ≤ 64) {o : Nat} (ho : 1 ≤ o) (ho2 : o < 2 ^ 31) : ∀ (k a : Nat) (S : Int32 × Int32 × Int32), a + k = 24 → wB L o (a * 24) S → wB L o 576 (mfO L (nI o) a k S) := by
  intro k
  induction k with
  | zero => intro a S hk w; rw [show a = 24 by omega] at w; exact w
  | succ k ih =>
    intro a S hk w
    rw [mfO]
    refine ih (a + 1) _ (by omega) ?_
    have := mfI_w hL ho ho2 (show a < 24 by omega) 24 0 S (by omega) w
    rw [show (a + 1) * 24 = a * 24 + 24 by omega]
    exact this
/-- the model finds what the class finds -/
theorem mf_fd {L : List Int32} (hL : L.length ≤ 64) (hR : rOk L) {o : Nat} (ho : 1 ≤ o) (ho2 : o < 2 ^ 31) (x0 y0 : Int32) : ((fdR L).2.2 < nI o ∧ (mfR L (nI o) x0 y0).1 = 0) ∨ (¬ (fdR L).2.2 < nI o ∧ 0 < (fdR L).2.2 ∧ mfR L (nI o) x0 y0 = ((fdR L).2.2, (fdR L).1, (fdR L).2.1)) := by
  have w : wB L o 576 (mfR L (nI o) x0 y0) := mfO_w hL ho ho2 24 0 _ (by omega) (Or.inl ⟨rfl, fun p q _ _ h => by omega⟩)
  by_cases h2 : 1 < L.length
  · obtain ⟨a, c, ha, hc, e, g⟩ := fdR_best hL hR h2
    have l1 := vN_le L a c
    rcases w with ⟨w1, w2⟩ | ⟨x, y, hx, hy, w1, w2, _, w3⟩
    · refine Or.inl ⟨?_, w1⟩
      rw [e]
      exact nI_lt (w2 a c ha hc (by omega)) ho2
    · have g1 := g x y hx hy
      have g2 := w3 a c ha hc (by omega)
      unfold geB at g1 g2
      have e1 : x = a := by omega
      have e2 : y = c := by omega
      subst e1 e2
      refine Or.inr ⟨by rw [e]; exact nI_nlt w2 (by omega), ?_, ?_⟩
      · rw [e]
        show (0 : Int32) < nI (vN L x y)
        rw [← nI_0]
        exact nI_lt (by omega) (by omega)
      · rw [w1, e]
  · have z : ∀ p q, vN L p q = 0 := by
      intro p q
      match L, h2 with
      | [], _ => rfl
      | [_], _ => rfl
      | _ :: _ :: _, h2 => simp at h2
    have e : (fdR L).2.2 = 0 := by
      match L, h2 with
      | [], _ => rfl
      | [_], _ => rfl
      | _ :: _ :: _, h2 => simp at h2
    rcases w with ⟨w1, w2⟩ | ⟨x, y, hx, hy, w1, w2, _, w3⟩
    · refine Or.inl ⟨?_, w1⟩
      rw [e, ← nI_0]
      exact nI_lt (by omega) ho2
    · rw [z] at w2
      omega
/-- the name, too -/
theorem mnB_hi (N : xNs) (x y : Int32) : ∀ (k i : Nat) (acc : Int32), mnB true N x y i (k + 1) acc = if N.1 (i + k) ≠ -1 ∧ N.1 (i + k) = x ∧ N.2.1 (i + k) = y then nI (i + k) else mnB true N x y i k acc := by
  intro k
  induction k with
  | zero =>
    intro i acc
    rw [mnB, mnB, mnB]
    simp only [true_and, Nat.add_zero]
  | succ k ih =>
    intro i acc
    rw [mnB, ih (i + 1), show i + 1 + k = i + (k + 1) by omega]
    rfl
theorem mn_nm (N : xNs) (x y : Int32) : ∀ (k : Nat) (acc : Int32), mnB true N x y 8 k (mnA true N k acc) = nmF N.1 N.2.1 x y k acc := by
  intro k
  induction k with
  | zero => intro acc; rfl
  | succ k ih =>
    intro acc
    rw [mnB_hi, mnA, nmF]
    simp only [true_and]
    by_cases h1 : N.1 (8 + k) = -1
    · rw [if_neg (fun z => z.1 h1), if_pos h1, if_pos h1]
      exact ih _
    · rw [if_neg h1, if_neg h1]
      by_cases h2 : N.1 (8 + k) = x ∧ N.2.1 (8 + k) = y
      · rw [if_pos ⟨h1, h2⟩, if_pos h2]
      · rw [if_neg (fun z => h2 z.2), if_neg h2]
        exact ih _
theorem mn_none (N : xNs) (x y : Int32) : ∀ (k i : Nat) (acc : Int32), mnB false N x y i k acc = acc := by
  intro k
  induction k with
  | zero => intro i acc; rfl
  | succ k ih => intro i acc; rw [mnB, ih, if_neg (fun z => absurd z.1 (by decide))]
theorem mnA_none (N : xNs) : ∀ (k : Nat) (acc : Int32), mnA false N k acc = acc := by
  intro k
  induction k with
  | zero => intro acc; rfl
  | succ k ih => intro acc; rw [mnA, ih, if_neg (fun z => absurd z.1 (by decide))]
/-- the whole finding -/
theorem mf_all {L : List Int32} (hL : L.length ≤ 64) (hR : rOk L) (N : xNs) {o : Nat} (ho : 1 ≤ o) (ho2 : o < 2 ^ 31) (x0 y0 : Int32) : mfN N (mfR L (nI o) x0 y0) = fdG L N (nI o) ∧ (fdG L N (nI o) ≠ -1 → mfR L (nI o) x0 y0 = ((fdR L).2.2, (fdR L).1, (fdR L).2.1)) := by
  rcases mf_fd hL hR ho ho2 x0 y0 with ⟨h1, h2⟩ | ⟨h1, h2, h3⟩
  · have e : fdG L N (nI o) = -1 := if_pos h1
    refine ⟨?_, fun z => absurd e z⟩
    unfold mfN
    rw [h2, show decide ((0 : Int32) < 0) = false by decide, mn_none, mnA_none, e]
  · refine ⟨?_, fun _ => h3⟩
    unfold mfN
    rw [h3]
    simp only
    rw [decide_eq_true h2, mn_nm]
    exact (if_neg h1).symm
end BE
