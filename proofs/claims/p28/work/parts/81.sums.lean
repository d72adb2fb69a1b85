/-! What the law adds up over a row. -/
section SU
variable {N : xNs} {d l : Nat → Nat}
/-- how often the signs from i on are in the text -/
def tmS (X : xS) : Nat → Nat → Int32
  | _, 0 => 0
  | i, k + 1 => tmF (ti0 X.2.1 i) X.1 + tmS X (i + 1) k
/-- the same of one part -/
def tmP (N : xNs) (p : Nat) : Nat → Nat → Int32
  | _, 0 => 0
  | i, k + 1 => ti0 N i p + tmP N p (i + 1) k
theorem tmP_add (w : wfN N d l) {j a b : Nat} (h8 : 8 ≤ j) (h24 : j < 24) (hj : N.1 j ≠ -1) (a24 : a < 24) (b24 : b < 24) (ea : N.1 j = nI a) (eb : N.2.1 j = nI b) : ∀ (k i : Nat), tmP N j i k = tmP N a i k + tmP N b i k := by
  intro k
  induction k with
  | zero => intro i; rfl
  | succ k ih =>
    intro i
    rw [tmP, tmP, tmP, ti0_st w h8 h24 hj a24 b24 ea eb, ih (i + 1)]
    ac_rfl
theorem tmP_8 (w : wfN N d l) {p : Nat} (hp : p < 8) : ∀ (k i : Nat), tmP N p i k = if i ≤ p ∧ p < i + k then 1 else 0 := by
  intro k
  induction k with
  | zero => intro i; rw [if_neg (by omega)]; rfl
  | succ k ih =>
    intro i
    rw [tmP, ti0_8 w hp, ih (i + 1)]
    by_cases e : p = i
    · rw [if_pos e, if_neg (by omega), if_pos (by omega)]
      exact Int32.add_zero 1
    · rw [if_neg e]
      by_cases h : i + 1 ≤ p ∧ p < i + 1 + k
      · rw [if_pos h, if_pos (by omega)]
        exact Int32.zero_add 1
      · rw [if_neg h, if_neg (by omega)]
        exact Int32.zero_add 0
theorem tmP_len (w : wfN N d l) : ∀ (n p : Nat), p < 24 → hsN N p → d p ≤ n → tmP N p 0 8 = nI (l p) := by
  intro n
  induction n with
  | zero =>
    intro p h24 hs hd
    by_cases h8 : p < 8
    · rw [tmP_8 w h8, if_pos (by omega), (w.2.1 p h8).2.2.2.2.2]
      rfl
    · obtain ⟨p1, p2, a, b, a24, b24, ea, eb, ha, hb, e, hl⟩ := wf_pr w h24 hs (by omega)
      omega
  | succ n ih =>
    intro p h24 hs hd
    by_cases h8 : p < 8
    · rw [tmP_8 w h8, if_pos (by omega), (w.2.1 p h8).2.2.2.2.2]
      rfl
    · obtain ⟨p1, p2, a, b, a24, b24, ea, eb, ha, hb, e, hl⟩ := wf_pr w h24 hs (by omega)
      rw [tmP_add w (by omega) h24 (hs.elim (fun z => absurd z h8) id) a24 b24 ea eb, ih a a24 ha (by omega), ih b b24 hb (by omega), nI_add, hl]
theorem tmS_cons {T : xNs × Int32 × Int32 × Int32 × Int32} {p : Nat} (h24 : p < 24) (t : List Int32) : ∀ (k i : Nat), tmS (nI p :: t, T) i k = tmP T.1 p i k + tmS (t, T) i k := by
  intro k
  induction k with
  | zero => intro i; rfl
  | succ k ih =>
    intro i
    rw [tmS, tmS, tmP, ih (i + 1)]
    show (clAt 24 (ti0 T.1 i) (nI p) + tmF (ti0 T.1 i) t) + (tmP T.1 p (i + 1) k + tmS (t, T) (i + 1) k) = (ti0 T.1 i p + tmP T.1 p (i + 1) k) + (tmF (ti0 T.1 i) t + tmS (t, T) (i + 1) k)
    rw [clAt_nI h24 (by decide)]
    ac_rfl
theorem tmS_nil {T : xNs × Int32 × Int32 × Int32 × Int32} : ∀ (k i : Nat), tmS ([], T) i k = 0 := by
  intro k
  induction k with
  | zero => intro i; rfl
  | succ k ih =>
    intro i
    rw [tmS, ih (i + 1)]
    rfl
/-- the signs together are the text -/
theorem tmS_all {T : Int32 × Int32 × Int32 × Int32} (w : wfN N d l) : ∀ L : List Int32, rPr L N → tmS (L, N, T) 0 8 = txF N.2.2.2 L := by
  intro L
  induction L with
  | nil => intro _; rw [tmS_nil]; rfl
  | cons x t ih =>
    intro pr
    obtain ⟨p, p24, ep, hp⟩ := pr x List.mem_cons_self
    rw [ep, tmS_cons p24, ih (fun y hy => pr y (List.mem_cons_of_mem _ hy)), tmP_len w (d p) p p24 hp (Nat.le_refl _), txF, clAt_nI p24 (by decide), wf_len w p24 hp]
/-- how many parts from i on are in the row -/
def cnS (L : List Int32) : Nat → Nat → Nat
  | _, 0 => 0
  | i, k + 1 => cntI L (nI i) + cnS L (i + 1) k
theorem cnS_app (L : List Int32) : ∀ (j i k : Nat), cnS L i (j + k) = cnS L i j + cnS L (i + j) k := by
  intro j
  induction j with
  | zero => intro i k; rw [Nat.zero_add, cnS, Nat.zero_add, Nat.add_zero]
  | succ j ih =>
    intro i k
    rw [show j + 1 + k = (j + k) + 1 by omega, cnS, cnS, ih, show i + 1 + j = i + (j + 1) by omega]
    omega
theorem unlI_app (L : List Int32) : ∀ (j i k : Nat), unlI L i (j + k) = unlI L i j + unlI L (i + j) k := by
  intro j
  induction j with
  | zero => intro i k; rw [Nat.zero_add, unlI, Nat.zero_add, Nat.add_zero]
  | succ j ih =>
    intro i k
    rw [show j + 1 + k = (j + k) + 1 by omega, unlI, unlI, ih, show i + 1 + j = i + (j + 1) by omega]
    omega
theorem cnS_nil : ∀ (k i : Nat), cnS [] i k = 0 := by
  intro k
  induction k with
  | zero => intro i; rfl
  | succ k ih => intro i; rw [cnS, ih (i + 1)]; rfl
theorem cnS_cons {p : Nat} (h24 : p < 24) (t : List Int32) : ∀ (k i : Nat), i + k ≤ 24 → cnS (nI p :: t) i k = (if i ≤ p ∧ p < i + k then 1 else 0) + cnS t i k := by
  intro k
  induction k with
  | zero => intro i _; rw [if_neg (by omega)]; rfl
  | succ k ih =>
    intro i hi
    rw [cnS, cnS, cntI, ih (i + 1) (by omega)]
    by_cases e : p = i
    · rw [if_pos (by rw [e]), if_neg (by omega), if_pos (by omega)]
      omega
    · rw [if_neg (fun z => e ((nI_eq (by omega) (by omega)).mp z))]
      by_cases h : i + 1 ≤ p ∧ p < i + 1 + k
      · rw [if_pos h, if_pos (by omega)]
        omega
      · rw [if_neg h, if_neg (by omega)]
        omega
theorem cnS_all : ∀ L : List Int32, rPr L N → cnS L 0 24 = L.length := by
  intro L
  induction L with
  | nil => intro _; rw [cnS_nil]; rfl
  | cons x t ih =>
    intro pr
    obtain ⟨p, p24, ep, hp⟩ := pr x List.mem_cons_self
    rw [ep, cnS_cons p24 t 24 0 (by omega), ih (fun y hy => pr y (List.mem_cons_of_mem _ hy)), if_pos (by omega), List.length_cons]
    omega
theorem cnt_no {L : List Int32} (pr : rPr L N) {m : Nat} (m8 : 8 ≤ m) (m24 : m < 24) (hm : N.1 m = -1) : cntI L (nI m) = 0 := by
  induction L with
  | nil => rfl
  | cons x t ih =>
    obtain ⟨p, p24, ep, hp⟩ := pr x List.mem_cons_self
    have hne : ¬ x = nI m := by
      intro z
      rw [ep] at z
      have := (nI_eq (by omega) (by omega)).mp z
      subst this
      exact hp.elim (fun y => absurd y (by omega)) (fun y => y hm)
    rw [cntI, if_neg hne, ih (fun y hy => pr y (List.mem_cons_of_mem _ hy))]
theorem cnS_le (L : List Int32) : ∀ (k i : Nat), cnS L i k ≤ k * L.length := by
  intro k
  induction k with
  | zero => intro i; exact Nat.zero_le _
  | succ k ih =>
    intro i
    have h1 := ih (i + 1)
    have h2 := cntI_le L (nI i)
    rw [cnS, Nat.succ_mul]
    omega
/-- the first sign of a name is that of its first part, the last one that of its second -/
theorem sg_first (w : wfN N d l) {m a b : Nat} (m8 : 8 ≤ m) (m24 : m < 24) (hm : N.1 m ≠ -1) (ea : N.1 m = nI a) (eb : N.2.1 m = nI b) (a24 : a < 24) (b24 : b < 24) (ha : hsN N a) (hb : hsN N b) (ed : d m = 1 + max (d a) (d b)) (el : l m = l a + l b) :
    sgN N.1 N.2.1 N.2.2.2 16 (nI m) 0 = sgN N.1 N.2.1 N.2.2.2 16 (nI a) 0 ∧ sgN N.1 N.2.1 N.2.2.2 16 (nI m) (nI (l m) - 1) = sgN N.1 N.2.1 N.2.2.2 16 (nI b) (nI (l b) - 1) := by
  have la := wf_l16 w a24 ha
  have lb := wf_l16 w b24 hb
  have st := sgN_st w m24 m8 a24 b24 ea eb ha hb ed (wf_d16 w m24 (Or.inr hm))
  constructor
  · rw [st 0, if_pos (show (0 : Int32) < nI (l a) from nI_lt (a := 0) (by omega) (by omega))]
  · obtain ⟨y, ey⟩ : ∃ y, l b = y + 1 := ⟨l b - 1, by omega⟩
    rw [st _, el, ey, show l a + (y + 1) = (l a + y) + 1 by omega, nI_pred, if_neg (nI_nlt (by omega) (by omega)), nI_sub (by omega), nI_pred]
    rw [show l a + y - l a = y by omega]
end SU
