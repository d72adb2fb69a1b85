/-! ===== Int32 by its bits: bt x i ===== -/
def bt (x : Int32) (i : Nat) : Bool := x.toBitVec.getLsbD i
theorem b_ext {x y : Int32} (h : ∀ i, i < 32 → bt x i = bt y i) : x = y := Int32.toBitVec_inj.mp (BitVec.eq_of_getLsbD_eq (fun i hi => h i hi))
theorem b_or (x y : Int32) (i : Nat) : bt (x ||| y) i = (bt x i || bt y i) := by unfold bt; rw [Int32.toBitVec_or, BitVec.getLsbD_or]
theorem b_and (x y : Int32) (i : Nat) : bt (x &&& y) i = (bt x i && bt y i) := by unfold bt; rw [Int32.toBitVec_and, BitVec.getLsbD_and]
theorem b_xor (x y : Int32) (i : Nat) : bt (x ^^^ y) i = (bt x i ^^ bt y i) := by unfold bt; rw [Int32.toBitVec_xor, BitVec.getLsbD_xor]
theorem b_big {x : Int32} {i : Nat} (h : 32 ≤ i) : bt x i = false := BitVec.getLsbD_of_ge _ _ h
theorem b_m1 : ∀ i, i < 32 → bt (-1) i = true := by decide +kernel
theorem b_0 (i : Nat) : bt 0 i = false := BitVec.getLsbD_zero
theorem s_l : ∀ n, n < 32 → ((nI n &&& 31).toBitVec.smod 32).toNat = n := by decide +kernel
theorem b_shl (n : Nat) (hn : n < 32) (x : Int32) {i : Nat} (hi : i < 32) : bt (x <<< (nI n &&& 31)) i = (decide (n ≤ i) && bt x (i - n)) := by
  unfold bt
  rw [Int32.toBitVec_shiftLeft]
  show (x.toBitVec <<< ((nI n &&& 31).toBitVec.smod 32).toNat).getLsbD i = _
  rw [s_l n hn, BitVec.getLsbD_shiftLeft]
  rcases Nat.lt_or_ge i n with h | h
  · simp [h, Nat.not_le.mpr h]
  · simp [hi, h, Nat.not_lt.mpr h]
theorem b_sshr (n : Nat) (hn : n < 32) (x : Int32) {i : Nat} (hi : i < 32) : bt (x >>> (nI n &&& 31)) i = if n + i < 32 then bt x (n + i) else bt x 31 := by
  unfold bt
  rw [Int32.toBitVec_shiftRight]
  show (x.toBitVec.sshiftRight ((nI n &&& 31).toBitVec.smod 32).toNat).getLsbD i = _
  rw [s_l n hn, BitVec.getLsbD_sshiftRight, BitVec.msb_eq_getLsbD_last]
  simp [hi]
/-! What can be reached from a part by way of pairs; sets of parts as bits. -/
section RC
variable {N : xNs} {d l : Nat → Nat}
theorem bt1 : ∀ i, i < 32 → bt 1 i = decide (i = 0) := by decide +kernel
theorem b_and1 (y : Int32) : y &&& 1 = if bt y 0 = true then 1 else 0 := by
  refine b_ext (fun i hi => ?_)
  rw [b_and, bt1 i hi]
  by_cases h : bt y 0 = true
  · rw [if_pos h, bt1 i hi]
    by_cases e : i = 0
    · rw [e, h]; rfl
    · rw [decide_eq_false e, Bool.and_false]
  · rw [if_neg h, b_0]
    by_cases e : i = 0
    · rw [e]; simp [h]
    · rw [decide_eq_false e, Bool.and_false]
theorem b_at (y : Int32) {k : Nat} (hk : k < 31) : (y >>> (nI k &&& 31)) &&& 1 = if bt y k = true then 1 else 0 := by
  rw [b_and1, b_sshr k (by omega) y (by omega), if_pos (show k + 0 < 32 by omega), Nat.add_zero]
theorem b_one {k i : Nat} (hk : k < 31) (hi : i < 32) : bt ((1 : Int32) <<< (nI k &&& 31)) i = decide (i = k) := by
  rw [b_shl k (by omega) 1 hi]
  by_cases h : k ≤ i
  · rw [decide_eq_true h, Bool.true_and, bt1 _ (by omega)]
    exact decide_eq_decide.mpr (by omega)
  · rw [decide_eq_false h, Bool.false_and, decide_eq_false (by omega)]
theorem b_lt {y : Int32} {i : Nat} (h : bt y i = true) : i < 32 := by
  apply Nat.lt_of_not_le
  intro z
  rw [b_big z] at h
  cases h
/-- one more bit -/
theorem b_add {y : Int32} {k i : Nat} (hk : k < 31) : bt (y ||| ((1 : Int32) <<< (nI k &&& 31))) i = true ↔ bt y i = true ∨ i = k := by
  by_cases hi : i < 32
  · rw [b_or, b_one hk hi, Bool.or_eq_true, decide_eq_true_eq]
  · rw [b_big (by omega), b_big (by omega)]
    constructor
    · intro z; cases z
    · intro z
      rcases z with z | z
      · cases z
      · omega
theorem b_add2 {y : Int32} {k j i : Nat} (hk : k < 31) (hj : j < 31) : bt (y ||| (((1 : Int32) <<< (nI k &&& 31)) ||| ((1 : Int32) <<< (nI j &&& 31)))) i = true ↔ bt y i = true ∨ i = k ∨ i = j := by
  by_cases hi : i < 32
  · rw [b_or, b_or, b_one hk hi, b_one hj hi, Bool.or_eq_true, Bool.or_eq_true, decide_eq_true_eq, decide_eq_true_eq]
  · rw [b_big (by omega), b_big (by omega)]
    constructor
    · intro z; cases z
    · intro z
      rcases z with z | z | z
      · cases z
      · omega
      · omega
/-- in the first, not in the second -/
theorem b_less (S D : Int32) {k : Nat} (hk : k < 24) : bt (S &&& (D ^^^ -1)) k = (bt S k && !bt D k) := by
  rw [b_and, b_xor, b_m1 k (by omega), Bool.xor_true]
/-- can be reached -/
def rch (N : xNs) (f k : Nat) : Prop := ∀ U : Nat → Prop, U f → (∀ j i, 8 ≤ j → j < 24 → i < 24 → U j → (N.1 j = nI i ∨ N.2.1 j = nI i) → U i) → U k
theorem rch_rf (f : Nat) : rch N f f := fun _ h _ => h
theorem rch_st {f j i : Nat} (q : rch N f j) (h8 : 8 ≤ j) (h24 : j < 24) (hi : i < 24) (e : N.1 j = nI i ∨ N.2.1 j = nI i) : rch N f i := fun U a b => b j i h8 h24 hi (q U a b) e
/-- what is so at the law's loop: what was come to, what was done of it -/
def rcI (N : xNs) (f : Nat) (S D : Int32) : Prop :=
  bt S f = true ∧ (∀ k, bt S k = true → k < 24 ∧ hsN N k ∧ rch N f k) ∧ ∀ k, bt D k = true → 8 ≤ k ∧ bt S k = true ∧ ∀ i, i < 24 → (N.1 k = nI i ∨ N.2.1 k = nI i) → bt S i = true
def nob (D : Int32) : Nat → Nat → Nat
  | _, 0 => 0
  | i, k + 1 => (if bt D i = true then 0 else 1) + nob D (i + 1) k
theorem nob_le (D : Int32) : ∀ (k i : Nat), nob D i k ≤ k := by
  intro k
  induction k with
  | zero => intro i; exact Nat.le_refl _
  | succ k ih =>
    intro i
    have := ih (i + 1)
    rw [nob]
    split <;> omega
theorem nob_set {D D' : Int32} {v : Nat} (h0 : ¬ bt D v = true) (h1 : bt D' v = true) (he : ∀ k, k ≠ v → (bt D' k = true ↔ bt D k = true)) : ∀ (k i : Nat), (i ≤ v → v < i + k → nob D' i k + 1 = nob D i k) ∧ ((v < i ∨ i + k ≤ v) → nob D' i k = nob D i k) := by
  intro k
  induction k with
  | zero => intro i; exact ⟨fun a b => by omega, fun _ => rfl⟩
  | succ k ih =>
    intro i
    obtain ⟨i1, i2⟩ := ih (i + 1)
    rw [nob, nob]
    by_cases e : i = v
    · subst e
      have := i2 (Or.inl (by omega))
      rw [if_pos h1, if_neg h0]
      exact ⟨fun _ _ => by omega, fun z => by omega⟩
    · by_cases hb : bt D i = true
      · rw [if_pos ((he i e).mpr hb), if_pos hb]
        exact ⟨fun a b => by have := i1 (by omega) (by omega); omega, fun z => by have := i2 (by omega); omega⟩
      · rw [if_neg (fun z => hb ((he i e).mp z)), if_neg hb]
        exact ⟨fun a b => by have := i1 (by omega) (by omega); omega, fun z => by have := i2 (by omega); omega⟩
/-- the first part from i on that is to be done -/
def fsB (S D : Int32) : Nat → Nat → Nat
  | i, 0 => i
  | i, k + 1 => if bt S i = true ∧ ¬ bt D i = true then i else fsB S D (i + 1) k
theorem fsB_is (S D : Int32) : ∀ (k i : Nat), (fsB S D i k = i + k ∧ ∀ j, i ≤ j → j < i + k → bt S j = true → bt D j = true) ∨ (i ≤ fsB S D i k ∧ fsB S D i k < i + k ∧ bt S (fsB S D i k) = true ∧ ¬ bt D (fsB S D i k) = true) := by
  intro k
  induction k with
  | zero => intro i; exact Or.inl ⟨rfl, fun j h1 h2 => by omega⟩
  | succ k ih =>
    intro i
    rw [fsB]
    by_cases h : bt S i = true ∧ ¬ bt D i = true
    · rw [if_pos h]
      exact Or.inr ⟨Nat.le_refl _, by omega, h.1, h.2⟩
    · rw [if_neg h]
      rcases ih (i + 1) with ⟨a, b⟩ | ⟨a, b, c⟩
      · refine Or.inl ⟨by omega, fun j h1 h2 h3 => ?_⟩
        by_cases e : j = i
        · subst e
          exact Classical.byContradiction (fun z => h ⟨h3, z⟩)
        · exact b j (by omega) (by omega) h3
      · exact Or.inr ⟨by omega, by omega, c⟩
theorem rcI_0 {f : Nat} (hf : f < 24) (hs : hsN N f) : rcI N f ((1 : Int32) <<< (nI f &&& 31)) 0 := by
  have hb : ∀ k, bt ((1 : Int32) <<< (nI f &&& 31)) k = true → k = f := by
    intro k hk
    rw [b_one (by omega) (b_lt hk)] at hk
    exact of_decide_eq_true hk
  refine ⟨by rw [b_one (by omega) (by omega)]; exact decide_eq_true rfl, fun k hk => ?_, fun k hk => ?_⟩
  · rw [hb k hk]
    exact ⟨hf, hs, rch_rf f⟩
  · rw [b_0] at hk
    cases hk
/-- a step of the law's loop -/
theorem rcI_st (w : wfN N d l) {f v a b : Nat} {S D : Int32} (q : rcI N f S D) (v8 : 8 ≤ v) (hv : bt S v = true) (a24 : a < 24) (b24 : b < 24) (ea : N.1 v = nI a) (eb : N.2.1 v = nI b) (ha : hsN N a) (hb : hsN N b) :
    rcI N f (S ||| (((1 : Int32) <<< (nI a &&& 31)) ||| ((1 : Int32) <<< (nI b &&& 31)))) (D ||| ((1 : Int32) <<< (nI v &&& 31))) := by
  obtain ⟨q1, q2, q3⟩ := q
  obtain ⟨v24, hsv, rv⟩ := q2 v hv
  have hS : ∀ i, bt (S ||| (((1 : Int32) <<< (nI a &&& 31)) ||| ((1 : Int32) <<< (nI b &&& 31)))) i = true ↔ bt S i = true ∨ i = a ∨ i = b := fun i => b_add2 (by omega) (by omega)
  refine ⟨(hS f).mpr (Or.inl q1), fun k hk => ?_, fun k hk => ?_⟩
  · rcases (hS k).mp hk with z | z | z
    · exact q2 k z
    · rw [z]; exact ⟨a24, ha, rch_st rv v8 v24 a24 (Or.inl ea)⟩
    · rw [z]; exact ⟨b24, hb, rch_st rv v8 v24 b24 (Or.inr eb)⟩
  · rcases (b_add (by omega)).mp hk with z | z
    · obtain ⟨c1, c2, c3⟩ := q3 k z
      exact ⟨c1, (hS k).mpr (Or.inl c2), fun i hi e => (hS i).mpr (Or.inl (c3 i hi e))⟩
    · subst z
      refine ⟨v8, (hS k).mpr (Or.inl hv), fun i hi e => (hS i).mpr (Or.inr ?_)⟩
      rcases e with e | e
      · exact Or.inl ((nI_eq (by omega) (by omega)).mp (e.symm.trans ea))
      · exact Or.inr ((nI_eq (by omega) (by omega)).mp (e.symm.trans eb))
/-- all is done: what was come to is what can be reached -/
theorem rcI_end {f : Nat} {S D : Int32} (q : rcI N f S D) (hd : ∀ k, 8 ≤ k → k < 24 → bt S k = true → bt D k = true) (m : Nat) : bt S m = true ↔ rch N f m := by
  obtain ⟨q1, q2, q3⟩ := q
  constructor
  · intro z
    exact (q2 m z).2.2
  · intro z
    exact z (fun k => bt S k = true) q1 (fun j i h8 h24 hi hj e => (q3 j (hd j h8 h24 hj)).2.2 i hi e)
/-- a name that there is can be reached from a part of the row; what can be reached is there -/
theorem rch_ex {L : List Int32} (w : wfN N d l) (pr : rPr L N) (us : swE L N) : ∀ (n m : Nat), 8 ≤ m → m < 24 → N.1 m ≠ -1 → 16 ≤ n + d m → ∃ x, x ∈ L ∧ rch N x.toNatClampNeg m := by
  have mem : ∀ (R : List Int32) (p : Int32), cntI R p ≠ 0 → p ∈ R := by
    intro R p
    induction R with
    | nil => intro y; exact absurd rfl y
    | cons x t ih =>
      intro y
      rw [cntI] at y
      by_cases e : x = p
      · rw [e]; exact List.mem_cons_self
      · rw [if_neg e] at y
        exact List.mem_cons_of_mem _ (ih (by omega))
  intro n
  induction n with
  | zero =>
    intro m m8 m24 hm hn
    by_cases hc : cntI L (nI m) = 0
    · have hu : usN N.1 N.2.1 (nI m) 8 16 ≠ 0 := by have := us m m8 m24 hm; omega
      obtain ⟨j, j1, j2, j3⟩ := usN_ex 16 8 hu
      have hj : N.1 j ≠ -1 := by
        intro z
        have z2 := (w.1 j j1 (by omega) z).1
        rcases j3 with j3 | j3
        · rw [z] at j3; exact nI_nm1 (by omega) j3.symm
        · rw [z2] at j3; exact nI_nm1 (by omega) j3.symm
      have h1 := (wf_dpt w j j1 (by omega) hj).2.2.2 m m8 m24 j3
      have h2 := wf_d16 w (show j < 24 by omega) (Or.inr hj)
      omega
    · exact ⟨nI m, mem L _ hc, by rw [nI_clamp (by omega)]; exact rch_rf m⟩
  | succ n ih =>
    intro m m8 m24 hm hn
    by_cases hc : cntI L (nI m) = 0
    · have hu : usN N.1 N.2.1 (nI m) 8 16 ≠ 0 := by have := us m m8 m24 hm; omega
      obtain ⟨j, j1, j2, j3⟩ := usN_ex 16 8 hu
      have hj : N.1 j ≠ -1 := by
        intro z
        have z2 := (w.1 j j1 (by omega) z).1
        rcases j3 with j3 | j3
        · rw [z] at j3; exact nI_nm1 (by omega) j3.symm
        · rw [z2] at j3; exact nI_nm1 (by omega) j3.symm
      have h1 := (wf_dpt w j j1 (by omega) hj).2.2.2 m m8 m24 j3
      obtain ⟨x, hx, hr⟩ := ih j j1 (by omega) hj (by omega)
      exact ⟨x, hx, rch_st hr j1 (by omega) m24 j3⟩
    · exact ⟨nI m, mem L _ hc, by rw [nI_clamp (by omega)]; exact rch_rf m⟩
theorem rch_iff {X : xS} (k : okS X) {m : Nat} (m8 : 8 ≤ m) (m24 : m < 24) : (∃ x, x ∈ X.1 ∧ rch X.2.1 x.toNatClampNeg m) ↔ X.2.1.1 m ≠ -1 := by
  obtain ⟨q1, ⟨d, l, w⟩, pr, us, ho⟩ := k
  constructor
  · intro ⟨x, hx, hr⟩
    obtain ⟨p, p24, ep, hp⟩ := pr x hx
    have := hr (fun i => i < 24 ∧ hsN X.2.1 i) (by rw [ep, nI_clamp (by omega)]; exact ⟨p24, hp⟩) (fun j i h8 h24 hi hj e => by
      obtain ⟨p1, p2, a, b, a24, b24, ea, eb, ha, hb, ed, el⟩ := wf_pr w h24 hj.2 h8
      rcases e with e | e
      · rw [(nI_eq (by omega) (by omega)).mp (e.symm.trans ea)]; exact ⟨a24, ha⟩
      · rw [(nI_eq (by omega) (by omega)).mp (e.symm.trans eb)]; exact ⟨b24, hb⟩)
    exact this.2.elim (fun z => absurd z (by omega)) id
  · intro hm
    exact rch_ex w pr us 16 m m8 m24 hm (by omega)
end RC
