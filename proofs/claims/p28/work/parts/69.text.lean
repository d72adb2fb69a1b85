/-! The text that a row stands for. -/
section TX
variable {N : xNs} {d l : Nat → Nat}
def exP (N : xNs) : Nat → Nat → List Int32
  | 0, p => [nI p]
  | k + 1, p => if p < 8 then [nI p] else exP N k (N.1 p).toNatClampNeg ++ exP N k (N.2.1 p).toNatClampNeg
def exL (N : xNs) : List Int32 → List Int32
  | [] => []
  | x :: t => exP N 16 x.toNatClampNeg ++ exL N t
def lnL (l : Nat → Nat) : List Int32 → Nat
  | [] => 0
  | x :: t => l x.toNatClampNeg + lnL l t
theorem exP_8 {p : Nat} (h8 : p < 8) (k : Nat) : exP N k p = [nI p] := by
  cases k with
  | zero => rfl
  | succ k => rw [exP, if_pos h8]
theorem exP_fu (w : wfN N d l) : ∀ (n k j p : Nat), p < 24 → hsN N p → d p ≤ n → n ≤ k → n ≤ j → exP N k p = exP N j p := by
  intro n
  induction n with
  | zero =>
    intro k j p h24 hs hd _ _
    by_cases h8 : p < 8
    · rw [exP_8 h8, exP_8 h8]
    · obtain ⟨p1, p2, a, b, a24, b24, ea, eb, ha, hb, e, hl⟩ := wf_pr w h24 hs (by omega)
      omega
  | succ n ih =>
    intro k j p h24 hs hd hk hj
    by_cases h8 : p < 8
    · rw [exP_8 h8, exP_8 h8]
    · obtain ⟨p1, p2, a, b, a24, b24, ea, eb, ha, hb, e, hl⟩ := wf_pr w h24 hs (by omega)
      obtain ⟨k, rfl⟩ : ∃ k', k = k' + 1 := ⟨k - 1, by omega⟩
      obtain ⟨j, rfl⟩ : ∃ j', j = j' + 1 := ⟨j - 1, by omega⟩
      rw [exP, exP, if_neg h8, if_neg h8, ea, eb, nI_clamp (show a < 2 ^ 31 by omega), nI_clamp (show b < 2 ^ 31 by omega)]
      rw [ih k j a a24 ha (by omega) (by omega) (by omega), ih k j b b24 hb (by omega) (by omega) (by omega)]
theorem exP_st (w : wfN N d l) {p a b : Nat} (h24 : p < 24) (h8 : 8 ≤ p) (a24 : a < 24) (b24 : b < 24) (ea : N.1 p = nI a) (eb : N.2.1 p = nI b) (ha : hsN N a) (hb : hsN N b) (e : d p = 1 + max (d a) (d b)) (hp : d p ≤ 16) : exP N 16 p = exP N 16 a ++ exP N 16 b := by
  rw [show (16 : Nat) = 15 + 1 from rfl, exP, if_neg (by omega), ea, eb, nI_clamp (show a < 2 ^ 31 by omega), nI_clamp (show b < 2 ^ 31 by omega)]
  rw [exP_fu w 15 15 (15 + 1) a a24 ha (by omega) (by omega) (by omega), exP_fu w 15 15 (15 + 1) b b24 hb (by omega) (by omega) (by omega)]
theorem exP_len (w : wfN N d l) : ∀ (n p : Nat), p < 24 → hsN N p → d p ≤ n → (exP N 16 p).length = l p := by
  intro n
  induction n with
  | zero =>
    intro p h24 hs hd
    by_cases h8 : p < 8
    · rw [exP_8 h8, (w.2.1 p h8).2.2.2.2.2]; rfl
    · obtain ⟨p1, p2, a, b, a24, b24, ea, eb, ha, hb, e, hl⟩ := wf_pr w h24 hs (by omega)
      omega
  | succ n ih =>
    intro p h24 hs hd
    by_cases h8 : p < 8
    · rw [exP_8 h8, (w.2.1 p h8).2.2.2.2.2]; rfl
    · obtain ⟨p1, p2, a, b, a24, b24, ea, eb, ha, hb, e, hl⟩ := wf_pr w h24 hs (by omega)
      rw [exP_st w h24 (by omega) a24 b24 ea eb ha hb e (wf_d16 w h24 hs), List.length_append, ih a a24 ha (by omega), ih b b24 hb (by omega), hl]
theorem gd_app1 {s t : List Int32} {i : Nat} (hi : i < s.length) : gd (s ++ t) i = gd s i := by
  unfold gd
  rw [List.getD_eq_getElem?_getD, List.getElem?_append_left hi, List.getD_eq_getElem?_getD]
theorem gd_app2 {s t : List Int32} {i : Nat} (hi : s.length ≤ i) : gd (s ++ t) i = gd t (i - s.length) := by
  unfold gd
  rw [List.getD_eq_getElem?_getD, List.getElem?_append_right hi, List.getD_eq_getElem?_getD]
theorem sgN_ex (w : wfN N d l) : ∀ (n p r : Nat), p < 24 → hsN N p → d p ≤ n → r < l p → sgN N.1 N.2.1 N.2.2.2 16 (nI p) (nI r) = gd (exP N 16 p) r := by
  intro n
  induction n with
  | zero =>
    intro p r h24 hs hd hr
    by_cases h8 : p < 8
    · rw [exP_8 h8, sgN_8 _ _ _ h8]
      rw [(w.2.1 p h8).2.2.2.2.2] at hr
      rw [show r = 0 by omega]
      rfl
    · obtain ⟨p1, p2, a, b, a24, b24, ea, eb, ha, hb, e, hl⟩ := wf_pr w h24 hs (by omega)
      omega
  | succ n ih =>
    intro p r h24 hs hd hr
    by_cases h8 : p < 8
    · rw [exP_8 h8, sgN_8 _ _ _ h8]
      rw [(w.2.1 p h8).2.2.2.2.2] at hr
      rw [show r = 0 by omega]
      rfl
    · obtain ⟨p1, p2, a, b, a24, b24, ea, eb, ha, hb, e, hl⟩ := wf_pr w h24 hs (by omega)
      have l1 := wf_l16 w a24 ha
      have l2 := wf_l16 w b24 hb
      rw [exP_st w h24 (by omega) a24 b24 ea eb ha hb e (wf_d16 w h24 hs), sgN_st w h24 (by omega) a24 b24 ea eb ha hb e (wf_d16 w h24 hs)]
      have hla := exP_len w (d a) a a24 ha (Nat.le_refl _)
      by_cases h3 : r < l a
      · rw [if_pos (nI_lt h3 (by omega)), ih a r a24 ha (by omega) h3, gd_app1 (by omega)]
      · rw [if_neg (nI_nlt (by omega) (by omega)), nI_sub (by omega), ih b _ b24 hb (by omega) (by omega), gd_app2 (by omega), hla]
theorem lnL_bd (w : wfN N d l) : ∀ L : List Int32, rPr L N → L.length ≤ lnL l L ∧ lnL l L ≤ 65536 * L.length := by
  intro L
  induction L with
  | nil => intro _; exact ⟨Nat.le_refl _, Nat.le_refl _⟩
  | cons x t ih =>
    intro pr
    obtain ⟨p, p24, ep, hp⟩ := pr x List.mem_cons_self
    obtain ⟨i1, i2⟩ := ih (fun y hy => pr y (List.mem_cons_of_mem _ hy))
    have := wf_l16 w p24 hp
    rw [lnL, List.length_cons, ep, nI_clamp (by omega)]
    omega
theorem txF_ln (w : wfN N d l) : ∀ L : List Int32, rPr L N → txF N.2.2.2 L = nI (lnL l L) := by
  intro L
  induction L with
  | nil => intro _; rfl
  | cons x t ih =>
    intro pr
    obtain ⟨p, p24, ep, hp⟩ := pr x List.mem_cons_self
    rw [txF, lnL, ih (fun y hy => pr y (List.mem_cons_of_mem _ hy)), ep, nI_clamp (by omega), clAt_nI p24 (by decide), wf_len w p24 hp, nI_add]
theorem exL_len (w : wfN N d l) : ∀ L : List Int32, rPr L N → (exL N L).length = lnL l L := by
  intro L
  induction L with
  | nil => intro _; rfl
  | cons x t ih =>
    intro pr
    obtain ⟨p, p24, ep, hp⟩ := pr x List.mem_cons_self
    rw [exL, lnL, List.length_append, ih (fun y hy => pr y (List.mem_cons_of_mem _ hy)), ep, nI_clamp (by omega), exP_len w (d p) p p24 hp (Nat.le_refl _)]
theorem sgR_ex (w : wfN N d l) : ∀ (L : List Int32) (r : Nat), rPr L N → lnL l L < 2 ^ 31 → r < lnL l L → sgR N.1 N.2.1 N.2.2.2 L (nI r) = gd (exL N L) r := by
  intro L
  induction L with
  | nil => intro r _ _ hr; rw [lnL] at hr; omega
  | cons x t ih =>
    intro r pr hb hr
    obtain ⟨p, p24, ep, hp⟩ := pr x List.mem_cons_self
    have l1 := wf_l16 w p24 hp
    have hle := exP_len w (d p) p p24 hp (Nat.le_refl _)
    rw [lnL, ep, nI_clamp (by omega)] at hb hr
    rw [sgR, exL, ep, nI_clamp (by omega), clAt_nI p24 (by decide), wf_len w p24 hp]
    by_cases h3 : r < l p
    · rw [if_pos (nI_lt h3 (by omega)), gd_app1 (by omega), sgN_ex w (d p) p r p24 hp (Nat.le_refl _) h3]
    · rw [if_neg (nI_nlt (by omega) (by omega)), gd_app2 (by omega), nI_sub (by omega), hle, ih _ (fun y hy => pr y (List.mem_cons_of_mem _ hy)) (by omega) (by omega)]
theorem oaF_ex (w : wfN N d l) {L : List Int32} {T : Int32 × Int32 × Int32 × Int32} (pr : rPr L N) (hb : lnL l L < 2 ^ 31) : ∀ (k i : Nat), i + k = lnL l L → oaF (L, N, T) i k = (exL N L).drop i := by
  have he := exL_len w L pr
  intro k
  induction k with
  | zero => intro i hk; rw [oaF, List.drop_of_length_le (by omega)]
  | succ k ih =>
    intro i hk
    rw [oaF, gd_drop (show i < (exL N L).length by omega), ih (i + 1) (by omega)]
    simp only
    rw [sgR_ex w L i pr hb (by omega)]
theorem exL_app : ∀ s t : List Int32, exL N (s ++ t) = exL N s ++ exL N t := by
  intro s
  induction s with
  | nil => intro t; rfl
  | cons x s ih => intro t; rw [List.cons_append, exL, exL, ih, List.append_assoc]
theorem lnL_app (l : Nat → Nat) : ∀ s t : List Int32, lnL l (s ++ t) = lnL l s + lnL l t := by
  intro s
  induction s with
  | nil => intro t; rw [List.nil_append, lnL, Nat.zero_add]
  | cons x s ih => intro t; rw [List.cons_append, lnL, lnL, ih, Nat.add_assoc]
end TX
/-! The model: all names opened. -/
section OA
variable {m : Nat} {Z : Nat → Int32} {D : Int64} {N : xNs} {d l : Nat → Nat}
theorem opL_mid (P R : List Int32) (v : Nat) (hv : v < 24) : opL (P ++ nI v :: R) N P.length = P ++ N.1 v :: N.2.1 v :: R := by
  have e : gd (P ++ nI v :: R) P.length = nI v := by
    rw [gd_app2 (Nat.le_refl _), Nat.sub_self]; rfl
  unfold opL
  rw [e, clAt_nI hv (by decide), clAt_nI hv (by decide), List.take_append_of_le_length (Nat.le_refl _), List.take_of_length_le (Nat.le_refl _), List.drop_append, List.drop_of_length_le (by omega), show P.length + 1 - P.length = 1 by omega]
  rfl
end OA
