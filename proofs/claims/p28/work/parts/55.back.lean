/-! A name let go from the row's end to its start comes to the same. -/
section BK
theorem take_sn : ∀ (k : Nat) (L : List Int32), k < L.length → L.take (k + 1) = L.take k ++ [gd L k] := by
  intro k
  induction k with
  | zero =>
    intro L hk
    match L, hk with
    | x :: t, _ => rfl
  | succ k ih =>
    intro L hk
    match L, hk with
    | x :: t, hk =>
      simp only [List.length_cons] at hk
      rw [List.take_succ_cons, ih t (by omega), List.take_succ_cons]
      rfl
theorem rlI_app (v a c : Int32) : ∀ (s t : List Int32), rlI v a c (s ++ t) = rlI v a c s ++ rlI v a c t := by
  intro s
  induction s with
  | nil => intro t; rfl
  | cons x s ih =>
    intro t
    rw [List.cons_append, rlI, rlI, ih]
    by_cases h1 : x = v
    · rw [if_pos h1, if_pos h1]; rfl
    · rw [if_neg h1, if_neg h1]; rfl
/-- the places below k, from the last one down -/
def lB (N : xNs) (v : Nat) : Nat → List Int32 → List Int32
  | 0, L => L
  | k + 1, L => lB N v k (if gd L k = nI v then opL L N k else L)
theorem lB_rl {N : xNs} {v : Nat} (hv : v < 24) : ∀ (k : Nat) (L : List Int32), k ≤ L.length → lB N v k L = rlI (nI v) (N.1 v) (N.2.1 v) (L.take k) ++ L.drop k := by
  intro k
  induction k with
  | zero => intro L _; rfl
  | succ k ih =>
    intro L hk
    have hl : (L.take k).length = k := by rw [List.length_take]; omega
    rw [lB, take_sn k L (by omega), rlI_app]
    by_cases h1 : gd L k = nI v
    · rw [if_pos h1, ih _ (by rw [opL_len (by omega)]; omega)]
      unfold opL
      rw [List.take_append_of_le_length (by omega), List.take_of_length_le (by omega), List.drop_append_of_le_length (by omega), List.drop_of_length_le (by omega), h1, clAt_nI hv (by decide), clAt_nI hv (by decide), rlI, if_pos rfl, rlI, List.nil_append, List.append_assoc]
      rfl
    · rw [if_neg h1, ih L (by omega), rlI, if_neg h1, rlI, gd_drop (show k < L.length by omega), List.append_assoc]
      rfl
theorem lB_all {N : xNs} {v : Nat} (hv : v < 24) (L : List Int32) : lB N v L.length L = rlI (nI v) (N.1 v) (N.2.1 v) L := by
  rw [lB_rl hv _ _ (Nat.le_refl _), List.take_of_length_le (Nat.le_refl _), List.drop_of_length_le (Nat.le_refl _), List.append_nil]
end BK
