/-! The model: through the buffer. -/
section GO
variable {m : Nat} {D : Int64}
def zG (Z Z' : Nat → Int32) : Prop := ∀ j, j ≠ 12 → j ≠ 13 → j ≠ 14 → Z' j = Z j
theorem zG.tr {Z Z1 Z2 : Nat → Int32} (a : zG Z Z1) (b : zG Z1 Z2) : zG Z Z2 := fun j h1 h2 h3 => (b j h1 h2 h3).trans (a j h1 h2 h3)
theorem zG_12 (Z : Nat → Int32) (v : Int32) : zG Z (va_up Z 12 v) := fun _ h1 _ _ => va_up_ne _ _ h1
theorem zG_13 (Z : Nat → Int32) (v : Int32) : zG Z (va_up Z 13 v) := fun _ _ h1 _ => va_up_ne _ _ h1
theorem zG_14 (Z : Nat → Int32) (v : Int32) : zG Z (va_up Z 14 v) := fun _ _ _ h1 => va_up_ne _ _ h1
def frG (C : List Int32) (j : Nat) : Prop := ¬ (nuC (bfAt C.length (gd C) (nI j)) = true ∧ ltC (bfAt C.length (gd C) (nI j - 1)) = true)
theorem bf_in {C : List Int32} (hC : C.length ≤ 60) {j : Nat} (hj : j < C.length) : bfAt C.length (gd C) (nI j) = gd C j := by
  unfold bfAt
  rw [if_pos (nI_lt hj (by omega)), clAt_nI (by omega) (by decide)]
theorem bf_out {C : List Int32} (hC : C.length ≤ 60) : bfAt C.length (gd C) (nI C.length) = -1 := by
  unfold bfAt
  rw [if_neg (nI_nlt (Nat.le_refl _) (by omega))]
theorem lt_nu {c : Int32} (h : nuC c = true) : ltC c = false := by
  unfold nuC at h
  rw [Bool.and_eq_true, decide_eq_true_eq, decide_eq_true_eq] at h
  have h1 : c < 97 := Int32.lt_of_le_of_lt (le_of_nlt h.2) (by decide)
  unfold ltC
  rw [decide_eq_false (fun z => z h1)]
  rfl
theorem nu_t {e : Int32} (h : nuC e = true) : ∃ t, 2 ≤ t ∧ t ≤ 9 ∧ e - 48 = nI t := by
  unfold nuC at h
  rw [Bool.and_eq_true, decide_eq_true_eq, decide_eq_true_eq] at h
  have h0 : ¬ e < 0 := fun z => h.1 (Int32.lt_trans z (by decide))
  obtain ⟨j, j1, j2⟩ := nI_of2 (M := 57) (n := 57) (by decide) h0 (le_of_nlt h.2)
  have j3 : 50 ≤ j := by
    apply Nat.le_of_not_lt
    intro z
    refine h.1 ?_
    rw [j2]
    exact nI_lt (b := 50) z (by omega)
  exact ⟨j - 48, by omega, by omega, by rw [j2]; exact nI_sub (a := j) (b := 48) (by omega)⟩
/-- a letter with a number behind it -/
theorem go_b {C : List Int32} (hC : C.length ≤ 60) {j t : Nat} (hj : j + 1 < C.length) (hl : ltC (gd C j) = true) (hn : nuC (gd C (j + 1)) = true) (ht : t ≤ 9) (et : gd C (j + 1) - 48 = nI t) :
    frG C (j + 2) ∧ fwF C.length (gd C) j (C.length - j) = fwF C.length (gd C) (j + 2) (C.length - (j + 2)) ∧ wbF C.length (gd C) j (C.length - j) = List.replicate t (gd C j - 97) ++ wbF C.length (gd C) (j + 2) (C.length - (j + 2)) := by
  have b0 := bf_in hC (show j < C.length by omega)
  have b1 := bf_in hC hj
  have l1 := lt_nu hn
  refine ⟨?_, ?_, ?_⟩
  · intro z
    have z2 := z.2
    rw [show nI (j + 2) - 1 = nI (j + 1) from nI_pred (j + 1), b1, l1] at z2
    exact absurd z2 (by decide)
  · rw [show C.length - j = C.length - (j + 2) + 1 + 1 by omega, fwF, if_pos (Or.inl (by rw [b0]; exact hl)), fwF, if_pos (Or.inr ⟨by rw [b1]; exact hn, by rw [nI_pred, b0]; exact hl⟩)]
  · have t0 : tmN C.length (gd C) j = t := by
      unfold tmN tmA
      rw [b0, if_pos hl, nI_of1, b1, if_pos hn, et, nI_clamp (by omega)]
    have t1 : tmN C.length (gd C) (j + 1) = 0 := by
      unfold tmN tmA
      rw [b1, if_neg (by rw [l1]; decide)]
      rfl
    rw [show C.length - j = C.length - (j + 2) + 1 + 1 by omega, wbF, wbF, t0, t1, b0, List.replicate_zero, List.nil_append]
/-- a letter alone -/
theorem go_c {C : List Int32} (hC : C.length ≤ 60) {j : Nat} (hj : j < C.length) (hl : ltC (gd C j) = true) (hn : j + 1 < C.length → nuC (gd C (j + 1)) = false) :
    frG C (j + 1) ∧ fwF C.length (gd C) j (C.length - j) = fwF C.length (gd C) (j + 1) (C.length - (j + 1)) ∧ wbF C.length (gd C) j (C.length - j) = List.replicate 1 (gd C j - 97) ++ wbF C.length (gd C) (j + 1) (C.length - (j + 1)) := by
  have b0 := bf_in hC hj
  have n1 : nuC (bfAt C.length (gd C) (nI (j + 1))) = false := by
    by_cases h1 : j + 1 < C.length
    · rw [bf_in hC h1]; exact hn h1
    · rw [show j + 1 = C.length by omega, bf_out hC]; decide
  refine ⟨?_, ?_, ?_⟩
  · intro z
    rw [n1] at z
    exact absurd z.1 (by decide)
  · rw [show C.length - j = C.length - (j + 1) + 1 by omega, fwF, if_pos (Or.inl (by rw [b0]; exact hl))]
  · have t0 : tmN C.length (gd C) j = 1 := by
      unfold tmN tmA
      rw [b0, if_pos hl, nI_of1, if_neg (by rw [n1]; decide)]
      rfl
    rw [show C.length - j = C.length - (j + 1) + 1 by omega, wbF, t0, b0]
theorem fr_0 {C : List Int32} (hC : C.length ≤ 60) : frG C 0 := by
  intro z
  have z2 := z.2
  have e1 : nI 0 - 1 = -1 := by decide
  rw [e1] at z2
  have e2 : bfAt C.length (gd C) (-1) = -1 := by
    unfold bfAt clAt
    rw [if_pos (show (-1 : Int32) < 0 by decide)]
    exact ite_self _
  rw [e2] at z2
  exact absurd z2 (by decide)
end GO
