/-! The model: the whole step. -/
section SQ
variable {h : xH} {m : Nat} {Z : Nat → Int32} {D : Int64} {A : Nat → Nat → Int32}
theorem nmF_pr (fs sn : Nat → Int32) (a c : Int32) : ∀ (k : Nat) (acc : Int32), k ≤ 16 → nmF fs sn a c k acc = acc ∨ ∃ b, 8 ≤ b ∧ b < 8 + k ∧ nmF fs sn a c k acc = nI b ∧ (fs b = -1 ∨ (fs b = a ∧ sn b = c)) := by
  intro k
  induction k with
  | zero => intro acc _; exact Or.inl rfl
  | succ k ih =>
    intro acc hk
    rw [nmF]
    by_cases h1 : fs (8 + k) = -1
    · rw [if_pos h1]
      rcases ih (nI (8 + k)) (by omega) with e | ⟨b, b1, b2, b3, b4⟩
      · exact Or.inr ⟨8 + k, by omega, by omega, e, Or.inl h1⟩
      · exact Or.inr ⟨b, b1, by omega, b3, b4⟩
    · rw [if_neg h1]
      by_cases h2 : fs (8 + k) = a ∧ sn (8 + k) = c
      · rw [if_pos h2]
        exact Or.inr ⟨8 + k, by omega, by omega, rfl, Or.inr h2⟩
      · rw [if_neg h2]
        rcases ih acc (by omega) with e | ⟨b, b1, b2, b3, b4⟩
        · exact Or.inl e
        · exact Or.inr ⟨b, b1, by omega, b3, b4⟩
theorem x115 : xix 115 117 := ⟨by decide, by decide⟩
theorem c115 : (115 : Int32).toNatClampNeg = 115 := by decide
theorem rS_ap {s f : Nat → Int32} {X : xS} {x y o : Int32} {b : Nat} (r : rS s X) (h8 : 8 ≤ b) (h24 : b < 24) (hx : x ≠ -1) (hb : X.2.1.1 b = -1 ∨ (X.2.1.1 b = x ∧ X.2.1.2.1 b = y)) (hl : (repI x y (nI b) X.1).length ≤ 64) (f0 : f 0 = nI (repI x y (nI b) X.1).length) (fr : ∀ i, i < (repI x y (nI b) X.1).length → f (1 + i) = gd (repI x y (nI b) X.1) i) (f1 : f (57 + b) = 1) (f2 : f (73 + b) = x) (f3 : f (89 + b) = y) (f4 : ∀ j, 65 ≤ j → j ≠ 57 + b → j ≠ 73 + b → j ≠ 89 + b → j ≠ 115 → f j = s j) (f5 : f 115 = s 115 + 1) : rS f (apF X (x, y, o, nI b)) := by
  obtain ⟨r1, r2, r3, r4, r5, r6, r7, r8⟩ := r
  unfold apF
  refine ⟨f0, hl, fr, fun k k8 k24 => ?_, by rw [f4 113 (by omega) (by omega) (by omega) (by omega) (by omega)]; exact r5, by rw [f4 114 (by omega) (by omega) (by omega) (by omega) (by omega)]; exact r6, by rw [f5, r7], by rw [f4 116 (by omega) (by omega) (by omega) (by omega) (by omega)]; exact r8⟩
  simp only [nI_clamp (show b < 2 ^ 31 by omega), hasP_nI h8 h24]
  by_cases e : k = b
  · subst e
    rcases hb with hb | hb
    · rw [decide_eq_false (fun z => z hb)]
      simp only [Bool.false_eq_true, if_false, nsDef, va_up_self]
      exact ⟨by rw [f1, if_neg hx], fun _ => ⟨f2, f3⟩⟩
    · rw [decide_eq_true (show ¬ X.2.1.1 k = -1 by rw [hb.1]; exact hx)]
      simp only [if_true]
      exact ⟨by rw [f1, if_neg (by rw [hb.1]; exact hx)], fun _ => ⟨by rw [f2, hb.1], by rw [f3, hb.2]⟩⟩
  · rw [f4 (57 + k) (by omega) (by omega) (by omega) (by omega) (by omega), f4 (73 + k) (by omega) (by omega) (by omega) (by omega) (by omega), f4 (89 + k) (by omega) (by omega) (by omega) (by omega) (by omega)]
    split
    · exact r4 k k8 k24
    · simp only [nsDef, va_up_ne _ _ e]
      exact r4 k k8 k24
end SQ
