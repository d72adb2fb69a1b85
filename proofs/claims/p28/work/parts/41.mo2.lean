/-! The model: counts, copies, saving. -/
section MP
variable {h : xH} {m : Nat} {Z : Nat → Int32} {D : Int64} {A : Nat → Nat → Int32} {X : xS}
theorem va_up_up {α : Type} (f : Nat → α) (k : Nat) (a b : α) : va_up (va_up f k a) k b = va_up f k b := by
  funext j
  by_cases e : j = k
  · rw [e, va_up_self, va_up_self]
  · rw [va_up_ne _ _ e, va_up_ne _ _ e, va_up_ne _ _ e]
theorem xFr_si (h : xH) (m k i : Nat) (v : Int32) (hk : k ≤ 9) : xFr m (m + 10) h (xsi h (m + k) i v) := xFr.wd xFr_up (by omega) (by omega)
theorem xFr_mo (h : xH) (m k : Nat) (v : Value) : xFr m (m + 10) h (xso h m k v) := xFr.wd xFr_up (by omega) (by omega)
def cpG (i n : Nat) (f g : Nat → Int32) : Nat → Int32 := fun j => if i ≤ j ∧ j < n then g j else f j
theorem cpG_up {i n : Nat} {f g : Nat → Int32} (hi : i < n) : cpG (i + 1) n (va_up f i (g i)) g = cpG i n f g := by
  funext j
  unfold cpG
  by_cases e : j = i
  · subst e
    rw [if_neg (by omega), va_up_self, if_pos ⟨Nat.le_refl _, hi⟩]
  · by_cases h1 : i ≤ j ∧ j < n
    · rw [if_pos h1, if_pos ⟨by omega, h1.2⟩]
    · rw [if_neg h1, if_neg (fun z => h1 ⟨by omega, z.2⟩), va_up_ne _ _ e]
theorem cpG_end {n : Nat} {f g : Nat → Int32} : cpG n n f g = f := by
  funext j
  unfold cpG
  exact if_neg (by omega)
end MP
