/-! The model as what it means. -/
section MX
variable {h : xH} {m : Nat}
def isMP (h : xH) (m : Nat) (t : Int32) (P : pP) : Prop := ∃ Z D A, isMo h m Z D A ∧ Z 0 = t ∧ rS (A 1) P.1 ∧ Z 4 = nI P.2.1.length ∧ P.2.1.length ≤ 6 ∧ svR (A 3) P.2.1.reverse ∧ Z 6 = nI P.2.2.length ∧ P.2.2.length ≤ 60 ∧ ∀ i, i < P.2.2.length → A 4 i = gd P.2.2 i
theorem puR_rev (Hs : List xS) (X : xS) (h6 : Hs.length ≤ 6) : puR Hs.reverse X = ((X :: Hs).take 6).reverse := by
  unfold puR
  rw [List.length_reverse]
  by_cases h5 : Hs.length = 6
  · rw [if_pos h5]
    match Hs, h5 with
    | [a, b, c, d, e, f], _ => rfl
  · rw [if_neg h5, List.take_of_length_le (by simp only [List.length_cons]; omega), List.reverse_cons]
theorem MP_save {Z : Nat → Int32} {D : Int64} {A : Nat → Nat → Int32} {X : xS} {Hs : List xS} (q : isMo h m Z D A) (r : rS (A 1) X) (hZ : Z 4 = nI Hs.length) (h6 : Hs.length ≤ 6) (w : svR (A 3) Hs.reverse) : ∃ h' f, xev 101 [.ref m] h = some (.inl none, h') ∧ isMo h' m (va_up Z 4 (nI ((X :: Hs).take 6).length)) D (va_up A 3 f) ∧ svR f ((X :: Hs).take 6).reverse ∧ xFr m (m + 10) h h' := by
  obtain ⟨h', f, a1, a2, a3, a4⟩ := m_save q r w (by rw [List.length_reverse]; exact hZ) (by rw [List.length_reverse]; exact h6)
  rw [puR_rev Hs X h6] at a2 a3
  rw [List.length_reverse] at a2
  exact ⟨h', f, a1, a2, a3, a4⟩
theorem take6_le {α : Type} (l : List α) : (l.take 6).length ≤ 6 := by rw [List.length_take]; omega
/-- what a call of the model answers -/
def outM (m : Nat) (P0 : pP) (cd : Nat → Int32) (h : xH) (r : Option (xR × xH)) (s : (Int32 × pP) ⊕ Nat) : Prop := match s with
  | .inl (v, P) => ∃ h', r = some (.inl (some (.int v)), h') ∧ isMP h' m 0 P ∧ xFr m (m + 10) h h'
  | .inr e => ∃ h' v, r = some (.inl (some (.int v)), h') ∧ isMP h' m (cd e) P0 ∧ xFr m (m + 10) h h'
theorem x116 : xix 116 117 := ⟨by decide, by decide⟩
theorem c116 : (116 : Int32).toNatClampNeg = 116 := by decide
theorem rS_go {s : Nat → Int32} {L : List Int32} {N : xNs} {a rr sp go : Int32} (r : rS s (L, N, a, rr, sp, go)) (v : Int32) : rS (va_up s 116 v) (L, N, a, rr, sp, v) := by
  obtain ⟨r1, r2, r3, r4, r5, r6, r7, r8⟩ := r
  simp only at r1 r2 r3 r4 r5 r6 r7 r8
  refine ⟨by rw [va_up_ne _ _ (by omega)]; exact r1, r2, fun i hi => by rw [va_up_ne _ _ (show 1 + i ≠ 116 by simp only at hi; omega)]; exact r3 i hi, fun k k8 k24 => ?_, by rw [va_up_ne _ _ (by omega)]; exact r5, by rw [va_up_ne _ _ (by omega)]; exact r6, by rw [va_up_ne _ _ (by omega)]; exact r7, va_up_self _ _ _⟩
  simp only
  rw [va_up_ne _ _ (show 57 + k ≠ 116 by omega), va_up_ne _ _ (show 73 + k ≠ 116 by omega), va_up_ne _ _ (show 89 + k ≠ 116 by omega)]
  exact r4 k k8 k24
end MX
