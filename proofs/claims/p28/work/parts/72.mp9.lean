/-! The model: open, openAll. -/
section NF
variable {h : xH} {m : Nat} {d l : Nat → Nat}
theorem cntI_mid (P R : List Int32) (x p : Int32) : cntI (P ++ x :: R) p = cntI P p + ((if x = p then 1 else 0) + cntI R p) := by
  rw [cntI_app, cntI]
theorem row_mid {L : List Int32} {k : Nat} (hk : k < L.length) : L = L.take k ++ gd L k :: L.drop (k + 1) := by
  rw [← gd_drop hk, List.take_append_drop]
theorem opL_is {L : List Int32} {N : xNs} {k v : Nat} (hv : gd L k = nI v) (h24 : v < 24) : opL L N k = L.take k ++ N.1 v :: N.2.1 v :: L.drop (k + 1) := by
  unfold opL
  rw [hv, clAt_nI h24 (by decide), clAt_nI h24 (by decide)]
theorem op_ge {L : List Int32} {N : xNs} {k v j : Nat} (hk : k < L.length) (hv : gd L k = nI v) (h24 : v < 24) (hj : j < 24) (hne : j ≠ v) : cntI L (nI j) ≤ cntI (opL L N k) (nI j) := by
  have e1 := congrArg (fun z => cntI z (nI j)) (row_mid hk)
  rw [cntI_mid, hv, if_neg (fun z => hne ((nI_eq (by omega) (by omega)).mp z).symm)] at e1
  rw [opL_is hv h24, cntI_mid, cntI, e1]
  omega
theorem op_sw {L : List Int32} {N : xNs} {k v : Nat} (us : swE L N) (hk : k < L.length) (hv : gd L k = nI v) (h8 : 8 ≤ v) (h24 : v < 24) : swR (opL L N k) N (opN L N k) ∧ swE (opL L N k) (opN L N k) := by
  unfold opN
  rw [hv, nI_clamp (by omega)]
  by_cases hc : cntI (opL L N k) (nI v) + usN N.1 N.2.1 (nI v) 8 16 = 0
  · rw [if_pos hc]
    refine ⟨swR_out (swR_rf _ _) h8 h24 hc, fun j j8 j24 hj => ?_⟩
    have hne : j ≠ v := by
      intro z
      subst z
      exact hj (va_up_self _ _ _)
    simp only [nsOut, va_up_ne _ _ hne] at hj ⊢
    by_cases h1 : N.1 v = nI j
    · rw [opL_is hv h24, cntI_mid, if_pos h1]; omega
    · by_cases h2 : N.2.1 v = nI j
      · rw [opL_is hv h24, cntI_mid, cntI, if_pos h2]; omega
      · rw [usN_outE h1 h2 (nI_nm1 (by omega))]
        have a1 := us j j8 j24 hj
        have a2 := op_ge (N := N) hk hv h24 j24 hne
        omega
  · rw [if_neg hc]
    refine ⟨swR_rf _ _, fun j j8 j24 hj => ?_⟩
    by_cases hne : j = v
    · rw [hne]; exact hc
    · have a1 := us j j8 j24 hj
      have a2 := op_ge (N := N) hk hv h24 j24 hne
      omega
end NF
