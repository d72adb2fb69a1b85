/-! What stays true, call by call. -/
section OQ
variable {N M : xNs} {d l : Nat → Nat} {L : List Int32}
def okP (P : pP) : Prop := okS P.1 ∧ ∀ Y ∈ P.2.1, okS Y
theorem okP_sv {P : pP} (k : okP P) {X : xS} (q : okS X) (C : List Int32) : okP (X, (P.1 :: P.2.1).take 6, C) := by
  refine ⟨q, fun Y hY => ?_⟩
  rcases List.mem_cons.mp (List.mem_of_mem_take hY) with e | hY
  · rw [e]; exact k.1
  · exact k.2 Y hY
theorem rPr_app {s t : List Int32} (a : rPr s N) (b : rPr t N) : rPr (s ++ t) N := fun x hx => (List.mem_append.mp hx).elim (a x) (b x)
theorem swE_app (us : swE L N) (R : List Int32) : swE (L ++ R) N := by
  intro k k8 k24 hk
  have := us k k8 k24 hk
  rw [cntI_app]
  omega
theorem lt_p {c : Int32} (hc : ltC c = true) : ∃ p, p < 8 ∧ c - 97 = nI p := by
  unfold ltC at hc
  rw [Bool.and_eq_true, decide_eq_true_eq, decide_eq_true_eq] at hc
  have h0 : ¬ c < 0 := fun z => hc.1 (Int32.lt_trans z (by decide))
  obtain ⟨j, j1, j2⟩ := nI_of2 (M := 104) (n := 104) (by decide) h0 (le_of_nlt hc.2)
  have j3 : 97 ≤ j := by
    apply Nat.le_of_not_lt
    intro z
    refine hc.1 ?_
    rw [j2]
    exact nI_lt (b := 97) z (by omega)
  exact ⟨j - 97, by omega, by rw [j2]; exact nI_sub (a := j) (b := 97) (by omega)⟩
theorem wb_pr (n : Nat) (f : Nat → Int32) : ∀ (k i : Nat), rPr (wbF n f i k) N := by
  intro k
  induction k with
  | zero => intro i x hx; cases hx
  | succ k ih =>
    intro i
    rw [wbF]
    refine rPr_app ?_ (ih (i + 1))
    intro x hx
    obtain ⟨h1, h2⟩ := List.mem_replicate.mp hx
    cases hl : ltC (bfAt n f (nI i)) with
    | true =>
      obtain ⟨p, p8, ep⟩ := lt_p hl
      exact ⟨p, by omega, h2.trans ep, Or.inl p8⟩
    | false =>
      refine absurd ?_ h1
      unfold tmN tmA
      rw [if_neg (by rw [hl]; decide)]
      rfl
theorem ok_grow {P P' : pP} {v : Int32} (k : okP P) (e : sp_grow P = .inl (v, P')) : okP P' := by
  unfold sp_grow at e
  split at e
  · cases e
  · split at e
    · rename_i h2
      cases e
      obtain ⟨q1, w, pr, us, ho⟩ := k.1
      have q : okS (P.1.1 ++ wbC P.2.2, P.1.2) := by
        refine ⟨?_, w, rPr_app pr (wb_pr _ _ _ _), swE_app us _, ho⟩
        simp only [List.length_append]
        exact h2
      exact okP_sv k q _
    · cases e
theorem ok_add {P P' : pP} {p v : Int32} (k : okP P) (e : sp_add P p = .inl (v, P')) : okP P' := by
  unfold sp_add at e
  split at e
  · rename_i h1
    split at e
    · rename_i h2
      cases e
      obtain ⟨q1, w, pr, us, ho⟩ := k.1
      obtain ⟨j, j24, ej, hj⟩ := hasP_ex h1
      have q : okS (P.1.1 ++ [p], P.1.2) := by
        refine ⟨?_, w, rPr_app pr (fun x hx => ⟨j, j24, (List.mem_singleton.mp hx).trans ej, hj⟩), swE_app us _, ho⟩
        simp only [List.length_append]
        exact h2
      exact okP_sv k q _
    · cases e
  · cases e
theorem ok_sw {T : Int32 × Int32 × Int32 × Int32} (hl : L.length ≤ 64) (w : ∃ d l, wfN N d l) (pr : rPr L N) (q : swR L N M) (us : swE L M) (ho : ∃ o, 2 ≤ o ∧ o ≤ 9 ∧ T.1 = nI o) : okS (L, M, T) := by
  obtain ⟨d, l, w⟩ := w
  exact ⟨hl, ⟨d, l, sw_wf q us w⟩, sw_pr q pr, us, ho⟩
theorem ok_cut {P P' : pP} {p v : Int32} (k : okP P) (e : sp_cut P p = .inl (v, P')) : okP P' := by
  unfold sp_cut at e
  by_cases h1 : p < 0 ∨ nI P.1.1.length < p
  · rw [if_pos h1] at e
    cases e
  · rw [if_neg h1] at e
    have e := (Prod.mk.inj (Sum.inl.inj e)).2
    subst e
    obtain ⟨q1, ⟨d, l, w⟩, pr, us, ho⟩ := k.1
    obtain ⟨s1, s2⟩ := fg_sw (L := P.1.1.take p.toNatClampNeg) w.1 (wf_dpt w)
    have q : okS (P.1.1.take p.toNatClampNeg, fgOut (P.1.1.take p.toNatClampNeg) 16 P.1.2.1, P.1.2.2) := ok_sw (by rw [List.length_take]; omega) ⟨d, l, w⟩ (fun x hx => pr x (List.mem_of_mem_take hx)) s1 s2 ho
    exact okP_sv k q _
theorem ok_open {P P' : pP} {p v : Int32} (k : okP P) (e : sp_open P p = .inl (v, P')) : okP P' := by
  unfold sp_open at e
  split at e
  · cases e
  · rename_i h1
    split at e
    · cases e
    · rename_i h2
      cases e
      obtain ⟨q1, ⟨d, l, w⟩, pr, us, ho⟩ := k.1
      have v0 : ¬ p < 0 := fun z => h1 (Or.inl z)
      have v1 : p < nI P.1.1.length := Classical.byContradiction (fun z => h1 (Or.inr z))
      obtain ⟨j, j1, j2⟩ := nI_of v0
      have j3 : j < P.1.1.length := by rw [j2] at v1; exact (nI_ltI j1 (by omega)).mp v1
      have ej : p.toNatClampNeg = j := by rw [j2, nI_clamp j1]
      rw [ej] at h2 ⊢
      obtain ⟨n, n24, en, hn⟩ := rPr_at pr j3
      have c8 : ¬ nI n < 8 := fun z => h2 (Or.inl (by rw [en]; exact z))
      have n8 : 8 ≤ n := by
        apply Nat.le_of_not_lt
        intro z
        exact c8 (nI_lt (b := 8) z (by decide))
      have h64 : P.1.1.length + 1 ≤ 64 := Classical.byContradiction (fun z => h2 (Or.inr z))
      have hn1 : P.1.2.1.1 n ≠ -1 := hn.elim (fun z => absurd z (by omega)) id
      obtain ⟨s1, s2⟩ := op_sw us j3 en n8 n24
      obtain ⟨p1, p2, a, b, a24, b24, ea, eb, ha, hb, ed, el⟩ := w.2.2 n n8 n24 hn1
      have q : okS (opL P.1.1 P.1.2.1 j, opN P.1.1 P.1.2.1 j, P.1.2.2) := ok_sw (by rw [opL_len j3]; exact h64) ⟨d, l, w⟩ ?_ s1 s2 ho
      · exact okP_sv k q _
      rw [opL_is en n24, ea, eb]
      refine rPr_app (fun x hx => pr x (List.mem_of_mem_take hx)) (fun x hx => ?_)
      rcases List.mem_cons.mp hx with z | hx
      · exact ⟨a, a24, z, ha⟩
      · rcases List.mem_cons.mp hx with z | hx
        · exact ⟨b, b24, z, hb⟩
        · exact pr x (List.mem_of_mem_drop hx)
theorem ok_name {P P' : pP} {v : Int32} (k : okP P) (e : sp_name P = .inl (v, P')) : okP P' := by
  unfold sp_name at e
  split at e
  · cases e
    exact okP_sv k k.1 _
  · rename_i h1
    cases e
    exact okP_sv k (ok_ap k.1 h1) _
theorem ok_nameAll {P P' : pP} {v : Int32} (k : okP P) (e : sp_nameAll P = .inl (v, P')) : okP P' := by
  unfold sp_nameAll at e
  cases e
  exact okP_sv k (ok_all _ _ _ k.1) _
theorem ok_letGo {P P' : pP} {v : Int32} (k : okP P) (e : sp_letGo P = .inl (v, P')) : okP P' := by
  unfold sp_letGo at e
  cases e
  exact okP_sv k (ok_lg _ _ k.1) _
theorem exP_pr (w : wfN N d l) : ∀ (n p : Nat), p < 24 → hsN N p → d p ≤ n → rPr (exP N 16 p) N := by
  intro n
  induction n with
  | zero =>
    intro p h24 hs hd
    by_cases h8 : p < 8
    · rw [exP_8 h8]
      exact fun x hx => ⟨p, h24, List.mem_singleton.mp hx, Or.inl h8⟩
    · obtain ⟨p1, p2, a, b, a24, b24, ea, eb, ha, hb, e, hl⟩ := wf_pr w h24 hs (by omega)
      omega
  | succ n ih =>
    intro p h24 hs hd
    by_cases h8 : p < 8
    · rw [exP_8 h8]
      exact fun x hx => ⟨p, h24, List.mem_singleton.mp hx, Or.inl h8⟩
    · obtain ⟨p1, p2, a, b, a24, b24, ea, eb, ha, hb, e, hl⟩ := wf_pr w h24 hs (by omega)
      rw [exP_st w h24 (by omega) a24 b24 ea eb ha hb e (wf_d16 w h24 hs)]
      exact rPr_app (ih a a24 ha (by omega)) (ih b b24 hb (by omega))
theorem exL_pr (w : wfN N d l) : ∀ L : List Int32, rPr L N → rPr (exL N L) N := by
  intro L
  induction L with
  | nil => intro _ x hx; cases hx
  | cons x t ih =>
    intro pr
    obtain ⟨p, p24, ep, hp⟩ := pr x List.mem_cons_self
    rw [exL, ep, nI_clamp (by omega)]
    exact rPr_app (exP_pr w (d p) p p24 hp (Nat.le_refl _)) (ih (fun y hy => pr y (List.mem_cons_of_mem _ hy)))
theorem ok_openAll {P P' : pP} {v : Int32} (k : okP P) (e : sp_openAll P = .inl (v, P')) : okP P' := by
  obtain ⟨q1, ⟨d, l, w⟩, pr, us, ho⟩ := k.1
  obtain ⟨b1, b2⟩ := lnL_bd w P.1.1 pr
  have et := txF_ln w P.1.1 pr
  unfold sp_openAll at e
  rw [et, nI_clamp (by omega)] at e
  split at e
  · cases e
  · rename_i h1
    have h64 : lnL l P.1.1 ≤ 64 := by
      apply Nat.le_of_not_lt
      intro z
      exact h1 (nI_lt (a := 64) z (by omega))
    have eo : oaF P.1 0 (lnL l P.1.1) = exL P.1.2.1 P.1.1 := by
      have := oaF_ex (L := P.1.1) (N := P.1.2.1) (T := P.1.2.2) w pr (by omega) _ 0 (Nat.zero_add _)
      rw [List.drop_zero] at this
      exact this
    rw [eo] at e
    cases e
    obtain ⟨s1, s2⟩ := fg_sw (L := exL P.1.2.1 P.1.1) w.1 (wf_dpt w)
    have q : okS (exL P.1.2.1 P.1.1, fgOut (exL P.1.2.1 P.1.1) 16 P.1.2.1, P.1.2.2) := ok_sw (by rw [exL_len w _ pr]; exact h64) ⟨d, l, w⟩ (exL_pr w _ pr) s1 s2 ho
    exact okP_sv k q _
theorem ok_set {P P' : pP} {s u v : Int32} (k : okP P) (e : sp_set P s u = .inl (v, P')) : okP P' := by
  unfold sp_set at e
  by_cases hs : ¬ s < 0 ∧ s < 2
  · rw [if_pos hs] at e
    by_cases h2 : u < (if s = 0 then 2 else 1) ∨ 9 < u
    · rw [if_pos h2] at e
      cases e
    · rw [if_neg h2] at e
      have e := (Prod.mk.inj (Sum.inl.inj e)).2
      subst e
      obtain ⟨q1, w, pr, us, ho⟩ := k.1
      suffices q : okS (seU P.1 s u) from okP_sv k q _
      unfold seU
      by_cases s0 : s = 0
      · rw [if_pos s0] at h2 ⊢
        obtain ⟨j, j1, j2⟩ := nI_of (show ¬ u < 0 from fun z => h2 (Or.inl (Int32.lt_trans z (by decide))))
        refine ⟨q1, w, pr, us, j, ?_, ?_, j2⟩
        · apply Nat.le_of_not_lt
          intro z
          exact h2 (Or.inl (by rw [j2]; exact nI_lt (b := 2) z (by decide)))
        · apply Nat.le_of_not_lt
          intro z
          exact h2 (Or.inr (by rw [j2]; exact nI_lt (a := 9) z j1))
      · rw [if_neg s0]
        exact ⟨q1, w, pr, us, ho⟩
  · rw [if_neg hs] at e
    cases e
theorem ok_undo {P P' : pP} {v : Int32} (k : okP P) (e : sp_undo P = .inl (v, P')) : okP P' := by
  obtain ⟨X, Hs, C⟩ := P
  match Hs, k, e with
  | [], _, e => cases e
  | Y :: Hs, k, e =>
    cases e
    exact ⟨k.2 Y List.mem_cons_self, fun Z hZ => k.2 Z (List.mem_cons_of_mem _ hZ)⟩
theorem ok_append {P P' : pP} {c v : Int32} (k : okP P) (e : sp_append P c = .inl (v, P')) : okP P' := by
  unfold sp_append at e
  split at e
  · cases e
  · split at e
    · cases e; exact k
    · cases e
end OQ
/-! The size is below twice the text's length. -/
section SZ
theorem namN_0 {f : Nat → Int32} : ∀ (k i : Nat), (∀ j, i ≤ j → j < i + k → f j = -1) → namN f i k = 0 := by
  intro k
  induction k with
  | zero => intro i _; rfl
  | succ k ih =>
    intro i hh
    rw [namN, if_pos (hh i (Nat.le_refl _) (by omega)), ih (i + 1) (fun j h1 h2 => hh j (by omega) (by omega))]
theorem max_d {N : xNs} (d : Nat → Nat) : ∀ K : Nat, (∀ k, 8 ≤ k → k < K → N.1 k = -1) ∨ ∃ v, 8 ≤ v ∧ v < K ∧ N.1 v ≠ -1 ∧ ∀ k, 8 ≤ k → k < K → N.1 k ≠ -1 → d k ≤ d v := by
  intro K
  induction K with
  | zero => exact Or.inl (fun k _ h2 => by omega)
  | succ K ih =>
    by_cases hK : 8 ≤ K ∧ N.1 K ≠ -1
    · rcases ih with ih | ⟨v, v1, v2, v3, v4⟩
      · refine Or.inr ⟨K, hK.1, by omega, hK.2, fun k k1 k2 k3 => ?_⟩
        by_cases e : k = K
        · rw [e]; exact Nat.le_refl _
        · exact absurd (ih k k1 (by omega)) k3
      · by_cases h1 : d v ≤ d K
        · refine Or.inr ⟨K, hK.1, by omega, hK.2, fun k k1 k2 k3 => ?_⟩
          by_cases e : k = K
          · rw [e]; exact Nat.le_refl _
          · have := v4 k k1 (by omega) k3; omega
        · refine Or.inr ⟨v, v1, by omega, v3, fun k k1 k2 k3 => ?_⟩
          by_cases e : k = K
          · rw [e]; omega
          · exact v4 k k1 (by omega) k3
    · have hK' : 8 ≤ K → N.1 K = -1 := fun z => Classical.byContradiction (fun y => hK ⟨z, y⟩)
      rcases ih with ih | ⟨v, v1, v2, v3, v4⟩
      · refine Or.inl (fun k k1 k2 => ?_)
        by_cases e : k = K
        · subst e; exact hK' k1
        · exact ih k k1 (by omega)
      · refine Or.inr ⟨v, v1, by omega, v3, fun k k1 k2 k3 => ?_⟩
        by_cases e : k = K
        · subst e; exact absurd (hK' k1) k3
        · exact v4 k k1 (by omega) k3
theorem lnL_rl {l : Nat → Nat} {v a b : Nat} (hv : v < 24) (ha : a < 24) (hb : b < 24) (e : l v = l a + l b) : ∀ L : List Int32, lnL l (rlI (nI v) (nI a) (nI b) L) = lnL l L := by
  intro L
  induction L with
  | nil => rfl
  | cons x t ih =>
    rw [rlI]
    by_cases h1 : x = nI v
    · rw [if_pos h1, lnL, lnL, lnL, ih, h1, nI_clamp (by omega), nI_clamp (by omega), nI_clamp (by omega), e]; omega
    · rw [if_neg h1, lnL, lnL, ih]
theorem sz_le : ∀ (n : Nat) (L : List Int32) (N : xNs) (d l : Nat → Nat), nmC N ≤ n → wfN N d l → rPr L N → swE L N → L.length + nmC N ≤ lnL l L := by
  intro n
  induction n with
  | zero =>
    intro L N d l hn w pr us
    have := (lnL_bd w L pr).1
    omega
  | succ n ih =>
    intro L N d l hn w pr us
    rcases max_d (N := N) d 24 with z | ⟨v, v8, v24, hv, hm⟩
    · have e0 : nmC N = 0 := namN_0 16 8 (fun j h1 h2 => z j h1 (by omega))
      have := (lnL_bd w L pr).1
      omega
    · have hu : usN N.1 N.2.1 (nI v) 8 16 = 0 := by
        apply Classical.byContradiction
        intro y
        obtain ⟨j, j1, j2, j3⟩ := usN_ex 16 8 y
        have hj : N.1 j ≠ -1 := by
          intro z
          have z2 := (w.1 j j1 (by omega) z).1
          rcases j3 with j3 | j3
          · rw [z] at j3; exact nI_nm1 (by omega) j3.symm
          · rw [z2] at j3; exact nI_nm1 (by omega) j3.symm
        have h1 := (wf_dpt w j j1 (by omega) hj).2.2.2 v v8 v24 j3
        have h2 := hm j j1 (by omega) hj
        omega
      obtain ⟨s1, s2, s3⟩ := rl_sw w us v8 v24 hv hu
      have pr' := sw_pr s2 (rl_pr w pr v8 v24 hv)
      have hc := namN_out N.1 v hv 16 8 v8 (by omega)
      have hc : nmC (nsOut N v) + 1 = nmC N := hc
      have := ih _ _ d l (by omega) (sw_wf s2 s3 w) pr' s3
      obtain ⟨p1, p2, a, b, a24, b24, ea, eb, ha, hb, ed, el⟩ := w.2.2 v v8 v24 hv
      rw [rlI_len, ea, eb, lnL_rl v24 a24 b24 el] at this
      omega
end SZ
