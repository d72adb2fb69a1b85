/-! Naming, over states as what they mean. -/
section NJ
variable {h : xH} {b d : Nat}
def rOk (L : List Int32) : Prop := ∀ x ∈ L, x = nI x.toNatClampNeg ∧ x.toNatClampNeg < 24
theorem seg_mem (f : Nat → Int32) : ∀ (k i j : Nat), i ≤ j → j < i + k → f j ∈ seg f i k := by
  intro k
  induction k with
  | zero => intro i j h1 h2; omega
  | succ k ih =>
    intro i j h1 h2
    rw [seg]
    by_cases h3 : j = i
    · rw [h3]; exact List.mem_cons_self
    · exact List.mem_cons_of_mem _ (ih (i + 1) j (by omega) (by omega))
theorem seg_of : ∀ (L : List Int32) (s : Nat) (g : Nat → Int32), (∀ i, i < L.length → g (s + i) = L.getD i 0) → seg g s L.length = L := by
  intro L
  induction L with
  | nil => intro s g _; rfl
  | cons x t ih =>
    intro s g e
    rw [List.length_cons, seg]
    have e0 := e 0 (by simp)
    rw [Nat.add_zero, List.getD_cons_zero] at e0
    rw [e0, ih (s + 1) g (fun i hi => by
      have := e (i + 1) (by simp only [List.length_cons]; omega)
      rw [List.getD_cons_succ] at this
      rw [← this, show s + 1 + i = s + (i + 1) by omega])]
theorem seg_ovl (L : List Int32) (f : Nat → Int32) : seg (ovl L f) 0 L.length = L := by
  apply seg_of
  intro i hi
  rw [Nat.zero_add]
  unfold ovl
  rw [if_pos hi]
theorem seg_push (g : Nat → Int32) (n : Nat) (v : Int32) : seg (va_up g n v) 0 (n + 1) = seg g 0 n ++ [v] := by
  rw [seg_app _ n 0 1, seg, seg, Nat.zero_add, va_up_self]
  exact congrArg (· ++ [v]) (seg_cg n 0 (fun x _ hx => va_up_ne _ _ (by omega)))
def isN (h : xH) (b : Nat) (Z : Int32 × Int32 × Int32 × Int32) : Prop := ∃ T K, isNg h b T K Z.1 Z.2.1 Z.2.2.1 Z.2.2.2
theorem isN_fr {h' : xH} {lo hi : Nat} {Z : Int32 × Int32 × Int32 × Int32} (q : isN h b Z) (w : xFr lo hi h h') (hc : b + 5 ≤ lo ∨ hi ≤ b) : isN h' b Z := by
  obtain ⟨T, K, q⟩ := q
  exact ⟨T, K, isNg_fr q w hc⟩
def occV (L : List Int32) : Int32 → Int32 → Int32 := fun u v => nI (occI u v L)
def fdR (L : List Int32) : Int32 × Int32 × Int32 := chF (occV L) L 0 (-1, -1, 0)
def fdG (L : List Int32) (N : xNs) (a : Int32) : Int32 := if (fdR L).2.2 < a then -1 else nmF N.1 N.2.1 (fdR L).1 (fdR L).2.1 16 (-1)
def fdF (L : List Int32) (N : xNs) (a : Int32) : Int32 × Int32 × Int32 × Int32 := if fdG L N a = -1 then (-1, -1, -1, -1) else ((fdR L).1, (fdR L).2.1, (fdR L).2.2, fdG L N a)
theorem chF_ind (L : List Int32) (hL : L.length ≤ 64) (x y : Int32) : (chF (occV L) L 0 (x, y, 0)).2.2 = (fdR L).2.2 ∧ (1 < L.length → chF (occV L) L 0 (x, y, 0) = fdR L) := by
  match L, hL with
  | [], _ => exact ⟨rfl, fun z => absurd z (by decide)⟩
  | [_], _ => exact ⟨rfl, fun z => absurd z (by simp)⟩
  | u :: v :: t, hL =>
    have e : (0 : Int32) < occV (u :: v :: t) u v := by
      have h1 := occI_le u v _ (u :: v :: t) (Nat.le_refl _)
      unfold occV
      rw [← nI_0]
      refine nI_lt ?_ (by omega)
      rw [occI, if_pos ⟨rfl, rfl⟩]
      omega
    have : chF (occV (u :: v :: t)) (u :: v :: t) 0 (x, y, 0) = fdR (u :: v :: t) := by
      unfold fdR
      rw [chF, if_pos (Or.inl e), chF, if_pos (Or.inl e)]
    exact ⟨by rw [this], fun _ => this⟩
theorem c_find {Z : Int32 × Int32 × Int32 × Int32} {L : List Int32} {N : xNs} {a r sp go : Int32} (q : isN h b Z) (qs : isS h d (L, N, a, r, sp, go)) (hL : rOk L) (ha : 0 < a) (hd : b + 5 ≤ d ∨ d + 16 ≤ b) :
    ∃ h', xev 29 [.ref b, .ref d] h = some (.inl none, h') ∧ isN h' b (fdF L N a) ∧ xFr b (b + 5) h h' := by
  obtain ⟨T, K, q⟩ := q
  obtain ⟨z, n, f, se, ti, g1, g2, g3, g4⟩ := qs
  simp only at g1 g2 g3 g4 z
  have hn := g4.2.1.2.2
  have hp : ∀ i, i < n → f i = nI (f i).toNatClampNeg ∧ (f i).toNatClampNeg < 24 := fun i hi => hL _ (by rw [← g1]; exact seg_mem f n 0 i (by omega) (by omega))
  obtain ⟨h1, T1, K1, a1, a2, a3, a4, a5⟩ := m_Naming_tally hp (by omega) g4.2.1 q
  have s1 := isSt_fr g4 a5 (by omega)
  have k1 := ng_o a3 0
  have w1 := xFr.wd (xFr_so h1 b 4 (.int 0)) (Nat.le_refl b) (show b + 1 ≤ b + 5 by omega)
  have s2 := isSt_fr s1 w1 (by omega)
  obtain ⟨h2, b1, b2, b3⟩ := lp_choose (V := occV L) hp (by omega) (fun i hi => by rw [← g1]; exact a4 i hi) (n - 1) 0 _ (Z.1, Z.2.1, 0) 0 none none (by omega) s2.2.1 k1 (Or.inl ⟨rfl, rfl⟩)
  have s3 := isSt_fr s2 b3 (by omega)
  have pc : xev 31 [.ref b, .ref (d + 1)] h1 = some (.inl none, h2) := by
    rw [e_X4_choose]
    simp only [u_X4_choose_0, u_X4_choose_1, u_X4_choose_2, u_X4_choose_5, u_X4_choose_6, u_X4_choose_7, u_X4_choose_8, a3.ob, xgo_some, xgo_none, xgoI_none, xcat_n, xcat_i, xcat_r, xcat_z, List.length_nil, List.length_cons, List.getD_cons_zero, List.getD_cons_succ, List.set_cons_zero, List.set_cons_succ, Nat.zero_le, Nat.reduceAdd, Nat.reduceLeDiff, Nat.reduceEqDiff, reduceIte]
    exact b1
  rw [Nat.sub_zero, g1] at b2
  have el : L.length = n := by rw [← g1, seg_len]
  obtain ⟨i1, i2⟩ := chF_ind L (by omega) Z.1 Z.2.1
  have ka := m_Cells_at s3.2.2.2.1 (by decide) 0
  rw [show clAt 2 se 0 = a from (clAt_nI (k := 0) (by decide) (by decide)).trans g2] at ka
  by_cases hq : (fdR L).2.2 < a
  · have eG : fdG L N a = -1 := if_pos hq
    have eF : fdF L N a = (-1, -1, -1, -1) := if_pos eG
    rw [eF]
    rw [← i1] at hq
    have k2 := ng_g b2 (-1)
    have k3 := ng_a k2 (-1)
    have k4 := ng_c k3 (-1)
    have k5 := ng_o k4 (-1)
    refine ⟨_, ?_, ⟨T1, K1, k5⟩, ((((a5.tr w1).tr b3).tr (xFr.wd (xFr_so h2 b 5 (.int (-1))) (Nat.le_refl b) (by omega))).tr (xFr.wd (xFr_so _ b 2 (.int (-1))) (Nat.le_refl b) (by omega))).tr ((xFr.wd (xFr_so _ b 3 (.int (-1))) (Nat.le_refl b) (by omega)).tr (xFr.wd (xFr_so _ b 4 (.int (-1))) (Nat.le_refl b) (by omega)))⟩
    rw [e_X4_find]
    simp only [u_X4_find_0, u_X4_find_1, u_X4_find_2, u_X4_find_5, u_X4_find_8, u_X4_find_9, u_X4_find_10, u_X4_find_13, u_X4_find_16, u_X4_find_17, u_X4_find_20, u_X4_find_21, u_X4_find_24, u_X4_find_25, u_X4_find_28, u_X4_find_31, u_X4_find_32, u_X4_find_33, u_X4_find_36, u_X4_find_37, u_X4_find_40, u_X4_find_41, u_X4_find_44, u_X4_find_47, u_X4_find_50, u_X4_find_53, u_X4_find_54, u_X4_find_55, u_X4_find_58, u_X4_find_59, u_X4_find_62, u_X4_find_63, u_X4_find_66, u_X4_find_67, u_X4_find_68, u_X4_find_71, u_X4_find_72, u_X4_find_73, u_X4_find_76, u_X4_find_77, u_X4_find_78, u_X4_find_81, q.ob, g4.ob, s1.ob, s3.ob, a3.ob, b2.ob, k2.ob, k3.ob, k4.ob, s3.2.2.2.1.ob, a1, pc, ka, hq, if_true, xgo_some, xgo_none, xgoI_none, xcat_n, xcat_i, xcat_r, xcat_z, List.length_nil, List.length_cons, List.getD_cons_zero, List.getD_cons_succ, List.set_cons_zero, List.set_cons_succ, Nat.zero_le, Nat.reduceAdd, Nat.reduceLeDiff, Nat.reduceEqDiff, reduceIte]
  · have hn1 : 1 < L.length := by
      by_cases h1 : 1 < L.length
      · exact h1
      · refine absurd ?_ hq
        have : (fdR L).2.2 = 0 := by
          match L, h1 with
          | [], _ => rfl
          | [_], _ => rfl
          | _ :: _ :: _, h1 => simp at h1
        rw [this]; exact ha
    have i3 := i2 hn1
    rw [i3] at b2
    have pn := m_Names_nameFor s3.2.2.1 (fdR L).1 (fdR L).2.1
    have eG : fdG L N a = nmF N.1 N.2.1 (fdR L).1 (fdR L).2.1 16 (-1) := if_neg hq
    rw [← eG] at pn
    have k2 := ng_g b2 (fdG L N a)
    by_cases h5 : fdG L N a = -1
    · have eF : fdF L N a = (-1, -1, -1, -1) := if_pos h5
      rw [eF]
      rw [h5] at pn k2
      have k3 := ng_a k2 (-1)
      have k4 := ng_c k3 (-1)
      have k5 := ng_o k4 (-1)
      refine ⟨_, ?_, ⟨T1, K1, k5⟩, ((((a5.tr w1).tr b3).tr (xFr.wd (xFr_so h2 b 5 (.int (-1))) (Nat.le_refl b) (by omega))).tr (xFr.wd (xFr_so _ b 2 (.int (-1))) (Nat.le_refl b) (by omega))).tr ((xFr.wd (xFr_so _ b 3 (.int (-1))) (Nat.le_refl b) (by omega)).tr (xFr.wd (xFr_so _ b 4 (.int (-1))) (Nat.le_refl b) (by omega)))⟩
      rw [e_X4_find]
      simp only [u_X4_find_0, u_X4_find_1, u_X4_find_2, u_X4_find_5, u_X4_find_8, u_X4_find_9, u_X4_find_10, u_X4_find_13, u_X4_find_16, u_X4_find_17, u_X4_find_20, u_X4_find_21, u_X4_find_24, u_X4_find_25, u_X4_find_28, u_X4_find_31, u_X4_find_32, u_X4_find_33, u_X4_find_36, u_X4_find_37, u_X4_find_40, u_X4_find_41, u_X4_find_44, u_X4_find_47, u_X4_find_50, u_X4_find_53, u_X4_find_54, u_X4_find_55, u_X4_find_58, u_X4_find_59, u_X4_find_62, u_X4_find_63, u_X4_find_66, u_X4_find_67, u_X4_find_68, u_X4_find_71, u_X4_find_72, u_X4_find_73, u_X4_find_76, u_X4_find_77, u_X4_find_78, u_X4_find_81, q.ob, g4.ob, s1.ob, s3.ob, a3.ob, b2.ob, k2.ob, k3.ob, k4.ob, s3.2.2.1.ob, s3.2.2.2.1.ob, a1, pc, ka, pn, hq, if_true, if_false, xgo_some, xgo_none, xgoI_none, xcat_n, xcat_i, xcat_r, xcat_z, List.length_nil, List.length_cons, List.getD_cons_zero, List.getD_cons_succ, List.set_cons_zero, List.set_cons_succ, Nat.zero_le, Nat.reduceAdd, Nat.reduceLeDiff, Nat.reduceEqDiff, reduceIte]
    · have eF : fdF L N a = ((fdR L).1, (fdR L).2.1, (fdR L).2.2, fdG L N a) := if_neg h5
      rw [eF]
      refine ⟨_, ?_, ⟨T1, K1, k2⟩, ((a5.tr w1).tr b3).tr (xFr.wd (xFr_so h2 b 5 _) (Nat.le_refl b) (by omega))⟩
      rw [e_X4_find]
      simp only [u_X4_find_0, u_X4_find_1, u_X4_find_2, u_X4_find_5, u_X4_find_8, u_X4_find_9, u_X4_find_10, u_X4_find_13, u_X4_find_16, u_X4_find_17, u_X4_find_20, u_X4_find_21, u_X4_find_24, u_X4_find_25, u_X4_find_28, u_X4_find_31, u_X4_find_32, u_X4_find_33, u_X4_find_36, u_X4_find_37, u_X4_find_40, u_X4_find_41, u_X4_find_44, u_X4_find_47, u_X4_find_50, u_X4_find_53, u_X4_find_54, u_X4_find_55, u_X4_find_58, u_X4_find_59, u_X4_find_62, u_X4_find_63, u_X4_find_66, u_X4_find_67, u_X4_find_68, u_X4_find_71, u_X4_find_72, u_X4_find_73, u_X4_find_76, u_X4_find_77, u_X4_find_78, u_X4_find_81, q.ob, g4.ob, s1.ob, s3.ob, a3.ob, b2.ob, k2.ob, s3.2.2.1.ob, s3.2.2.2.1.ob, a1, pc, ka, pn, hq, h5, if_true, if_false, xgo_some, xgo_none, xgoI_none, xcat_n, xcat_i, xcat_r, xcat_z, List.length_nil, List.length_cons, List.getD_cons_zero, List.getD_cons_succ, List.set_cons_zero, List.set_cons_succ, Nat.zero_le, Nat.reduceAdd, Nat.reduceLeDiff, Nat.reduceEqDiff, reduceIte]
end NJ
