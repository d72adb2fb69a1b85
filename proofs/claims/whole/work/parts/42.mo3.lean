/-! The model: saving, restoring. -/
section MQ
variable {h : xH} {m : Nat} {Z : Nat → Int32} {D : Int64} {A : Nat → Nat → Int32} {X : xS}
theorem va_up_eta {α : Type} (f : Nat → α) (k : Nat) : va_up f k (f k) = f := by
  funext j
  by_cases e : j = k
  · rw [e, va_up_self]
  · rw [va_up_ne _ _ e]
def shG (i : Nat) (f : Nat → Int32) : Nat → Int32 := fun j => if i ≤ j ∧ j < 585 then f (117 + j) else f j
theorem shG_up {i : Nat} {f : Nat → Int32} (hi : i < 585) : shG (i + 1) (va_up f i (f (117 + i))) = shG i f := by
  funext j
  unfold shG
  by_cases e : j = i
  · subst e
    rw [if_neg (by omega), va_up_self, if_pos ⟨Nat.le_refl _, hi⟩]
  · by_cases h1 : i ≤ j ∧ j < 585
    · rw [if_pos h1, if_pos ⟨by omega, h1.2⟩, va_up_ne _ _ (by omega)]
    · rw [if_neg h1, if_neg (fun z => h1 ⟨by omega, z.2⟩), va_up_ne _ _ e]
theorem lp_save1 : ∀ (k i : Nat) (h : xH) (A : Nat → Nat → Int32), i + k = 585 → isMo h m Z D A →
    ∃ h', xf 101 11 [some (.ref m), some (.int (nI i))] [] h = xf 101 39 [some (.ref m), some (.int (nI 585))] [] h' ∧ isMo h' m Z D (va_up A 3 (shG i (A 3))) ∧ xFr m (m + 10) h h' := by
  intro k
  induction k with
  | zero =>
    intro i h A hk q
    have h2 : ¬ nI i < 585 := nI_nlt (b := 585) (by omega) (by omega)
    have hi : i = 585 := by omega
    subst hi
    refine ⟨h, ?_, ?_, xFr.rf⟩
    · rw [u_X8_save_11]
      simp only [u_X8_save_12, u_X8_save_15, h2, if_false, xgo_some, xgo_none, xgoI_none, xcat_n, xcat_i, xcat_r, xcat_z, List.length_nil, List.length_cons, List.getD_cons_zero, List.getD_cons_succ, List.set_cons_zero, List.set_cons_succ, Nat.zero_le, Nat.reduceAdd, Nat.reduceLeDiff, Nat.reduceEqDiff, reduceIte]
    · have : shG 585 (A 3) = A 3 := by
        funext j
        unfold shG
        exact if_neg (by omega)
      rw [this, va_up_eta]; exact q
  | succ k ih =>
    intro i h A hk q
    have h2 : nI i < 585 := nI_lt (b := 585) (by omega) (by omega)
    have hx : xix (nI i) 702 := xix_nI (by omega) (by decide)
    have hx2 : xix (nI (117 + i)) 702 := xix_nI (by omega) (by decide)
    have ei : (117 : Int32) + nI i = nI (117 + i) := nI_add 117 i
    have q1 := mo_w q (k := 3) (by decide) (by decide) i (A 3 (117 + i))
    obtain ⟨h', a1, a2, a3⟩ := ih (i + 1) _ _ (by omega) q1
    refine ⟨h', ?_, ?_, (xFr_si h m 3 i _ (by decide)).tr a3⟩
    · rw [u_X8_save_11]
      simp only [u_X8_save_0, u_X8_save_1, u_X8_save_4, u_X8_save_6, u_X8_save_9, u_X8_save_10, u_X8_save_12, u_X8_save_15, u_X8_save_18, u_X8_save_19, u_X8_save_22, u_X8_save_23, u_X8_save_24, u_X8_save_27, u_X8_save_29, u_X8_save_30, u_X8_save_31, u_X8_save_32, u_X8_save_33, u_X8_save_36, u_X8_save_40, u_X8_save_41, u_X8_save_44, u_X8_save_45, u_X8_save_46, u_X8_save_49, u_X8_save_50, u_X8_save_51, u_X8_save_52, u_X8_save_54, u_X8_save_57, u_X8_save_58, u_X8_save_61, u_X8_save_63, u_X8_save_64, u_X8_save_67, u_X8_save_68, u_X8_save_69, u_X8_save_70, u_X8_save_71, u_X8_save_74, u_X8_save_75, u_X8_save_76, u_X8_save_77, u_X8_save_80, u_X8_save_83, u_X8_save_84, u_X8_save_85, u_X8_save_88, u_X8_save_89, u_X8_save_90, u_X8_save_93, h2, q.ob, q.a3, hx, hx2, ei, nI_clamp (show i < 2 ^ 31 by omega), nI_clamp (show 117 + i < 2 ^ 31 by omega), nI_of1, if_true, xgo_some, xgo_none, xgoI_none, xcat_n, xcat_i, xcat_r, xcat_z, List.length_nil, List.length_cons, List.getD_cons_zero, List.getD_cons_succ, List.set_cons_zero, List.set_cons_succ, Nat.zero_le, Nat.reduceAdd, Nat.reduceLeDiff, Nat.reduceEqDiff, reduceIte]
      exact a1
    · rw [va_up_self, shG_up (by omega), va_up_up] at a2
      exact a2
def cpB (c i : Nat) (f g : Nat → Int32) : Nat → Int32 := fun j => if 117 * c + i ≤ j ∧ j < 117 * c + 117 then g (j - 117 * c) else f j
theorem cpB_up {c i : Nat} {f g : Nat → Int32} (hi : i < 117) : cpB c (i + 1) (va_up f (117 * c + i) (g i)) g = cpB c i f g := by
  funext j
  unfold cpB
  by_cases e : j = 117 * c + i
  · subst e
    rw [if_neg (by omega), va_up_self, if_pos ⟨Nat.le_refl _, by omega⟩, Nat.add_sub_cancel_left]
  · by_cases h1 : 117 * c + i ≤ j ∧ j < 117 * c + 117
    · rw [if_pos h1, if_pos ⟨by omega, h1.2⟩]
    · rw [if_neg h1, if_neg (fun z => h1 ⟨by omega, z.2⟩), va_up_ne _ _ e]
theorem lp_save2 {c : Nat} (hc : c < 6) (hZ : Z 4 = nI c) : ∀ (k i : Nat) (h : xH) (A : Nat → Nat → Int32), i + k = 117 → isMo h m Z D A →
    ∃ h', xf 101 51 [some (.ref m), some (.int (nI i))] [] h = xf 101 83 [some (.ref m), some (.int (nI 117))] [] h' ∧ isMo h' m Z D (va_up A 3 (cpB c i (A 3) (A 1))) ∧ xFr m (m + 10) h h' := by
  intro k
  induction k with
  | zero =>
    intro i h A hk q
    have h2 : ¬ nI i < 117 := nI_nlt (b := 117) (by omega) (by omega)
    have hi : i = 117 := by omega
    subst hi
    refine ⟨h, ?_, ?_, xFr.rf⟩
    · rw [u_X8_save_51]
      simp only [u_X8_save_52, u_X8_save_54, h2, if_false, xgo_some, xgo_none, xgoI_none, xcat_n, xcat_i, xcat_r, xcat_z, List.length_nil, List.length_cons, List.getD_cons_zero, List.getD_cons_succ, List.set_cons_zero, List.set_cons_succ, Nat.zero_le, Nat.reduceAdd, Nat.reduceLeDiff, Nat.reduceEqDiff, reduceIte]
    · have : cpB c 117 (A 3) (A 1) = A 3 := by
        funext j
        unfold cpB
        exact if_neg (by omega)
      rw [this, va_up_eta]; exact q
  | succ k ih =>
    intro i h A hk q
    have h2 : nI i < 117 := nI_lt (b := 117) (by omega) (by omega)
    have hx : xix (nI i) 117 := xix_nI (by omega) (by decide)
    have hx2 : xix (nI (117 * c + i)) 702 := xix_nI (by omega) (by decide)
    have ei : (117 : Int32) * Z 4 + nI i = nI (117 * c + i) := by
      rw [hZ, ← nI_add]
      exact congrArg (· + nI i) (Int32.ofNat_mul 117 c).symm
    have q1 := mo_w q (k := 3) (by decide) (by decide) (117 * c + i) (A 1 i)
    obtain ⟨h', a1, a2, a3⟩ := ih (i + 1) _ _ (by omega) q1
    refine ⟨h', ?_, ?_, (xFr_si h m 3 _ _ (by decide)).tr a3⟩
    · rw [u_X8_save_51]
      simp only [u_X8_save_0, u_X8_save_1, u_X8_save_4, u_X8_save_6, u_X8_save_9, u_X8_save_10, u_X8_save_11, u_X8_save_12, u_X8_save_15, u_X8_save_18, u_X8_save_19, u_X8_save_22, u_X8_save_23, u_X8_save_24, u_X8_save_27, u_X8_save_29, u_X8_save_30, u_X8_save_31, u_X8_save_32, u_X8_save_33, u_X8_save_36, u_X8_save_39, u_X8_save_40, u_X8_save_41, u_X8_save_44, u_X8_save_45, u_X8_save_46, u_X8_save_49, u_X8_save_50, u_X8_save_52, u_X8_save_54, u_X8_save_57, u_X8_save_58, u_X8_save_61, u_X8_save_63, u_X8_save_64, u_X8_save_67, u_X8_save_68, u_X8_save_69, u_X8_save_70, u_X8_save_71, u_X8_save_74, u_X8_save_75, u_X8_save_76, u_X8_save_77, u_X8_save_80, u_X8_save_84, u_X8_save_85, u_X8_save_88, u_X8_save_89, u_X8_save_90, u_X8_save_93, h2, q.ob, q.a1, q.a3, hx, hx2, ei, nI_clamp (show i < 2 ^ 31 by omega), nI_clamp (show 117 * c + i < 2 ^ 31 by omega), nI_of1, if_true, xgo_some, xgo_none, xgoI_none, xcat_n, xcat_i, xcat_r, xcat_z, List.length_nil, List.length_cons, List.getD_cons_zero, List.getD_cons_succ, List.set_cons_zero, List.set_cons_succ, Nat.zero_le, Nat.reduceAdd, Nat.reduceLeDiff, Nat.reduceEqDiff, reduceIte]
      exact a1
    · rw [va_up_self, va_up_ne _ _ (show 1 ≠ 3 by decide), cpB_up (by omega), va_up_up] at a2
      exact a2
/-- what is saved, the oldest first -/
def svR (v : Nat → Int32) (R : List xS) : Prop := ∀ k, (hk : k < R.length) → rS (fun i => v (117 * k + i)) R[k]
theorem rS_cg {s t : Nat → Int32} (e : ∀ i, i < 117 → s i = t i) (r : rS s X) : rS t X := by
  obtain ⟨r1, r2, r3, r4, r5, r6, r7, r8⟩ := r
  refine ⟨by rw [← e 0 (by omega)]; exact r1, r2, fun i hi => by rw [← e (1 + i) (by omega)]; exact r3 i hi, fun k h1 h2 => ?_, by rw [← e 113 (by omega)]; exact r5, by rw [← e 114 (by omega)]; exact r6, by rw [← e 115 (by omega)]; exact r7, by rw [← e 116 (by omega)]; exact r8⟩
  rw [← e (57 + k) (by omega), ← e (73 + k) (by omega), ← e (89 + k) (by omega)]
  exact r4 k h1 h2
theorem svR_push {v : Nat → Int32} {s : Nat → Int32} {R : List xS} (w : svR v R) (r : rS s X) : svR (cpB R.length 0 v s) (R ++ [X]) := by
  intro k hk
  rw [List.length_append, List.length_singleton] at hk
  by_cases h1 : k < R.length
  · rw [List.getElem_append_left h1]
    refine rS_cg (fun i hi => ?_) (w k h1)
    unfold cpB
    exact (if_neg (by omega)).symm
  · have e : k = R.length := by omega
    subst e
    rw [List.getElem_append_right (Nat.le_refl _)]
    simp only [Nat.sub_self, List.getElem_cons_zero]
    refine rS_cg (fun i hi => ?_) r
    unfold cpB
    rw [if_pos ⟨by omega, by omega⟩, Nat.add_sub_cancel_left]
theorem svR_sh {v : Nat → Int32} {R : List xS} (w : svR v R) (h6 : R.length = 6) : svR (shG 0 v) (R.drop 1) := by
  intro k hk
  rw [List.length_drop] at hk
  rw [List.getElem_drop]
  refine rS_cg (fun i hi => ?_) (w (1 + k) (by omega))
  unfold shG
  rw [if_pos ⟨by omega, by omega⟩, show 117 * (1 + k) + i = 117 + (117 * k + i) by omega]
/-- saved: the oldest goes where there are six -/
def puR (R : List xS) (X : xS) : List xS := (if R.length = 6 then R.drop 1 else R) ++ [X]
theorem m_save {R : List xS} (q : isMo h m Z D A) (r : rS (A 1) X) (w : svR (A 3) R) (hZ : Z 4 = nI R.length) (h6 : R.length ≤ 6) : ∃ h' f, xev 101 [.ref m] h = some (.inl none, h') ∧ isMo h' m (va_up Z 4 (nI (puR R X).length)) D (va_up A 3 f) ∧ svR f (puR R X) ∧ xFr m (m + 10) h h' := by
  rw [e_X8_save]
  by_cases h5 : R.length = 6
  · obtain ⟨h1, a1, a2, a3⟩ := lp_save1 585 0 h A (by omega) q
    have q1 := mo_z4 a2 (nI 5)
    have w1 := svR_sh w h5
    have hl : (R.drop 1).length = 5 := by rw [List.length_drop]; omega
    obtain ⟨h2, b1, b2, b3⟩ := lp_save2 (c := 5) (by omega) (va_up_self Z 4 (nI 5)) 117 0 _ _ (by omega) q1
    have q2 := mo_z4 b2 (nI 6)
    rw [va_up_up, va_up_up, va_up_self, va_up_ne _ _ (show 1 ≠ 3 by decide)] at q2
    have w2 := svR_push w1 r
    rw [hl] at w2
    have ep : puR R X = R.drop 1 ++ [X] := by unfold puR; rw [if_pos h5]
    have el : (R.drop 1 ++ [X]).length = 6 := by rw [List.length_append, hl]; rfl
    rw [ep, el]
    refine ⟨_, _, ?_, q2, w2, ((a3.tr (xFr_mo _ _ _ _)).tr b3).tr (xFr_mo _ _ _ _)⟩
    · rw [h5] at hZ
      simp only [u_X8_save_0, u_X8_save_1, u_X8_save_4, u_X8_save_6, u_X8_save_9, u_X8_save_10, u_X8_save_12, u_X8_save_15, u_X8_save_18, u_X8_save_19, u_X8_save_22, u_X8_save_23, u_X8_save_24, u_X8_save_27, u_X8_save_29, u_X8_save_30, u_X8_save_31, u_X8_save_32, u_X8_save_33, u_X8_save_36, u_X8_save_40, u_X8_save_41, u_X8_save_44, u_X8_save_45, u_X8_save_46, u_X8_save_49, u_X8_save_50, u_X8_save_52, u_X8_save_54, u_X8_save_57, u_X8_save_58, u_X8_save_61, u_X8_save_63, u_X8_save_64, u_X8_save_67, u_X8_save_68, u_X8_save_69, u_X8_save_70, u_X8_save_71, u_X8_save_74, u_X8_save_75, u_X8_save_76, u_X8_save_77, u_X8_save_80, u_X8_save_84, u_X8_save_85, u_X8_save_88, u_X8_save_89, u_X8_save_90, u_X8_save_93, q.ob, hZ, show nI 6 = 6 from rfl, if_true, xgo_some, xgo_none, xgoI_none, xcat_n, xcat_i, xcat_r, xcat_z, List.length_nil, List.length_cons, List.getD_cons_zero, List.getD_cons_succ, List.set_cons_zero, List.set_cons_succ, Nat.zero_le, Nat.reduceAdd, Nat.reduceLeDiff, Nat.reduceEqDiff, reduceIte]
      rw [show (0 : Int32) = nI 0 from rfl, a1, u_X8_save_39]
      simp only [u_X8_save_0, u_X8_save_1, u_X8_save_4, u_X8_save_6, u_X8_save_9, u_X8_save_10, u_X8_save_12, u_X8_save_15, u_X8_save_18, u_X8_save_19, u_X8_save_22, u_X8_save_23, u_X8_save_24, u_X8_save_27, u_X8_save_29, u_X8_save_30, u_X8_save_31, u_X8_save_32, u_X8_save_33, u_X8_save_36, u_X8_save_40, u_X8_save_41, u_X8_save_44, u_X8_save_45, u_X8_save_46, u_X8_save_49, u_X8_save_50, u_X8_save_52, u_X8_save_54, u_X8_save_57, u_X8_save_58, u_X8_save_61, u_X8_save_63, u_X8_save_64, u_X8_save_67, u_X8_save_68, u_X8_save_69, u_X8_save_70, u_X8_save_71, u_X8_save_74, u_X8_save_75, u_X8_save_76, u_X8_save_77, u_X8_save_80, u_X8_save_84, u_X8_save_85, u_X8_save_88, u_X8_save_89, u_X8_save_90, u_X8_save_93, a2.ob, hZ, show nI 6 - 1 = nI 5 from by decide, xgo_some, xgo_none, xgoI_none, xcat_n, xcat_i, xcat_r, xcat_z, List.length_nil, List.length_cons, List.getD_cons_zero, List.getD_cons_succ, List.set_cons_zero, List.set_cons_succ, Nat.zero_le, Nat.reduceAdd, Nat.reduceLeDiff, Nat.reduceEqDiff, reduceIte]
      rw [show (0 : Int32) = nI 0 from rfl, b1, u_X8_save_83]
      simp only [u_X8_save_0, u_X8_save_1, u_X8_save_4, u_X8_save_6, u_X8_save_9, u_X8_save_10, u_X8_save_12, u_X8_save_15, u_X8_save_18, u_X8_save_19, u_X8_save_22, u_X8_save_23, u_X8_save_24, u_X8_save_27, u_X8_save_29, u_X8_save_30, u_X8_save_31, u_X8_save_32, u_X8_save_33, u_X8_save_36, u_X8_save_40, u_X8_save_41, u_X8_save_44, u_X8_save_45, u_X8_save_46, u_X8_save_49, u_X8_save_50, u_X8_save_52, u_X8_save_54, u_X8_save_57, u_X8_save_58, u_X8_save_61, u_X8_save_63, u_X8_save_64, u_X8_save_67, u_X8_save_68, u_X8_save_69, u_X8_save_70, u_X8_save_71, u_X8_save_74, u_X8_save_75, u_X8_save_76, u_X8_save_77, u_X8_save_80, u_X8_save_84, u_X8_save_85, u_X8_save_88, u_X8_save_89, u_X8_save_90, u_X8_save_93, b2.ob, va_up_self, show nI 5 + 1 = nI 6 from by decide, xgo_some, xgo_none, xgoI_none, xcat_n, xcat_i, xcat_r, xcat_z, List.length_nil, List.length_cons, List.getD_cons_zero, List.getD_cons_succ, List.set_cons_zero, List.set_cons_succ, Nat.zero_le, Nat.reduceAdd, Nat.reduceLeDiff, Nat.reduceEqDiff, reduceIte]
      rfl
  · obtain ⟨h2, b1, b2, b3⟩ := lp_save2 (c := R.length) (by omega) hZ 117 0 h A (by omega) q
    have q2 := mo_z4 b2 (nI (R.length + 1))
    have w2 := svR_push w r
    have ep : puR R X = R ++ [X] := by unfold puR; rw [if_neg h5]
    have el : (R ++ [X]).length = R.length + 1 := by rw [List.length_append]; rfl
    rw [ep, el]
    refine ⟨_, _, ?_, q2, w2, b3.tr (xFr_mo _ _ _ _)⟩
    · have n6 : ¬ nI R.length = 6 := fun z => h5 ((nI_eq (b := 6) (by omega) (by omega)).mp z)
      simp only [u_X8_save_0, u_X8_save_1, u_X8_save_4, u_X8_save_6, u_X8_save_9, u_X8_save_10, u_X8_save_12, u_X8_save_15, u_X8_save_18, u_X8_save_19, u_X8_save_22, u_X8_save_23, u_X8_save_24, u_X8_save_27, u_X8_save_29, u_X8_save_30, u_X8_save_31, u_X8_save_32, u_X8_save_33, u_X8_save_36, u_X8_save_40, u_X8_save_41, u_X8_save_44, u_X8_save_45, u_X8_save_46, u_X8_save_49, u_X8_save_50, u_X8_save_52, u_X8_save_54, u_X8_save_57, u_X8_save_58, u_X8_save_61, u_X8_save_63, u_X8_save_64, u_X8_save_67, u_X8_save_68, u_X8_save_69, u_X8_save_70, u_X8_save_71, u_X8_save_74, u_X8_save_75, u_X8_save_76, u_X8_save_77, u_X8_save_80, u_X8_save_84, u_X8_save_85, u_X8_save_88, u_X8_save_89, u_X8_save_90, u_X8_save_93, q.ob, hZ, n6, if_false, xgo_some, xgo_none, xgoI_none, xcat_n, xcat_i, xcat_r, xcat_z, List.length_nil, List.length_cons, List.getD_cons_zero, List.getD_cons_succ, List.set_cons_zero, List.set_cons_succ, Nat.zero_le, Nat.reduceAdd, Nat.reduceLeDiff, Nat.reduceEqDiff, reduceIte]
      rw [show (0 : Int32) = nI 0 from rfl, b1, u_X8_save_83]
      simp only [u_X8_save_0, u_X8_save_1, u_X8_save_4, u_X8_save_6, u_X8_save_9, u_X8_save_10, u_X8_save_12, u_X8_save_15, u_X8_save_18, u_X8_save_19, u_X8_save_22, u_X8_save_23, u_X8_save_24, u_X8_save_27, u_X8_save_29, u_X8_save_30, u_X8_save_31, u_X8_save_32, u_X8_save_33, u_X8_save_36, u_X8_save_40, u_X8_save_41, u_X8_save_44, u_X8_save_45, u_X8_save_46, u_X8_save_49, u_X8_save_50, u_X8_save_52, u_X8_save_54, u_X8_save_57, u_X8_save_58, u_X8_save_61, u_X8_save_63, u_X8_save_64, u_X8_save_67, u_X8_save_68, u_X8_save_69, u_X8_save_70, u_X8_save_71, u_X8_save_74, u_X8_save_75, u_X8_save_76, u_X8_save_77, u_X8_save_80, u_X8_save_84, u_X8_save_85, u_X8_save_88, u_X8_save_89, u_X8_save_90, u_X8_save_93, b2.ob, hZ, nI_of1, xgo_some, xgo_none, xgoI_none, xcat_n, xcat_i, xcat_r, xcat_z, List.length_nil, List.length_cons, List.getD_cons_zero, List.getD_cons_succ, List.set_cons_zero, List.set_cons_succ, Nat.zero_le, Nat.reduceAdd, Nat.reduceLeDiff, Nat.reduceEqDiff, reduceIte]
/-- the row of numbers written anew -/
theorem rS_len {s : Nat → Int32} {L L' : List Int32} {T : xNs × Int32 × Int32 × Int32 × Int32} (r : rS s (L, T)) {t : Nat → Int32} (h0 : t 0 = nI L'.length) (hl : L'.length ≤ 64) (h1 : ∀ i, i < L'.length → t (1 + i) = gd L' i) (h2 : ∀ i, 65 ≤ i → i < 117 → t i = s i) : rS t (L', T) := by
  obtain ⟨r1, r2, r3, r4, r5, r6, r7, r8⟩ := r
  refine ⟨h0, hl, h1, fun k g1 g2 => ?_, by rw [h2 113 (by omega) (by omega)]; exact r5, by rw [h2 114 (by omega) (by omega)]; exact r6, by rw [h2 115 (by omega) (by omega)]; exact r7, by rw [h2 116 (by omega) (by omega)]; exact r8⟩
  rw [h2 (57 + k) (by omega) (by omega), h2 (73 + k) (by omega) (by omega), h2 (89 + k) (by omega) (by omega)]
  exact r4 k g1 g2
end MQ
