/-! The saved states: a ring. -/
section HI
variable {h : xH} {b d : Nat}
def hL (S : Nat → xS) : Nat → Nat → List xS
  | _, 0 => []
  | fr, k + 1 => S ((fr + 5) % 6) :: hL S ((fr + 5) % 6) k
theorem hL_len (S : Nat → xS) : ∀ (k fr : Nat), (hL S fr k).length = k := by
  intro k
  induction k with
  | zero => intro fr; rfl
  | succ k ih => intro fr; rw [hL, List.length_cons, ih]
theorem hL_up (S : Nat → xS) (X : xS) (fr : Nat) (hf : fr < 6) : ∀ (k j : Nat), j + k ≤ 5 → hL (va_up S fr X) ((fr + 6 - j) % 6) k = hL S ((fr + 6 - j) % 6) k := by
  intro k
  induction k with
  | zero => intro j _; rfl
  | succ k ih =>
    intro j hj
    have e : ((fr + 6 - j) % 6 + 5) % 6 = (fr + 6 - (j + 1)) % 6 := by omega
    rw [hL, hL, e, ih (j + 1) (by omega), va_up_ne _ _ (by omega)]
theorem hL_save (S : Nat → xS) (X : xS) (fr am : Nat) (hf : fr < 6) (ha : am ≤ 6) : hL (va_up S fr X) ((fr + 1) % 6) (min (am + 1) 6) = (X :: hL S fr am).take 6 := by
  have e : ((fr + 1) % 6 + 5) % 6 = fr := by omega
  have e2 : (fr + 6 - 0) % 6 = fr := by omega
  by_cases h6 : am = 6
  · subst h6
    have := hL_up S X fr hf 5 0 (by omega)
    rw [e2] at this
    rw [show min (6 + 1) 6 = 5 + 1 from rfl, hL, e, va_up_self, this]
    rfl
  · have := hL_up S X fr hf am 0 (by omega)
    rw [e2] at this
    rw [show min (am + 1) 6 = am + 1 by omega, hL, e, va_up_self, this, List.take_of_length_le (by rw [List.length_cons, hL_len]; omega)]
def hiR (h : xH) (b am fr : Nat) (g : Nat → Option Nat) : Prop := h.1 b = some (.inr (2, [.ref (b + 1), .int (nI am), .int (nI fr)])) ∧ h.1 (b + 1) = some (.inl (2, 6, .inr (.inr (.inr (.inr g))))) ∧ fr < 6 ∧ am ≤ 6 ∧ ∀ i, i < 6 → g i = some (b + 2 + 16 * i)
theorem hiR.ob {am fr : Nat} {g : Nat → Option Nat} (q : hiR h b am fr g) : xob h b = (2, [.ref (b + 1), .int (nI am), .int (nI fr)]) := by
  unfold xob
  rw [q.1]
  rfl
theorem hiR.aq {am fr : Nat} {g : Nat → Option Nat} (q : hiR h b am fr g) : xaq h (b + 1) = (6, g) := by
  unfold xaq
  rw [q.2.1]
  rfl
theorem hiR_fr {h' : xH} {lo hi am fr : Nat} {g : Nat → Option Nat} (q : hiR h b am fr g) (w : xFr lo hi h h') (hc : b + 2 ≤ lo ∨ hi ≤ b) : hiR h' b am fr g :=
  ⟨by rw [w.2 b (by omega)]; exact q.1, by rw [w.2 (b + 1) (by omega)]; exact q.2.1, q.2.2⟩
theorem hi_am {am fr : Nat} {g : Nat → Option Nat} (q : hiR h b am fr g) {k : Nat} (hk : k ≤ 6) : hiR (xso h b 1 (.int (nI k))) b k fr g := by
  have e : xso h b 1 (.int (nI k)) = xup h b (.inr (2, [.ref (b + 1), .int (nI k), .int (nI fr)])) := by unfold xso; rw [q.ob]; rfl
  rw [e]
  exact ⟨xup_at _ _ _, by rw [xup_ne _ _ (by omega)]; exact q.2.1, q.2.2.1, hk, q.2.2.2.2⟩
theorem hi_frr {am fr : Nat} {g : Nat → Option Nat} (q : hiR h b am fr g) {k : Nat} (hk : k < 6) : hiR (xso h b 2 (.int (nI k))) b am k g := by
  have e : xso h b 2 (.int (nI k)) = xup h b (.inr (2, [.ref (b + 1), .int (nI am), .int (nI k)])) := by unfold xso; rw [q.ob]; rfl
  rw [e]
  exact ⟨xup_at _ _ _, by rw [xup_ne _ _ (by omega)]; exact q.2.1, hk, q.2.2.2.1, q.2.2.2.2⟩
def isHi (h : xH) (b : Nat) (Hs : List xS) : Prop := ∃ fr g S, hiR h b Hs.length fr g ∧ (∀ i, i < 6 → isS h (b + 2 + 16 * i) (S i)) ∧ Hs = hL S fr Hs.length
theorem isHi_fr {h' : xH} {lo hi : Nat} {Hs : List xS} (q : isHi h b Hs) (w : xFr lo hi h h') (hc : b + 98 ≤ lo ∨ hi ≤ b) : isHi h' b Hs := by
  obtain ⟨fr, g, S, q1, q2, q3⟩ := q
  exact ⟨fr, g, S, hiR_fr q1 w (by omega), fun i hi => isS_fr (q2 i hi) w (by omega), q3⟩
theorem va_rf_s (a : Nat) : va_rf (some a) = .ref a := rfl
theorem c_save {Hs : List xS} {X : xS} (q : isHi h b Hs) (qs : isS h d X) (hd : d + 16 ≤ b ∨ b + 98 ≤ d) :
    ∃ h', xev 17 [.ref b, .ref d] h = some (.inl none, h') ∧ isHi h' b ((X :: Hs).take 6) ∧ xFr b (b + 98) h h' := by
  obtain ⟨fr, g, S, q1, q2, q3⟩ := q
  have hf := q1.2.2.1
  have ha := q1.2.2.2.1
  obtain ⟨am, eam⟩ : ∃ am, am = Hs.length := ⟨_, rfl⟩
  rw [← eam] at q1 q3 ha
  have ek : va_rf (g (nI fr).toNatClampNeg) = .ref (b + 2 + 16 * fr) := by rw [nI_clamp (by omega), q1.2.2.2.2 fr hf]; rfl
  have hx : xix (nI fr) 6 := xix_nI hf (by decide)
  have n1 : ¬ nI fr < 0 := nI_pos (by omega)
  have n2 : nI fr < Int32.ofNat 6 := nI_lt hf (by decide)
  obtain ⟨h1, a1, a2, a3⟩ := c_copy (q2 fr hf) qs (by omega)
  obtain ⟨_, _, _, _, _, _, _, _, o1⟩ := q2 fr hf
  have r1 := hiR_fr q1 a3 (by omega)
  have a4 : xFr b (b + 98) h h1 := xFr.wd a3 (by omega) (by omega)
  have st1 : ∀ i, i < 6 → isS h1 (b + 2 + 16 * i) (va_up S fr X i) := by
    intro i hi
    by_cases hif : i = fr
    · subst hif; rw [va_up_self]; exact a2
    · rw [va_up_ne _ _ hif]; exact isS_fr (q2 i hi) a3 (by omega)
  obtain ⟨f2, e2⟩ : ∃ f2, f2 = (fr + 1) % 6 := ⟨_, rfl⟩
  have r2 := hi_frr r1 (show f2 < 6 by omega)
  have w2 : xFr b (b + 2) h1 (xso h1 b 2 (.int (nI f2))) := xFr.wd (xFr_so _ _ _ _) (Nat.le_refl b) (by omega)
  obtain ⟨a5, e5⟩ : ∃ a5, a5 = min (am + 1) 6 := ⟨_, rfl⟩
  have r3 := hi_am r2 (show a5 ≤ 6 by omega)
  have w3 : xFr b (b + 2) (xso h1 b 2 (.int (nI f2))) (xso (xso h1 b 2 (.int (nI f2))) b 1 (.int (nI a5))) := xFr.wd (xFr_so _ _ _ _) (Nat.le_refl b) (by omega)
  refine ⟨_, ?_, ⟨f2, g, va_up S fr X, ?_, fun i hi => isS_fr (isS_fr (st1 i hi) w2 (by omega)) w3 (by omega), ?_⟩, (a4.tr (xFr.wd w2 (Nat.le_refl b) (by omega))).tr (xFr.wd w3 (Nat.le_refl b) (by omega))⟩
  · have em : (if (6 : Int32) < nI (am + 1) then 6 else nI (am + 1)) = nI a5 := by
      rw [e5]
      by_cases h6 : am = 6
      · subst h6; decide
      · rw [if_neg (show ¬ (6 : Int32) < nI (am + 1) from nI_nlt (a := 6) (b := am + 1) (by omega) (by omega)), show min (am + 1) 6 = am + 1 by omega]
    rw [e_X2_save]
    by_cases h5 : fr + 1 < 6
    · have n3 : nI (fr + 1) < 6 := nI_lt (b := 6) h5 (by omega)
      have e6 : f2 = fr + 1 := by omega
      rw [e6] at r2 r3 ⊢
      simp only [u_X2_save_0, u_X2_save_0N, u_X2_save_1, u_X2_save_4, u_X2_save_7, u_X2_save_7N, u_X2_save_8, u_X2_save_11, u_X2_save_11N, u_X2_save_12, u_X2_save_15, u_X2_save_16, u_X2_save_19, u_X2_save_19N, u_X2_save_20, u_X2_save_23, u_X2_save_23N, u_X2_save_24, u_X2_save_27, u_X2_save_28, u_X2_save_31, u_X2_save_32, u_X2_save_32N, u_X2_save_33, u_X2_save_33N, u_X2_save_34N, u_X2_save_34, u_X2_save_37, u_X2_save_37N, u_X2_save_38, u_X2_save_38N, u_X2_save_39, u_X2_save_42, u_X2_save_42N, u_X2_save_43, u_X2_save_43N, u_X2_save_44, u_X2_save_47, u_X2_save_48, u_X2_save_49, u_X2_save_51, u_X2_save_54, u_X2_save_54N, u_X2_save_55, u_X2_save_58, u_X2_save_59, u_X2_save_60, u_X2_save_63, u_X2_save_64, u_X2_save_67, u_X2_save_67N, u_X2_save_68, u_X2_save_68N, u_X2_save_69, u_X2_save_72, u_X2_save_73, u_X2_save_74, u_X2_save_76, u_X2_save_79, u_X2_save_82, q1.ob, q1.aq, r1.ob, r2.ob, o1.ob, ek, hx, n1, n2, n3, a1, em, nI_of1, Nat.lt_add_one, Nat.zero_lt_succ, if_true, if_false, xgo_some, xgo_none, xgoI_none, xcat_n, xcat_i, xcat_r, xcat_z, List.length_nil, List.length_cons, List.getD_cons_zero, List.getD_cons_succ, List.set_cons_zero, List.set_cons_succ, Nat.zero_le, Nat.reduceAdd, Nat.reduceLeDiff, Nat.reduceEqDiff, reduceIte]
    · have n3 : ¬ nI (fr + 1) < 6 := nI_nlt (b := 6) (by omega) (by omega)
      have e6 : f2 = 0 := by omega
      rw [e6, nI_0] at r2 r3
      rw [e6, nI_0]
      simp only [u_X2_save_0, u_X2_save_0N, u_X2_save_1, u_X2_save_4, u_X2_save_7, u_X2_save_7N, u_X2_save_8, u_X2_save_11, u_X2_save_11N, u_X2_save_12, u_X2_save_15, u_X2_save_16, u_X2_save_19, u_X2_save_19N, u_X2_save_20, u_X2_save_23, u_X2_save_23N, u_X2_save_24, u_X2_save_27, u_X2_save_28, u_X2_save_31, u_X2_save_32, u_X2_save_32N, u_X2_save_33, u_X2_save_33N, u_X2_save_34N, u_X2_save_34, u_X2_save_37, u_X2_save_37N, u_X2_save_38, u_X2_save_38N, u_X2_save_39, u_X2_save_42, u_X2_save_42N, u_X2_save_43, u_X2_save_43N, u_X2_save_44, u_X2_save_47, u_X2_save_48, u_X2_save_49, u_X2_save_51, u_X2_save_54, u_X2_save_54N, u_X2_save_55, u_X2_save_58, u_X2_save_59, u_X2_save_60, u_X2_save_63, u_X2_save_64, u_X2_save_67, u_X2_save_67N, u_X2_save_68, u_X2_save_68N, u_X2_save_69, u_X2_save_72, u_X2_save_73, u_X2_save_74, u_X2_save_76, u_X2_save_79, u_X2_save_82, q1.ob, q1.aq, r1.ob, r2.ob, o1.ob, ek, hx, n1, n2, n3, a1, em, nI_of1, Nat.lt_add_one, Nat.zero_lt_succ, if_true, if_false, xgo_some, xgo_none, xgoI_none, xcat_n, xcat_i, xcat_r, xcat_z, List.length_nil, List.length_cons, List.getD_cons_zero, List.getD_cons_succ, List.set_cons_zero, List.set_cons_succ, Nat.zero_le, Nat.reduceAdd, Nat.reduceLeDiff, Nat.reduceEqDiff, reduceIte]
  · have : ((X :: Hs).take 6).length = a5 := by
      rw [List.length_take, List.length_cons, ← eam]
      omega
    rw [this]
    exact r3
  · have : ((X :: Hs).take 6).length = a5 := by
      rw [List.length_take, List.length_cons, ← eam]
      omega
    rw [this, e2, e5, hL_save S X fr am hf ha, ← q3]
theorem c_restore {Hs : List xS} {X Y : xS} (q : isHi h b (X :: Hs)) (qs : isS h d Y) (hd : d + 16 ≤ b ∨ b + 98 ≤ d) :
    ∃ h', xev 18 [.ref b, .ref d] h = some (.inl none, h') ∧ isHi h' b Hs ∧ isS h' d X ∧ x2F b (b + 98) d (d + 16) h h' := by
  obtain ⟨fr, g, S, q1, q2, q3⟩ := q
  have hf := q1.2.2.1
  have ha := q1.2.2.2.1
  rw [List.length_cons] at q1 q3 ha
  obtain ⟨f2, e2⟩ : ∃ f2, f2 = (fr + 5) % 6 := ⟨_, rfl⟩
  have hf2 : f2 < 6 := by omega
  rw [hL, ← e2] at q3
  injection q3 with q4 q5
  have ek : va_rf (g (nI f2).toNatClampNeg) = .ref (b + 2 + 16 * f2) := by rw [nI_clamp (by omega), q1.2.2.2.2 f2 hf2]; rfl
  have hx : xix (nI f2) 6 := xix_nI hf2 (by decide)
  have n2 : nI f2 < Int32.ofNat 6 := nI_lt hf2 (by decide)
  have n4 : (0 : Int32) < nI (Hs.length + 1) := by rw [← nI_0]; exact nI_lt (by omega) (by omega)
  have n7 : ¬ nI f2 < 0 := nI_pos (by omega)
  obtain ⟨h1, a1, a2, a3⟩ := c_copy qs (q2 f2 hf2) (by omega)
  obtain ⟨_, _, _, _, _, _, _, _, o1⟩ := q2 f2 hf2
  obtain ⟨_, _, _, _, _, _, _, _, o2⟩ := id qs
  have r1 := hiR_fr q1 a3 (by omega)
  have r2 := hi_frr r1 hf2
  have w2 : xFr b (b + 2) h1 (xso h1 b 2 (.int (nI f2))) := xFr.wd (xFr_so _ _ _ _) (Nat.le_refl b) (by omega)
  have r3 := hi_am r2 (show Hs.length ≤ 6 by omega)
  have w3 : xFr b (b + 2) (xso h1 b 2 (.int (nI f2))) (xso (xso h1 b 2 (.int (nI f2))) b 1 (.int (nI Hs.length))) := xFr.wd (xFr_so _ _ _ _) (Nat.le_refl b) (by omega)
  refine ⟨_, ?_, ⟨f2, g, S, r3, fun i hi => isS_fr (isS_fr (isS_fr (q2 i hi) a3 (by omega)) w2 (by omega)) w3 (by omega), q5⟩, ?_, ((x2F.r a3).tr (x2F.l (xFr.wd w2 (Nat.le_refl b) (by omega)))).tr (x2F.l (xFr.wd w3 (Nat.le_refl b) (by omega)))⟩
  · rw [e_X2_restore]
    by_cases h5 : fr = 0
    · have n3 : ¬ (0 : Int32) < nI fr := by rw [h5]; decide
      have e6 : f2 = 5 := by omega
      rw [e6] at ek hx n2 n7 a1 o1 r2 r3 ⊢
      rw [show nI 5 = 5 from rfl] at *
      simp only [u_X2_restore_0, u_X2_restore_0N, u_X2_restore_1, u_X2_restore_4, u_X2_restore_7, u_X2_restore_7N, u_X2_restore_8, u_X2_restore_11, u_X2_restore_12, u_X2_restore_13, u_X2_restore_16, u_X2_restore_17, u_X2_restore_18, u_X2_restore_19, u_X2_restore_22, u_X2_restore_23, u_X2_restore_23N, u_X2_restore_24, u_X2_restore_27, u_X2_restore_28, u_X2_restore_31, u_X2_restore_31N, u_X2_restore_32, u_X2_restore_35, u_X2_restore_36, u_X2_restore_37, u_X2_restore_40, u_X2_restore_41, u_X2_restore_41N, u_X2_restore_42, u_X2_restore_42N, u_X2_restore_43N, u_X2_restore_43, u_X2_restore_46, u_X2_restore_46N, u_X2_restore_47, u_X2_restore_50, u_X2_restore_53, u_X2_restore_53N, u_X2_restore_54, u_X2_restore_54N, u_X2_restore_55, u_X2_restore_58, u_X2_restore_58N, u_X2_restore_59, u_X2_restore_60, u_X2_restore_63, u_X2_restore_63N, u_X2_restore_64, u_X2_restore_65, u_X2_restore_68, u_X2_restore_69, u_X2_restore_70, u_X2_restore_73, q1.ob, q1.aq, r1.ob, r2.ob, o1.ob, o2.ob, ek, hx, n2, n3, n4, n7, a1, nI_m1, Nat.lt_add_one, Nat.zero_lt_succ, if_true, if_false, xgo_some, xgo_none, xgoI_none, xcat_n, xcat_i, xcat_r, xcat_z, List.length_nil, List.length_cons, List.getD_cons_zero, List.getD_cons_succ, List.set_cons_zero, List.set_cons_succ, Nat.zero_le, Nat.reduceAdd, Nat.reduceLeDiff, Nat.reduceEqDiff, reduceIte]
    · have n3 : (0 : Int32) < nI fr := by rw [← nI_0]; exact nI_lt (by omega) (by omega)
      have e6 : fr = f2 + 1 := by omega
      rw [e6] at q1 r1 n3
      simp only [u_X2_restore_0, u_X2_restore_0N, u_X2_restore_1, u_X2_restore_4, u_X2_restore_7, u_X2_restore_7N, u_X2_restore_8, u_X2_restore_11, u_X2_restore_12, u_X2_restore_13, u_X2_restore_16, u_X2_restore_17, u_X2_restore_18, u_X2_restore_19, u_X2_restore_22, u_X2_restore_23, u_X2_restore_23N, u_X2_restore_24, u_X2_restore_27, u_X2_restore_28, u_X2_restore_31, u_X2_restore_31N, u_X2_restore_32, u_X2_restore_35, u_X2_restore_36, u_X2_restore_37, u_X2_restore_40, u_X2_restore_41, u_X2_restore_41N, u_X2_restore_42, u_X2_restore_42N, u_X2_restore_43N, u_X2_restore_43, u_X2_restore_46, u_X2_restore_46N, u_X2_restore_47, u_X2_restore_50, u_X2_restore_53, u_X2_restore_53N, u_X2_restore_54, u_X2_restore_54N, u_X2_restore_55, u_X2_restore_58, u_X2_restore_58N, u_X2_restore_59, u_X2_restore_60, u_X2_restore_63, u_X2_restore_63N, u_X2_restore_64, u_X2_restore_65, u_X2_restore_68, u_X2_restore_69, u_X2_restore_70, u_X2_restore_73, q1.ob, q1.aq, r1.ob, r2.ob, o1.ob, o2.ob, ek, hx, n2, n3, n4, n7, a1, nI_m1, Nat.lt_add_one, Nat.zero_lt_succ, if_true, if_false, xgo_some, xgo_none, xgoI_none, xcat_n, xcat_i, xcat_r, xcat_z, List.length_nil, List.length_cons, List.getD_cons_zero, List.getD_cons_succ, List.set_cons_zero, List.set_cons_succ, Nat.zero_le, Nat.reduceAdd, Nat.reduceLeDiff, Nat.reduceEqDiff, reduceIte]
  · rw [q4]
    exact isS_fr (isS_fr a2 w2 (by omega)) w3 (by omega)
end HI
