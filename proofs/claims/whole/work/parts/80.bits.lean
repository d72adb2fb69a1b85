/-! The bits of a share: both sides the same. -/
section FB
theorem xcat_d (v : UInt64) : xcat (some (.double v)) = none := rfl
theorem fz_n {a : UInt64} {s : Bool} {c n : Nat} (ha : FP.Core.val64 a = .fin s c (-52 - (n : Int))) (hn : n ≤ 64) : FP.Core.zval FP.Core.b64 (FP.Core.val64 a) = FP.Core.signed s (c * 2 ^ (1022 - n)) := by
  rw [ha]
  show FP.Core.signed s (c * 2 ^ (-52 - (n : Int) - FP.Core.b64.qmin).toNat) = _
  have hq := fp_q
  rw [show (-52 - (n : Int) - FP.Core.b64.qmin).toNat = 1022 - n by omega]
theorem fn_fin {a : UInt64} {s : Bool} {c : Nat} {q : Int} (ha : FP.Core.val64 a = .fin s c q) : FP.Core.val64 a ≠ .nan := by
  rw [ha]
  exact fun z => by cases z
theorem im1 : (-1 : Int32) < 0 := by decide
theorem fp_b1 {a : UInt64} {c n : Nat} (ha : FP.Core.val64 a = .fin false c (-52 - (n : Int))) (c2 : c < 2 ^ 53) (hn : n ≤ 64) (h1 : 1 ≤ n) : Op.cmpValue (FP.dcmp a FP.dconst1) .g < 0 := by
  have h3 : c * 2 ^ (1022 - n) < 2 ^ 53 * 2 ^ (1022 - n) := Nat.mul_lt_mul_of_pos_right c2 (Nat.two_pow_pos _)
  have h4 : 2 ^ 53 * 2 ^ (1022 - n) ≤ 2 ^ 53 * 2 ^ 1021 := Nat.mul_le_mul_left _ (Nat.pow_le_pow_right (by decide) (by omega))
  have h5 : 2 ^ 53 * 2 ^ 1021 = FP.Core.one64 := by decide +kernel
  rw [h5] at h4
  have hz : FP.Core.zval FP.Core.b64 (FP.Core.val64 a) = ((c * 2 ^ (1022 - n) : Nat) : Int) := fz_n ha hn
  rw [fp_cv (fn_fin ha) fn_1, fz_1, hz, if_pos (Int.ofNat_lt.mpr (Nat.lt_of_lt_of_le h3 h4))]
  exact im1
theorem fp_b0 {a : UInt64} {c : Nat} (ha : FP.Core.val64 a = .fin false c (-52)) (c1 : 2 ^ 52 ≤ c) (c2 : c < 2 ^ 53) : ¬ Op.cmpValue (FP.dcmp a FP.dconst1) .g < 0 ∧ Op.cmpValue (FP.dcmp a 4611686018427387904) .l < 0 := by
  have ha' : FP.Core.val64 a = .fin false c (-52 - ((0 : Nat) : Int)) := ha
  have hz : FP.Core.zval FP.Core.b64 (FP.Core.val64 a) = ((c * 2 ^ 1022 : Nat) : Int) := fz_n ha' (by decide)
  have h3 : 2 ^ 52 * 2 ^ 1022 ≤ c * 2 ^ 1022 := Nat.mul_le_mul_right _ c1
  rw [← fpP_1] at h3
  have h4 : c * 2 ^ 1022 < 2 ^ 53 * 2 ^ 1022 := Nat.mul_lt_mul_of_pos_right c2 (Nat.two_pow_pos _)
  have h5 : 2 ^ 53 * 2 ^ 1022 = 2 * FP.Core.one64 := by decide +kernel
  rw [h5] at h4
  constructor
  · rw [fp_cv (fn_fin ha) fn_1, fz_1, hz, if_neg (fun z => absurd (Int.ofNat_lt.mp z) (Nat.not_lt.mpr h3))]
    split
    · decide
    · decide
  · rw [fp_cv (fn_fin ha) fn_2, fz_2, hz, if_pos (Int.ofNat_lt.mpr h4)]
    exact im1
theorem lN_d1 {i : Nat} (h : i < 1023) : lN (1023 - i) - 1 = lN (1023 - (i + 1)) := by
  rw [show (1 : Int64) = lN 1 from rfl, lN_sub (by omega), show 1023 - i - 1 = 1023 - (i + 1) by omega]
theorem lp_b7 {c : Nat} (c1 : 2 ^ 52 ≤ c) (c2 : c < 2 ^ 53) : ∀ (n i : Nat) (a : UInt64), FP.Core.val64 a = .fin false c (-52 - (n : Int)) → i + n ≤ 64 → ∃ r, FP.Core.val64 r = .fin false c (-52) ∧ ∀ (h : xH) (v : UInt64), xf 96 29 [some (.double v), none, some (.double a), none, some (.long (lN (1023 - i))), none, some (.int (nI i)), none, none, none, none, none] [] h = xf 96 60 [some (.double v), none, some (.double r), none, some (.long (lN (1023 - (i + n)))), none, some (.int (nI (i + n))), none, none, none, none, none] [] h := by
  intro n
  induction n with
  | zero =>
    intro i a ha hi
    refine ⟨a, ha, fun h v => ?_⟩
    have hb := (fp_b0 ha c1 c2).1
    rw [u_X7_bitsOf_29]
    by_cases h6 : i < 64
    · have h7 : nI i < 64 := nI_lt (b := 64) h6 (by decide)
      simp only [u_X7_bitsOf_0, u_X7_bitsOf_1, u_X7_bitsOf_2, u_X7_bitsOf_3, u_X7_bitsOf_6, u_X7_bitsOf_7, u_X7_bitsOf_8, u_X7_bitsOf_9, u_X7_bitsOf_10, u_X7_bitsOf_11, u_X7_bitsOf_14, u_X7_bitsOf_15, u_X7_bitsOf_16, u_X7_bitsOf_19, u_X7_bitsOf_20, u_X7_bitsOf_21, u_X7_bitsOf_24, u_X7_bitsOf_26, u_X7_bitsOf_27, u_X7_bitsOf_31, u_X7_bitsOf_33, u_X7_bitsOf_36, u_X7_bitsOf_37, u_X7_bitsOf_38, u_X7_bitsOf_39, u_X7_bitsOf_42, u_X7_bitsOf_43, u_X7_bitsOf_46, u_X7_bitsOf_47, u_X7_bitsOf_48, u_X7_bitsOf_50, u_X7_bitsOf_51, u_X7_bitsOf_52, u_X7_bitsOf_54, u_X7_bitsOf_57, u_X7_bitsOf_63, u_X7_bitsOf_65, u_X7_bitsOf_66, u_X7_bitsOf_68, u_X7_bitsOf_69, u_X7_bitsOf_70, u_X7_bitsOf_71, u_X7_bitsOf_73, u_X7_bitsOf_74, u_X7_bitsOf_76, u_X7_bitsOf_78, u_X7_bitsOf_80, u_X7_bitsOf_81, u_X7_bitsOf_83, u_X7_bitsOf_84, u_X7_bitsOf_86, u_X7_bitsOf_87, u_X7_bitsOf_88, u_X7_bitsOf_89, u_X7_bitsOf_92, u_X7_bitsOf_94, u_X7_bitsOf_97, u_X7_bitsOf_98, u_X7_bitsOf_101, u_X7_bitsOf_103, h7, hb, if_true, if_false, Nat.add_zero, xcat_d, xcat_l, xgo_some, xgo_none, xgoI_none, xcat_n, xcat_i, xcat_r, xcat_z, List.length_nil, List.length_cons, List.getD_cons_zero, List.getD_cons_succ, List.set_cons_zero, List.set_cons_succ, Nat.zero_le, Nat.reduceAdd, Nat.reduceLeDiff, Nat.reduceEqDiff, reduceIte]
    · have h7 : ¬ nI i < 64 := nI_nlt (b := 64) (by omega) (by omega)
      simp only [u_X7_bitsOf_0, u_X7_bitsOf_1, u_X7_bitsOf_2, u_X7_bitsOf_3, u_X7_bitsOf_6, u_X7_bitsOf_7, u_X7_bitsOf_8, u_X7_bitsOf_9, u_X7_bitsOf_10, u_X7_bitsOf_11, u_X7_bitsOf_14, u_X7_bitsOf_15, u_X7_bitsOf_16, u_X7_bitsOf_19, u_X7_bitsOf_20, u_X7_bitsOf_21, u_X7_bitsOf_24, u_X7_bitsOf_26, u_X7_bitsOf_27, u_X7_bitsOf_31, u_X7_bitsOf_33, u_X7_bitsOf_36, u_X7_bitsOf_37, u_X7_bitsOf_38, u_X7_bitsOf_39, u_X7_bitsOf_42, u_X7_bitsOf_43, u_X7_bitsOf_46, u_X7_bitsOf_47, u_X7_bitsOf_48, u_X7_bitsOf_50, u_X7_bitsOf_51, u_X7_bitsOf_52, u_X7_bitsOf_54, u_X7_bitsOf_57, u_X7_bitsOf_63, u_X7_bitsOf_65, u_X7_bitsOf_66, u_X7_bitsOf_68, u_X7_bitsOf_69, u_X7_bitsOf_70, u_X7_bitsOf_71, u_X7_bitsOf_73, u_X7_bitsOf_74, u_X7_bitsOf_76, u_X7_bitsOf_78, u_X7_bitsOf_80, u_X7_bitsOf_81, u_X7_bitsOf_83, u_X7_bitsOf_84, u_X7_bitsOf_86, u_X7_bitsOf_87, u_X7_bitsOf_88, u_X7_bitsOf_89, u_X7_bitsOf_92, u_X7_bitsOf_94, u_X7_bitsOf_97, u_X7_bitsOf_98, u_X7_bitsOf_101, u_X7_bitsOf_103, h7, if_false, Nat.add_zero, xcat_d, xcat_l, xgo_some, xgo_none, xgoI_none, xcat_n, xcat_i, xcat_r, xcat_z, List.length_nil, List.length_cons, List.getD_cons_zero, List.getD_cons_succ, List.set_cons_zero, List.set_cons_succ, Nat.zero_le, Nat.reduceAdd, Nat.reduceLeDiff, Nat.reduceEqDiff, reduceIte]
  | succ n ih =>
    intro i a ha hi
    have hb := fp_b1 ha c2 (by omega) (by omega)
    have hm := fp_mul2 ha c1 c2 (by omega) (by omega)
    have hm : FP.Core.val64 (FP.dmul a 4611686018427387904) = .fin false c (-52 - (n : Int)) := by
      rw [hm]
      congr 1
      omega
    have hx := xnn_fin ⟨_, _, _, hm⟩
    obtain ⟨r, r1, r2⟩ := ih (i + 1) _ hm (by omega)
    refine ⟨r, r1, fun h v => ?_⟩
    have h7 : nI i < 64 := nI_lt (b := 64) (by omega) (by decide)
    rw [u_X7_bitsOf_29]
    simp only [u_X7_bitsOf_0, u_X7_bitsOf_1, u_X7_bitsOf_2, u_X7_bitsOf_3, u_X7_bitsOf_6, u_X7_bitsOf_7, u_X7_bitsOf_8, u_X7_bitsOf_9, u_X7_bitsOf_10, u_X7_bitsOf_11, u_X7_bitsOf_14, u_X7_bitsOf_15, u_X7_bitsOf_16, u_X7_bitsOf_19, u_X7_bitsOf_20, u_X7_bitsOf_21, u_X7_bitsOf_24, u_X7_bitsOf_26, u_X7_bitsOf_27, u_X7_bitsOf_31, u_X7_bitsOf_33, u_X7_bitsOf_36, u_X7_bitsOf_37, u_X7_bitsOf_38, u_X7_bitsOf_39, u_X7_bitsOf_42, u_X7_bitsOf_43, u_X7_bitsOf_46, u_X7_bitsOf_47, u_X7_bitsOf_48, u_X7_bitsOf_50, u_X7_bitsOf_51, u_X7_bitsOf_52, u_X7_bitsOf_54, u_X7_bitsOf_57, u_X7_bitsOf_63, u_X7_bitsOf_65, u_X7_bitsOf_66, u_X7_bitsOf_68, u_X7_bitsOf_69, u_X7_bitsOf_70, u_X7_bitsOf_71, u_X7_bitsOf_73, u_X7_bitsOf_74, u_X7_bitsOf_76, u_X7_bitsOf_78, u_X7_bitsOf_80, u_X7_bitsOf_81, u_X7_bitsOf_83, u_X7_bitsOf_84, u_X7_bitsOf_86, u_X7_bitsOf_87, u_X7_bitsOf_88, u_X7_bitsOf_89, u_X7_bitsOf_92, u_X7_bitsOf_94, u_X7_bitsOf_97, u_X7_bitsOf_98, u_X7_bitsOf_101, u_X7_bitsOf_103, h7, hb, hx, lN_d1 (show i < 1023 by omega), nI_of1, if_true, xcat_d, xcat_l, xgo_some, xgo_none, xgoI_none, xcat_n, xcat_i, xcat_r, xcat_z, List.length_nil, List.length_cons, List.getD_cons_zero, List.getD_cons_succ, List.set_cons_zero, List.set_cons_succ, Nat.zero_le, Nat.reduceAdd, Nat.reduceLeDiff, Nat.reduceEqDiff, reduceIte]
    rw [r2 h v, show i + 1 + n = i + (n + 1) by omega]
theorem lp_b8 {c : Nat} (c1 : 2 ^ 52 ≤ c) (c2 : c < 2 ^ 53) : ∀ (n i : Nat) (a : UInt64), FP.Core.val64 a = .fin false c (-52 - (n : Int)) → i + n ≤ 64 → ∃ r, FP.Core.val64 r = .fin false c (-52) ∧ ∀ (h : xH) (v : UInt64), xf 156 26 [some (.double v), none, some (.long (lN (1023 - i))), none, some (.double a), none, none, none] [] h = xf 156 48 [some (.double v), none, some (.long (lN (1023 - (i + n)))), none, some (.double r), none, none, none] [] h := by
  intro n
  induction n with
  | zero =>
    intro i a ha hi
    refine ⟨a, ha, fun h v => ?_⟩
    have hb := (fp_b0 ha c1 c2).1
    rw [u_X8_bitsOf_26]
    simp only [u_X8_bitsOf_0, u_X8_bitsOf_1, u_X8_bitsOf_2, u_X8_bitsOf_3, u_X8_bitsOf_6, u_X8_bitsOf_7, u_X8_bitsOf_8, u_X8_bitsOf_11, u_X8_bitsOf_12, u_X8_bitsOf_13, u_X8_bitsOf_14, u_X8_bitsOf_15, u_X8_bitsOf_18, u_X8_bitsOf_19, u_X8_bitsOf_20, u_X8_bitsOf_23, u_X8_bitsOf_24, u_X8_bitsOf_28, u_X8_bitsOf_29, u_X8_bitsOf_30, u_X8_bitsOf_33, u_X8_bitsOf_35, u_X8_bitsOf_38, u_X8_bitsOf_39, u_X8_bitsOf_41, u_X8_bitsOf_42, u_X8_bitsOf_43, u_X8_bitsOf_44, u_X8_bitsOf_45, u_X8_bitsOf_50, u_X8_bitsOf_53, u_X8_bitsOf_54, u_X8_bitsOf_57, u_X8_bitsOf_59, u_X8_bitsOf_62, u_X8_bitsOf_63, u_X8_bitsOf_65, u_X8_bitsOf_66, u_X8_bitsOf_67, u_X8_bitsOf_68, u_X8_bitsOf_69, u_X8_bitsOf_72, u_X8_bitsOf_73, u_X8_bitsOf_76, u_X8_bitsOf_77, u_X8_bitsOf_79, u_X8_bitsOf_80, u_X8_bitsOf_81, u_X8_bitsOf_84, u_X8_bitsOf_85, u_X8_bitsOf_86, u_X8_bitsOf_87, u_X8_bitsOf_89, u_X8_bitsOf_90, u_X8_bitsOf_91, u_X8_bitsOf_92, u_X8_bitsOf_95, u_X8_bitsOf_97, u_X8_bitsOf_100, u_X8_bitsOf_101, u_X8_bitsOf_104, u_X8_bitsOf_106, hb, if_false, Nat.add_zero, xcat_d, xcat_l, xgo_some, xgo_none, xgoI_none, xcat_n, xcat_i, xcat_r, xcat_z, List.length_nil, List.length_cons, List.getD_cons_zero, List.getD_cons_succ, List.set_cons_zero, List.set_cons_succ, Nat.zero_le, Nat.reduceAdd, Nat.reduceLeDiff, Nat.reduceEqDiff, reduceIte]
  | succ n ih =>
    intro i a ha hi
    have hb := fp_b1 ha c2 (by omega) (by omega)
    have hm := fp_mul2 ha c1 c2 (by omega) (by omega)
    have hm : FP.Core.val64 (FP.dmul a 4611686018427387904) = .fin false c (-52 - (n : Int)) := by
      rw [hm]
      congr 1
      omega
    have hx := xnn_fin ⟨_, _, _, hm⟩
    obtain ⟨r, r1, r2⟩ := ih (i + 1) _ hm (by omega)
    refine ⟨r, r1, fun h v => ?_⟩
    rw [u_X8_bitsOf_26]
    simp only [u_X8_bitsOf_0, u_X8_bitsOf_1, u_X8_bitsOf_2, u_X8_bitsOf_3, u_X8_bitsOf_6, u_X8_bitsOf_7, u_X8_bitsOf_8, u_X8_bitsOf_11, u_X8_bitsOf_12, u_X8_bitsOf_13, u_X8_bitsOf_14, u_X8_bitsOf_15, u_X8_bitsOf_18, u_X8_bitsOf_19, u_X8_bitsOf_20, u_X8_bitsOf_23, u_X8_bitsOf_24, u_X8_bitsOf_28, u_X8_bitsOf_29, u_X8_bitsOf_30, u_X8_bitsOf_33, u_X8_bitsOf_35, u_X8_bitsOf_38, u_X8_bitsOf_39, u_X8_bitsOf_41, u_X8_bitsOf_42, u_X8_bitsOf_43, u_X8_bitsOf_44, u_X8_bitsOf_45, u_X8_bitsOf_50, u_X8_bitsOf_53, u_X8_bitsOf_54, u_X8_bitsOf_57, u_X8_bitsOf_59, u_X8_bitsOf_62, u_X8_bitsOf_63, u_X8_bitsOf_65, u_X8_bitsOf_66, u_X8_bitsOf_67, u_X8_bitsOf_68, u_X8_bitsOf_69, u_X8_bitsOf_72, u_X8_bitsOf_73, u_X8_bitsOf_76, u_X8_bitsOf_77, u_X8_bitsOf_79, u_X8_bitsOf_80, u_X8_bitsOf_81, u_X8_bitsOf_84, u_X8_bitsOf_85, u_X8_bitsOf_86, u_X8_bitsOf_87, u_X8_bitsOf_89, u_X8_bitsOf_90, u_X8_bitsOf_91, u_X8_bitsOf_92, u_X8_bitsOf_95, u_X8_bitsOf_97, u_X8_bitsOf_100, u_X8_bitsOf_101, u_X8_bitsOf_104, u_X8_bitsOf_106, hb, hx, lN_d1 (show i < 1023 by omega), if_true, xcat_d, xcat_l, xgo_some, xgo_none, xgoI_none, xcat_n, xcat_i, xcat_r, xcat_z, List.length_nil, List.length_cons, List.getD_cons_zero, List.getD_cons_succ, List.set_cons_zero, List.set_cons_succ, Nat.zero_le, Nat.reduceAdd, Nat.reduceLeDiff, Nat.reduceEqDiff, reduceIte]
    rw [r2 h v, show i + 1 + n = i + (n + 1) by omega]
theorem shl_n : ∀ n, n < 65 → lN (1023 - n) <<< ((52 : Int32).toInt64 &&& 63) = lN ((1023 - n) * 2 ^ 52) := by decide +kernel
theorem lor_m {N : Nat} (h : N < 2 ^ 63) : lN N ||| (-9223372036854775808) = lN N + (-9223372036854775808) := by
  apply Int64.toBitVec_inj.mp
  rw [Int64.toBitVec_or, Int64.toBitVec_add]
  symm
  apply BitVec.add_eq_or_of_and_eq_zero
  apply BitVec.eq_of_toNat_eq
  rw [BitVec.toNat_and, show (lN N).toBitVec.toNat = N from by
    show (BitVec.ofNat 64 N).toNat = N
    rw [BitVec.toNat_ofNat]
    exact Nat.mod_eq_of_lt (by omega), show ((-9223372036854775808 : Int64).toBitVec).toNat = 2 ^ 63 by decide]
  show N &&& 2 ^ 63 = 0
  apply Nat.eq_of_testBit_eq
  intro i
  rw [Nat.testBit_and, Nat.testBit_two_pow, Nat.zero_testBit]
  by_cases hi : 63 = i
  · subst hi
    rw [Nat.testBit_lt_two_pow h]
    rfl
  · rw [decide_eq_false hi]
    exact Bool.and_false _
def btN (n c : Nat) : Nat := (1023 - n) * 2 ^ 52 + (c - 2 ^ 52)
theorem btN_lt {n c : Nat} (c2 : c < 2 ^ 53) : btN n c < 2 ^ 63 := by
  unfold btN
  have : (1023 - n) * 2 ^ 52 ≤ 1023 * 2 ^ 52 := Nat.mul_le_mul_right _ (by omega)
  omega
theorem bt_7 {n c : Nat} (hn : n ≤ 64) (c1 : 2 ^ 52 ≤ c) : lN (1023 - n) <<< ((52 : Int32).toInt64 &&& 63) + (lN c - 4503599627370496) = lN (btN n c) := by
  rw [shl_n n (by omega), show (4503599627370496 : Int64) = lN (2 ^ 52) from rfl, lN_sub c1, lN_add]
  rfl
theorem bt_8 (n c : Nat) : lN (1023 - n) * 4503599627370496 + lN (c - 2 ^ 52) = lN (btN n c) := by
  rw [show (4503599627370496 : Int64) = lN (2 ^ 52) from rfl, lN_mul, lN_add]
  rfl
theorem fp_bits {v : UInt64} (hS : fpS v) : ∃ B, (∀ h, xev 96 [.double v] h = some (.inl (some (.long B)), h)) ∧ ∀ h, xev 156 [.double v] h = some (.inl (some (.long B)), h) := by
  obtain ⟨hn, hz⟩ := hS
  have cv := fp_cv hn fn_0
  rw [fz_0] at cv
  have K0 := FP.Core.one64_pos
  have P0 : 0 < fpP := Nat.lt_of_lt_of_le (by decide) fpP_53
  have n10 : ¬ (1 : Int32) = 0 := by decide
  have nm0 : ¬ (-1 : Int32) = 0 := by decide
  have n1l : ¬ (1 : Int32) < 0 := by decide
  rcases hz with z | ⟨z1, z2⟩ | ⟨z1, z2⟩
  · rw [z, if_neg (by decide), if_pos rfl] at cv
    refine ⟨0, fun h => ?_, fun h => ?_⟩
    · rw [e_X7_bitsOf]
      simp only [u_X7_bitsOf_0, u_X7_bitsOf_1, u_X7_bitsOf_2, u_X7_bitsOf_3, u_X7_bitsOf_6, u_X7_bitsOf_7, u_X7_bitsOf_8, u_X7_bitsOf_9, u_X7_bitsOf_10, u_X7_bitsOf_11, u_X7_bitsOf_14, u_X7_bitsOf_15, u_X7_bitsOf_16, u_X7_bitsOf_19, u_X7_bitsOf_20, u_X7_bitsOf_21, u_X7_bitsOf_24, u_X7_bitsOf_26, u_X7_bitsOf_27, u_X7_bitsOf_31, u_X7_bitsOf_33, u_X7_bitsOf_36, u_X7_bitsOf_37, u_X7_bitsOf_38, u_X7_bitsOf_39, u_X7_bitsOf_42, u_X7_bitsOf_43, u_X7_bitsOf_46, u_X7_bitsOf_47, u_X7_bitsOf_48, u_X7_bitsOf_50, u_X7_bitsOf_51, u_X7_bitsOf_52, u_X7_bitsOf_54, u_X7_bitsOf_57, u_X7_bitsOf_63, u_X7_bitsOf_65, u_X7_bitsOf_66, u_X7_bitsOf_68, u_X7_bitsOf_69, u_X7_bitsOf_70, u_X7_bitsOf_71, u_X7_bitsOf_73, u_X7_bitsOf_74, u_X7_bitsOf_76, u_X7_bitsOf_78, u_X7_bitsOf_80, u_X7_bitsOf_81, u_X7_bitsOf_83, u_X7_bitsOf_84, u_X7_bitsOf_86, u_X7_bitsOf_87, u_X7_bitsOf_88, u_X7_bitsOf_89, u_X7_bitsOf_92, u_X7_bitsOf_94, u_X7_bitsOf_97, u_X7_bitsOf_98, u_X7_bitsOf_101, u_X7_bitsOf_103, cv, if_true, xcat_d, xcat_l, xgo_some, xgo_none, xgoI_none, xcat_n, xcat_i, xcat_r, xcat_z, List.length_nil, List.length_cons, List.getD_cons_zero, List.getD_cons_succ, List.set_cons_zero, List.set_cons_succ, Nat.zero_le, Nat.reduceAdd, Nat.reduceLeDiff, Nat.reduceEqDiff, reduceIte]
    · rw [e_X8_bitsOf]
      simp only [u_X8_bitsOf_0, u_X8_bitsOf_1, u_X8_bitsOf_2, u_X8_bitsOf_3, u_X8_bitsOf_6, u_X8_bitsOf_7, u_X8_bitsOf_8, u_X8_bitsOf_11, u_X8_bitsOf_12, u_X8_bitsOf_13, u_X8_bitsOf_14, u_X8_bitsOf_15, u_X8_bitsOf_18, u_X8_bitsOf_19, u_X8_bitsOf_20, u_X8_bitsOf_23, u_X8_bitsOf_24, u_X8_bitsOf_28, u_X8_bitsOf_29, u_X8_bitsOf_30, u_X8_bitsOf_33, u_X8_bitsOf_35, u_X8_bitsOf_38, u_X8_bitsOf_39, u_X8_bitsOf_41, u_X8_bitsOf_42, u_X8_bitsOf_43, u_X8_bitsOf_44, u_X8_bitsOf_45, u_X8_bitsOf_50, u_X8_bitsOf_53, u_X8_bitsOf_54, u_X8_bitsOf_57, u_X8_bitsOf_59, u_X8_bitsOf_62, u_X8_bitsOf_63, u_X8_bitsOf_65, u_X8_bitsOf_66, u_X8_bitsOf_67, u_X8_bitsOf_68, u_X8_bitsOf_69, u_X8_bitsOf_72, u_X8_bitsOf_73, u_X8_bitsOf_76, u_X8_bitsOf_77, u_X8_bitsOf_79, u_X8_bitsOf_80, u_X8_bitsOf_81, u_X8_bitsOf_84, u_X8_bitsOf_85, u_X8_bitsOf_86, u_X8_bitsOf_87, u_X8_bitsOf_89, u_X8_bitsOf_90, u_X8_bitsOf_91, u_X8_bitsOf_92, u_X8_bitsOf_95, u_X8_bitsOf_97, u_X8_bitsOf_100, u_X8_bitsOf_101, u_X8_bitsOf_104, u_X8_bitsOf_106, cv, if_true, xcat_d, xcat_l, xgo_some, xgo_none, xgoI_none, xcat_n, xcat_i, xcat_r, xcat_z, List.length_nil, List.length_cons, List.getD_cons_zero, List.getD_cons_succ, List.set_cons_zero, List.set_cons_succ, Nat.zero_le, Nat.reduceAdd, Nat.reduceLeDiff, Nat.reduceEqDiff, reduceIte]
  · rw [if_neg (by omega), if_neg (by omega)] at cv
    have zm : FP.Core.zval FP.Core.b64 (FP.Core.val64 v) = FP.Core.signed (FP.Core.sgn (FP.Core.val64 v)) (FP.Core.zmag FP.Core.b64 (FP.Core.val64 v)) := rfl
    have hs : FP.Core.sgn (FP.Core.val64 v) = false := by
      cases hb : FP.Core.sgn (FP.Core.val64 v) with
      | false => rfl
      | true =>
        rw [hb] at zm
        have zm : FP.Core.zval FP.Core.b64 (FP.Core.val64 v) = -((FP.Core.zmag FP.Core.b64 (FP.Core.val64 v) : Nat) : Int) := zm
        omega
    rw [hs] at zm
    have zm : FP.Core.zval FP.Core.b64 (FP.Core.val64 v) = ((FP.Core.zmag FP.Core.b64 (FP.Core.val64 v) : Nat) : Int) := zm
    obtain ⟨s, c, n, ev, n64, c1, c2⟩ := fp_nf hn (by omega) (by omega)
    rw [ev] at hs
    have hs : s = false := hs
    subst hs
    obtain ⟨r7, a7, b7⟩ := lp_b7 c1 c2 n 0 v ev (by omega)
    obtain ⟨r8, a8, b8⟩ := lp_b8 c1 c2 n 0 v ev (by omega)
    rw [Nat.zero_add] at b7 b8
    have x7 := xnn_fin ⟨_, _, _, fp_d1 a7 c1 c2⟩
    have y7 := fp_l1 a7 c1 c2
    obtain ⟨⟨_, _, _, x8⟩, y8, ⟨_, _, _, x9⟩⟩ := fp_d2 a8 c1 c2
    have x8 := xnn_fin ⟨_, _, _, x8⟩
    have x9 := xnn_fin ⟨_, _, _, x9⟩
    have g8 := (fp_b0 a8 c1 c2).2
    refine ⟨lN (btN n c), fun h => ?_, fun h => ?_⟩
    · rw [e_X7_bitsOf]
      simp only [u_X7_bitsOf_0, u_X7_bitsOf_1, u_X7_bitsOf_2, u_X7_bitsOf_3, u_X7_bitsOf_6, u_X7_bitsOf_7, u_X7_bitsOf_8, u_X7_bitsOf_9, u_X7_bitsOf_10, u_X7_bitsOf_11, u_X7_bitsOf_14, u_X7_bitsOf_15, u_X7_bitsOf_16, u_X7_bitsOf_19, u_X7_bitsOf_20, u_X7_bitsOf_21, u_X7_bitsOf_24, u_X7_bitsOf_26, u_X7_bitsOf_27, u_X7_bitsOf_31, u_X7_bitsOf_33, u_X7_bitsOf_36, u_X7_bitsOf_37, u_X7_bitsOf_38, u_X7_bitsOf_39, u_X7_bitsOf_42, u_X7_bitsOf_43, u_X7_bitsOf_46, u_X7_bitsOf_47, u_X7_bitsOf_48, u_X7_bitsOf_50, u_X7_bitsOf_51, u_X7_bitsOf_52, u_X7_bitsOf_54, u_X7_bitsOf_57, u_X7_bitsOf_63, u_X7_bitsOf_65, u_X7_bitsOf_66, u_X7_bitsOf_68, u_X7_bitsOf_69, u_X7_bitsOf_70, u_X7_bitsOf_71, u_X7_bitsOf_73, u_X7_bitsOf_74, u_X7_bitsOf_76, u_X7_bitsOf_78, u_X7_bitsOf_80, u_X7_bitsOf_81, u_X7_bitsOf_83, u_X7_bitsOf_84, u_X7_bitsOf_86, u_X7_bitsOf_87, u_X7_bitsOf_88, u_X7_bitsOf_89, u_X7_bitsOf_92, u_X7_bitsOf_94, u_X7_bitsOf_97, u_X7_bitsOf_98, u_X7_bitsOf_101, u_X7_bitsOf_103, cv, n10, n1l, if_false, xcat_d, xcat_l, xgo_some, xgo_none, xgoI_none, xcat_n, xcat_i, xcat_r, xcat_z, List.length_nil, List.length_cons, List.getD_cons_zero, List.getD_cons_succ, List.set_cons_zero, List.set_cons_succ, Nat.zero_le, Nat.reduceAdd, Nat.reduceLeDiff, Nat.reduceEqDiff, reduceIte]
      rw [show (0 : Int32) = nI 0 from rfl, show (1023 : Int64) = lN (1023 - 0) from rfl, b7 h v, u_X7_bitsOf_60]
      simp only [u_X7_bitsOf_0, u_X7_bitsOf_1, u_X7_bitsOf_2, u_X7_bitsOf_3, u_X7_bitsOf_6, u_X7_bitsOf_7, u_X7_bitsOf_8, u_X7_bitsOf_9, u_X7_bitsOf_10, u_X7_bitsOf_11, u_X7_bitsOf_14, u_X7_bitsOf_15, u_X7_bitsOf_16, u_X7_bitsOf_19, u_X7_bitsOf_20, u_X7_bitsOf_21, u_X7_bitsOf_24, u_X7_bitsOf_26, u_X7_bitsOf_27, u_X7_bitsOf_31, u_X7_bitsOf_33, u_X7_bitsOf_36, u_X7_bitsOf_37, u_X7_bitsOf_38, u_X7_bitsOf_39, u_X7_bitsOf_42, u_X7_bitsOf_43, u_X7_bitsOf_46, u_X7_bitsOf_47, u_X7_bitsOf_48, u_X7_bitsOf_50, u_X7_bitsOf_51, u_X7_bitsOf_52, u_X7_bitsOf_54, u_X7_bitsOf_57, u_X7_bitsOf_63, u_X7_bitsOf_65, u_X7_bitsOf_66, u_X7_bitsOf_68, u_X7_bitsOf_69, u_X7_bitsOf_70, u_X7_bitsOf_71, u_X7_bitsOf_73, u_X7_bitsOf_74, u_X7_bitsOf_76, u_X7_bitsOf_78, u_X7_bitsOf_80, u_X7_bitsOf_81, u_X7_bitsOf_83, u_X7_bitsOf_84, u_X7_bitsOf_86, u_X7_bitsOf_87, u_X7_bitsOf_88, u_X7_bitsOf_89, u_X7_bitsOf_92, u_X7_bitsOf_94, u_X7_bitsOf_97, u_X7_bitsOf_98, u_X7_bitsOf_101, u_X7_bitsOf_103, cv, n1l, x7, y7, bt_7 n64 c1, if_false, xcat_d, xcat_l, xgo_some, xgo_none, xgoI_none, xcat_n, xcat_i, xcat_r, xcat_z, List.length_nil, List.length_cons, List.getD_cons_zero, List.getD_cons_succ, List.set_cons_zero, List.set_cons_succ, Nat.zero_le, Nat.reduceAdd, Nat.reduceLeDiff, Nat.reduceEqDiff, reduceIte]
    · rw [e_X8_bitsOf]
      simp only [u_X8_bitsOf_0, u_X8_bitsOf_1, u_X8_bitsOf_2, u_X8_bitsOf_3, u_X8_bitsOf_6, u_X8_bitsOf_7, u_X8_bitsOf_8, u_X8_bitsOf_11, u_X8_bitsOf_12, u_X8_bitsOf_13, u_X8_bitsOf_14, u_X8_bitsOf_15, u_X8_bitsOf_18, u_X8_bitsOf_19, u_X8_bitsOf_20, u_X8_bitsOf_23, u_X8_bitsOf_24, u_X8_bitsOf_28, u_X8_bitsOf_29, u_X8_bitsOf_30, u_X8_bitsOf_33, u_X8_bitsOf_35, u_X8_bitsOf_38, u_X8_bitsOf_39, u_X8_bitsOf_41, u_X8_bitsOf_42, u_X8_bitsOf_43, u_X8_bitsOf_44, u_X8_bitsOf_45, u_X8_bitsOf_50, u_X8_bitsOf_53, u_X8_bitsOf_54, u_X8_bitsOf_57, u_X8_bitsOf_59, u_X8_bitsOf_62, u_X8_bitsOf_63, u_X8_bitsOf_65, u_X8_bitsOf_66, u_X8_bitsOf_67, u_X8_bitsOf_68, u_X8_bitsOf_69, u_X8_bitsOf_72, u_X8_bitsOf_73, u_X8_bitsOf_76, u_X8_bitsOf_77, u_X8_bitsOf_79, u_X8_bitsOf_80, u_X8_bitsOf_81, u_X8_bitsOf_84, u_X8_bitsOf_85, u_X8_bitsOf_86, u_X8_bitsOf_87, u_X8_bitsOf_89, u_X8_bitsOf_90, u_X8_bitsOf_91, u_X8_bitsOf_92, u_X8_bitsOf_95, u_X8_bitsOf_97, u_X8_bitsOf_100, u_X8_bitsOf_101, u_X8_bitsOf_104, u_X8_bitsOf_106, cv, n10, n1l, if_false, xcat_d, xcat_l, xgo_some, xgo_none, xgoI_none, xcat_n, xcat_i, xcat_r, xcat_z, List.length_nil, List.length_cons, List.getD_cons_zero, List.getD_cons_succ, List.set_cons_zero, List.set_cons_succ, Nat.zero_le, Nat.reduceAdd, Nat.reduceLeDiff, Nat.reduceEqDiff, reduceIte]
      rw [show (1023 : Int64) = lN (1023 - 0) from rfl, b8 h v, u_X8_bitsOf_48]
      simp only [u_X8_bitsOf_0, u_X8_bitsOf_1, u_X8_bitsOf_2, u_X8_bitsOf_3, u_X8_bitsOf_6, u_X8_bitsOf_7, u_X8_bitsOf_8, u_X8_bitsOf_11, u_X8_bitsOf_12, u_X8_bitsOf_13, u_X8_bitsOf_14, u_X8_bitsOf_15, u_X8_bitsOf_18, u_X8_bitsOf_19, u_X8_bitsOf_20, u_X8_bitsOf_23, u_X8_bitsOf_24, u_X8_bitsOf_28, u_X8_bitsOf_29, u_X8_bitsOf_30, u_X8_bitsOf_33, u_X8_bitsOf_35, u_X8_bitsOf_38, u_X8_bitsOf_39, u_X8_bitsOf_41, u_X8_bitsOf_42, u_X8_bitsOf_43, u_X8_bitsOf_44, u_X8_bitsOf_45, u_X8_bitsOf_50, u_X8_bitsOf_53, u_X8_bitsOf_54, u_X8_bitsOf_57, u_X8_bitsOf_59, u_X8_bitsOf_62, u_X8_bitsOf_63, u_X8_bitsOf_65, u_X8_bitsOf_66, u_X8_bitsOf_67, u_X8_bitsOf_68, u_X8_bitsOf_69, u_X8_bitsOf_72, u_X8_bitsOf_73, u_X8_bitsOf_76, u_X8_bitsOf_77, u_X8_bitsOf_79, u_X8_bitsOf_80, u_X8_bitsOf_81, u_X8_bitsOf_84, u_X8_bitsOf_85, u_X8_bitsOf_86, u_X8_bitsOf_87, u_X8_bitsOf_89, u_X8_bitsOf_90, u_X8_bitsOf_91, u_X8_bitsOf_92, u_X8_bitsOf_95, u_X8_bitsOf_97, u_X8_bitsOf_100, u_X8_bitsOf_101, u_X8_bitsOf_104, u_X8_bitsOf_106, cv, n1l, g8, x8, x9, y8, bt_8, if_true, if_false, xcat_d, xcat_l, xgo_some, xgo_none, xgoI_none, xcat_n, xcat_i, xcat_r, xcat_z, List.length_nil, List.length_cons, List.getD_cons_zero, List.getD_cons_succ, List.set_cons_zero, List.set_cons_succ, Nat.zero_le, Nat.reduceAdd, Nat.reduceLeDiff, Nat.reduceEqDiff, reduceIte]
  · rw [if_pos (by omega)] at cv
    have zm : FP.Core.zval FP.Core.b64 (FP.Core.val64 v) = FP.Core.signed (FP.Core.sgn (FP.Core.val64 v)) (FP.Core.zmag FP.Core.b64 (FP.Core.val64 v)) := rfl
    have hs : FP.Core.sgn (FP.Core.val64 v) = true := by
      cases hb : FP.Core.sgn (FP.Core.val64 v) with
      | true => rfl
      | false =>
        rw [hb] at zm
        have zm : FP.Core.zval FP.Core.b64 (FP.Core.val64 v) = ((FP.Core.zmag FP.Core.b64 (FP.Core.val64 v) : Nat) : Int) := zm
        omega
    rw [hs] at zm
    have zm : FP.Core.zval FP.Core.b64 (FP.Core.val64 v) = -((FP.Core.zmag FP.Core.b64 (FP.Core.val64 v) : Nat) : Int) := zm
    obtain ⟨s, c, n, ev, n64, c1, c2⟩ := fp_nf hn (by omega) (by omega)
    rw [ev] at hs
    have hs : s = true := hs
    subst hs
    have en : FP.Core.val64 (FP.dneg v) = .fin false c (-52 - (n : Int)) := by
      rw [FP.val64_dneg, ev]; rfl
    obtain ⟨r7, a7, b7⟩ := lp_b7 c1 c2 n 0 _ en (by omega)
    obtain ⟨r8, a8, b8⟩ := lp_b8 c1 c2 n 0 _ en (by omega)
    rw [Nat.zero_add] at b7 b8
    have x7 := xnn_fin ⟨_, _, _, fp_d1 a7 c1 c2⟩
    have y7 := fp_l1 a7 c1 c2
    obtain ⟨⟨_, _, _, x8⟩, y8, ⟨_, _, _, x9⟩⟩ := fp_d2 a8 c1 c2
    have x8 := xnn_fin ⟨_, _, _, x8⟩
    have x9 := xnn_fin ⟨_, _, _, x9⟩
    have g8 := (fp_b0 a8 c1 c2).2
    refine ⟨lN (btN n c) + (-9223372036854775808), fun h => ?_, fun h => ?_⟩
    · rw [e_X7_bitsOf]
      simp only [u_X7_bitsOf_0, u_X7_bitsOf_1, u_X7_bitsOf_2, u_X7_bitsOf_3, u_X7_bitsOf_6, u_X7_bitsOf_7, u_X7_bitsOf_8, u_X7_bitsOf_9, u_X7_bitsOf_10, u_X7_bitsOf_11, u_X7_bitsOf_14, u_X7_bitsOf_15, u_X7_bitsOf_16, u_X7_bitsOf_19, u_X7_bitsOf_20, u_X7_bitsOf_21, u_X7_bitsOf_24, u_X7_bitsOf_26, u_X7_bitsOf_27, u_X7_bitsOf_31, u_X7_bitsOf_33, u_X7_bitsOf_36, u_X7_bitsOf_37, u_X7_bitsOf_38, u_X7_bitsOf_39, u_X7_bitsOf_42, u_X7_bitsOf_43, u_X7_bitsOf_46, u_X7_bitsOf_47, u_X7_bitsOf_48, u_X7_bitsOf_50, u_X7_bitsOf_51, u_X7_bitsOf_52, u_X7_bitsOf_54, u_X7_bitsOf_57, u_X7_bitsOf_63, u_X7_bitsOf_65, u_X7_bitsOf_66, u_X7_bitsOf_68, u_X7_bitsOf_69, u_X7_bitsOf_70, u_X7_bitsOf_71, u_X7_bitsOf_73, u_X7_bitsOf_74, u_X7_bitsOf_76, u_X7_bitsOf_78, u_X7_bitsOf_80, u_X7_bitsOf_81, u_X7_bitsOf_83, u_X7_bitsOf_84, u_X7_bitsOf_86, u_X7_bitsOf_87, u_X7_bitsOf_88, u_X7_bitsOf_89, u_X7_bitsOf_92, u_X7_bitsOf_94, u_X7_bitsOf_97, u_X7_bitsOf_98, u_X7_bitsOf_101, u_X7_bitsOf_103, cv, nm0, im1, if_true, if_false, xcat_d, xcat_l, xgo_some, xgo_none, xgoI_none, xcat_n, xcat_i, xcat_r, xcat_z, List.length_nil, List.length_cons, List.getD_cons_zero, List.getD_cons_succ, List.set_cons_zero, List.set_cons_succ, Nat.zero_le, Nat.reduceAdd, Nat.reduceLeDiff, Nat.reduceEqDiff, reduceIte]
      rw [show (0 : Int32) = nI 0 from rfl, show (1023 : Int64) = lN (1023 - 0) from rfl, b7 h v, u_X7_bitsOf_60]
      simp only [u_X7_bitsOf_0, u_X7_bitsOf_1, u_X7_bitsOf_2, u_X7_bitsOf_3, u_X7_bitsOf_6, u_X7_bitsOf_7, u_X7_bitsOf_8, u_X7_bitsOf_9, u_X7_bitsOf_10, u_X7_bitsOf_11, u_X7_bitsOf_14, u_X7_bitsOf_15, u_X7_bitsOf_16, u_X7_bitsOf_19, u_X7_bitsOf_20, u_X7_bitsOf_21, u_X7_bitsOf_24, u_X7_bitsOf_26, u_X7_bitsOf_27, u_X7_bitsOf_31, u_X7_bitsOf_33, u_X7_bitsOf_36, u_X7_bitsOf_37, u_X7_bitsOf_38, u_X7_bitsOf_39, u_X7_bitsOf_42, u_X7_bitsOf_43, u_X7_bitsOf_46, u_X7_bitsOf_47, u_X7_bitsOf_48, u_X7_bitsOf_50, u_X7_bitsOf_51, u_X7_bitsOf_52, u_X7_bitsOf_54, u_X7_bitsOf_57, u_X7_bitsOf_63, u_X7_bitsOf_65, u_X7_bitsOf_66, u_X7_bitsOf_68, u_X7_bitsOf_69, u_X7_bitsOf_70, u_X7_bitsOf_71, u_X7_bitsOf_73, u_X7_bitsOf_74, u_X7_bitsOf_76, u_X7_bitsOf_78, u_X7_bitsOf_80, u_X7_bitsOf_81, u_X7_bitsOf_83, u_X7_bitsOf_84, u_X7_bitsOf_86, u_X7_bitsOf_87, u_X7_bitsOf_88, u_X7_bitsOf_89, u_X7_bitsOf_92, u_X7_bitsOf_94, u_X7_bitsOf_97, u_X7_bitsOf_98, u_X7_bitsOf_101, u_X7_bitsOf_103, cv, im1, x7, y7, bt_7 n64 c1, lor_m (btN_lt c2), if_true, xcat_d, xcat_l, xgo_some, xgo_none, xgoI_none, xcat_n, xcat_i, xcat_r, xcat_z, List.length_nil, List.length_cons, List.getD_cons_zero, List.getD_cons_succ, List.set_cons_zero, List.set_cons_succ, Nat.zero_le, Nat.reduceAdd, Nat.reduceLeDiff, Nat.reduceEqDiff, reduceIte]
    · rw [e_X8_bitsOf]
      simp only [u_X8_bitsOf_0, u_X8_bitsOf_1, u_X8_bitsOf_2, u_X8_bitsOf_3, u_X8_bitsOf_6, u_X8_bitsOf_7, u_X8_bitsOf_8, u_X8_bitsOf_11, u_X8_bitsOf_12, u_X8_bitsOf_13, u_X8_bitsOf_14, u_X8_bitsOf_15, u_X8_bitsOf_18, u_X8_bitsOf_19, u_X8_bitsOf_20, u_X8_bitsOf_23, u_X8_bitsOf_24, u_X8_bitsOf_28, u_X8_bitsOf_29, u_X8_bitsOf_30, u_X8_bitsOf_33, u_X8_bitsOf_35, u_X8_bitsOf_38, u_X8_bitsOf_39, u_X8_bitsOf_41, u_X8_bitsOf_42, u_X8_bitsOf_43, u_X8_bitsOf_44, u_X8_bitsOf_45, u_X8_bitsOf_50, u_X8_bitsOf_53, u_X8_bitsOf_54, u_X8_bitsOf_57, u_X8_bitsOf_59, u_X8_bitsOf_62, u_X8_bitsOf_63, u_X8_bitsOf_65, u_X8_bitsOf_66, u_X8_bitsOf_67, u_X8_bitsOf_68, u_X8_bitsOf_69, u_X8_bitsOf_72, u_X8_bitsOf_73, u_X8_bitsOf_76, u_X8_bitsOf_77, u_X8_bitsOf_79, u_X8_bitsOf_80, u_X8_bitsOf_81, u_X8_bitsOf_84, u_X8_bitsOf_85, u_X8_bitsOf_86, u_X8_bitsOf_87, u_X8_bitsOf_89, u_X8_bitsOf_90, u_X8_bitsOf_91, u_X8_bitsOf_92, u_X8_bitsOf_95, u_X8_bitsOf_97, u_X8_bitsOf_100, u_X8_bitsOf_101, u_X8_bitsOf_104, u_X8_bitsOf_106, cv, nm0, im1, if_true, if_false, xcat_d, xcat_l, xgo_some, xgo_none, xgoI_none, xcat_n, xcat_i, xcat_r, xcat_z, List.length_nil, List.length_cons, List.getD_cons_zero, List.getD_cons_succ, List.set_cons_zero, List.set_cons_succ, Nat.zero_le, Nat.reduceAdd, Nat.reduceLeDiff, Nat.reduceEqDiff, reduceIte]
      rw [show (1023 : Int64) = lN (1023 - 0) from rfl, b8 h v, u_X8_bitsOf_48]
      simp only [u_X8_bitsOf_0, u_X8_bitsOf_1, u_X8_bitsOf_2, u_X8_bitsOf_3, u_X8_bitsOf_6, u_X8_bitsOf_7, u_X8_bitsOf_8, u_X8_bitsOf_11, u_X8_bitsOf_12, u_X8_bitsOf_13, u_X8_bitsOf_14, u_X8_bitsOf_15, u_X8_bitsOf_18, u_X8_bitsOf_19, u_X8_bitsOf_20, u_X8_bitsOf_23, u_X8_bitsOf_24, u_X8_bitsOf_28, u_X8_bitsOf_29, u_X8_bitsOf_30, u_X8_bitsOf_33, u_X8_bitsOf_35, u_X8_bitsOf_38, u_X8_bitsOf_39, u_X8_bitsOf_41, u_X8_bitsOf_42, u_X8_bitsOf_43, u_X8_bitsOf_44, u_X8_bitsOf_45, u_X8_bitsOf_50, u_X8_bitsOf_53, u_X8_bitsOf_54, u_X8_bitsOf_57, u_X8_bitsOf_59, u_X8_bitsOf_62, u_X8_bitsOf_63, u_X8_bitsOf_65, u_X8_bitsOf_66, u_X8_bitsOf_67, u_X8_bitsOf_68, u_X8_bitsOf_69, u_X8_bitsOf_72, u_X8_bitsOf_73, u_X8_bitsOf_76, u_X8_bitsOf_77, u_X8_bitsOf_79, u_X8_bitsOf_80, u_X8_bitsOf_81, u_X8_bitsOf_84, u_X8_bitsOf_85, u_X8_bitsOf_86, u_X8_bitsOf_87, u_X8_bitsOf_89, u_X8_bitsOf_90, u_X8_bitsOf_91, u_X8_bitsOf_92, u_X8_bitsOf_95, u_X8_bitsOf_97, u_X8_bitsOf_100, u_X8_bitsOf_101, u_X8_bitsOf_104, u_X8_bitsOf_106, cv, im1, g8, x8, x9, y8, bt_8, if_true, xcat_d, xcat_l, xgo_some, xgo_none, xgoI_none, xcat_n, xcat_i, xcat_r, xcat_z, List.length_nil, List.length_cons, List.getD_cons_zero, List.getD_cons_succ, List.set_cons_zero, List.set_cons_succ, Nat.zero_le, Nat.reduceAdd, Nat.reduceLeDiff, Nat.reduceEqDiff, reduceIte]
/-- the share of a state -/
theorem fp_ok {X : xS} (k : okS X) : (0 < txF X.2.1.2.2.2 X.1 → okD (szI X) (txF X.2.1.2.2.2 X.1)) ∧ fpS (svX X) := by
  obtain ⟨hl, ⟨d, l, w⟩, pr, us, ho⟩ := k
  have tp := tx_pos w pr hl
  obtain ⟨b1, b2⟩ := lnL_bd w X.1 pr
  have sz := sz_le _ X.1 X.2.1 d l (Nat.le_refl _) w pr us
  have et := txF_ln w X.1 pr
  have hn := namN_le X.2.1.1 16 8
  have hx : ∀ T : Nat, lnL l X.1 = T → 0 < T → ∃ c q, FP.Core.val64 (FP.ddiv (FP.i2d (szI X)) (FP.i2d (nI T))) = .fin false c q ∧ FP.Core.inUnits c q FP.Core.b64.qmin ≤ 2 * FP.Core.one64 := by
    intro T eT hT
    exact fp_quo (s := X.1.length + 2 * namN X.2.1.1 8 16) (by omega) (by omega) hT (by unfold nmC at sz; omega)
  rw [et]
  constructor
  · intro z
    have hT : 0 < lnL l X.1 := by
      apply Nat.pos_of_ne_zero
      intro y
      rw [y] at z
      exact absurd z (by decide)
    obtain ⟨c, q, e1, e2⟩ := hx _ rfl hT
    have hS := fp_sub e1 e2
    refine ⟨xnn_fin ⟨_, _, _, e1⟩, ?_⟩
    rcases hS.2 with y | ⟨y1, y2⟩ | ⟨y1, y2⟩
    · cases hd : FP.Core.val64 (FP.dsub FP.dconst1 (FP.ddiv (FP.i2d (szI X)) (FP.i2d (nI (lnL l X.1))))) with
      | nan => exact absurd hd hS.1
      | inf b =>
        rw [hd] at y
        cases b
        · exact absurd y (by decide +kernel)
        · exact absurd y (by decide +kernel)
      | fin s c q => exact xnn_fin ⟨s, c, q, hd⟩
    · have zm : FP.Core.zmag FP.Core.b64 (FP.Core.val64 (FP.dsub FP.dconst1 (FP.ddiv (FP.i2d (szI X)) (FP.i2d (nI (lnL l X.1)))))) = (FP.Core.zval FP.Core.b64 (FP.Core.val64 (FP.dsub FP.dconst1 (FP.ddiv (FP.i2d (szI X)) (FP.i2d (nI (lnL l X.1))))))).natAbs := by
        unfold FP.Core.zval
        rw [FP.Core.natAbs_signed]
      obtain ⟨s, c, n, ev, -⟩ := fp_nf hS.1 (by omega) (by omega)
      exact xnn_fin ⟨_, _, _, ev⟩
    · have zm : FP.Core.zmag FP.Core.b64 (FP.Core.val64 (FP.dsub FP.dconst1 (FP.ddiv (FP.i2d (szI X)) (FP.i2d (nI (lnL l X.1)))))) = (FP.Core.zval FP.Core.b64 (FP.Core.val64 (FP.dsub FP.dconst1 (FP.ddiv (FP.i2d (szI X)) (FP.i2d (nI (lnL l X.1))))))).natAbs := by
        unfold FP.Core.zval
        rw [FP.Core.natAbs_signed]
      obtain ⟨s, c, n, ev, -⟩ := fp_nf hS.1 (by omega) (by omega)
      exact xnn_fin ⟨_, _, _, ev⟩
  · unfold svX
    rw [et]
    by_cases z : (0 : Int32) < nI (lnL l X.1)
    · rw [if_pos z]
      have hT : 0 < lnL l X.1 := by
        apply Nat.pos_of_ne_zero
        intro y
        rw [y] at z
        exact absurd z (by decide)
      obtain ⟨c, q, e1, e2⟩ := hx _ rfl hT
      exact fp_sub e1 e2
    · rw [if_neg z]
      exact ⟨fn_0, Or.inl fz_0⟩
/-- a share is equal to itself -/
theorem fp_eq {v : UInt64} (h : fpS v) : ∀ o, Op.cmpValue (FP.dcmp v v) o = 0 := by
  intro o
  rw [fp_cv h.1 h.1, if_neg (Int.lt_irrefl _), if_pos rfl]
end FB
