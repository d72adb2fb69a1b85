/-! Doubles: what a share can be. -/
section FP1
def fpP : Nat := 2 ^ 1010
theorem fpP_K : FP.Core.one64 = 2 ^ 64 * fpP := by decide +kernel
theorem fpP_53 : 2 ^ 53 ≤ fpP := by decide +kernel
theorem fpP_lo : 2 ^ 53 * 2 ^ 957 = fpP := by decide +kernel
theorem fpP_hi : FP.Core.one64 < 2 ^ 52 * 2 ^ 1023 := by decide +kernel
theorem fpP_1 : FP.Core.one64 = 2 ^ 52 * 2 ^ 1022 := by decide +kernel
theorem fpP_mi : 2 ^ 53 * 2 ^ 1009 + fpP ≤ FP.Core.one64 := by decide +kernel
theorem fp_q : FP.Core.b64.qmin = -1074 := by decide
theorem fp_1 : FP.Core.val64 FP.dconst1 = .fin false (2 ^ 52) (-52) := by decide +kernel
theorem fp_0 : FP.Core.val64 FP.dconst0 = .fin false 0 (-1074) := by decide +kernel
theorem fp_2 : FP.Core.val64 4611686018427387904 = .fin false (2 ^ 52) (-51) := by decide +kernel
theorem fp_52 : FP.Core.val64 4841369599423283200 = .fin false (2 ^ 52) 0 := by decide +kernel
theorem fp_52l : FP.Core.val64 (FP.l2d 4503599627370496) = .fin false (2 ^ 52) 0 := by decide +kernel
theorem fz_1 : FP.Core.zval FP.Core.b64 (FP.Core.val64 FP.dconst1) = (FP.Core.one64 : Int) := by decide +kernel
theorem fz_0 : FP.Core.zval FP.Core.b64 (FP.Core.val64 FP.dconst0) = 0 := by decide +kernel
theorem fz_m1 : FP.Core.zval FP.Core.b64 (FP.Core.val64 13830554455654793216) = -(FP.Core.one64 : Int) := by decide +kernel
theorem fz_u : FP.Core.zval FP.Core.b64 (FP.Core.val64 4318952042648305664) = (fpP : Int) := by decide +kernel
theorem fz_mu : FP.Core.zval FP.Core.b64 (FP.Core.val64 13542324079503081472) = -(fpP : Int) := by decide +kernel
theorem fz_2 : FP.Core.zval FP.Core.b64 (FP.Core.val64 4611686018427387904) = ((2 * FP.Core.one64 : Nat) : Int) := by decide +kernel
theorem fm_2 : FP.Core.zmag FP.Core.b64 (FP.Core.val64 4611686018427387904) = 2 * FP.Core.one64 := by decide +kernel
theorem f_inf : ¬ FP.Core.b64.tails * 2 ^ (FP.Core.b64.exps - 2) ≤ 2 * FP.Core.one64 := by decide +kernel
theorem fn_1 : FP.Core.val64 FP.dconst1 ≠ .nan := by rw [fp_1]; exact fun z => by cases z
theorem fn_0 : FP.Core.val64 FP.dconst0 ≠ .nan := by rw [fp_0]; exact fun z => by cases z
theorem fn_2 : FP.Core.val64 4611686018427387904 ≠ .nan := by rw [fp_2]; exact fun z => by cases z
theorem fn_of {a : UInt64} (h : FP.Core.zval FP.Core.b64 (FP.Core.val64 a) ≠ 0) : FP.Core.val64 a ≠ .nan := by
  intro z
  rw [z] at h
  exact h rfl
theorem fp_i2d {n : Nat} (h : n < 2 ^ 31) : ∃ c q, FP.Core.val64 (FP.i2d (nI n)) = .fin false c q ∧ FP.Core.inUnits c q FP.Core.b64.qmin = n * FP.Core.one64 := by
  obtain ⟨c, q, e⟩ := FP.Core.l2d_shape ((nI n).toInt64)
  have ei : (nI n).toInt64.toInt = (n : Int) := by rw [Int32.toInt_toInt64, nI_toInt h]
  rw [ei, decide_eq_false (show ¬ (n : Int) < 0 by omega)] at e
  have e2 : FP.Core.val64 (FP.i2d (nI n)) = .fin false c q := by
    show FP.Core.val64 (FP.Core.i2d (nI n)) = _
    rw [FP.Core.i2d_l2d]; exact e
  have z := FP.Core.DInt_zval (FP.Core.i2d_int (nI n))
  have e3 : FP.Core.val64 (FP.Core.i2d (nI n)) = .fin false c q := e2
  rw [e3, nI_toInt h] at z
  have z : ((FP.Core.inUnits c q FP.Core.b64.qmin : Nat) : Int) = (n : Int) * (FP.Core.one64 : Int) := z
  exact ⟨c, q, e2, by exact_mod_cast z⟩
theorem fp_quo {s t : Nat} (hs : s < 2 ^ 31) (ht : t < 2 ^ 31) (t0 : 0 < t) (hst : s ≤ 2 * t) : ∃ c q, FP.Core.val64 (FP.ddiv (FP.i2d (nI s)) (FP.i2d (nI t))) = .fin false c q ∧ FP.Core.inUnits c q FP.Core.b64.qmin ≤ 2 * FP.Core.one64 := by
  obtain ⟨c1, e1, v1, m1⟩ := fp_i2d hs
  obtain ⟨c2, e2, v2, m2⟩ := fp_i2d ht
  have f1 := FP.Core.val64_fits (FP.i2d (nI s))
  have f2 := FP.Core.val64_fits (FP.i2d (nI t))
  rw [v1] at f1
  rw [v2] at f2
  have g1 : FP.Core.b64.qmin ≤ e1 := f1.2.1
  have g2 : FP.Core.b64.qmin ≤ e2 := f2.2.1
  have K0 := FP.Core.one64_pos
  have hc2 : c2 ≠ 0 := by
    intro z
    rw [z] at m2
    unfold FP.Core.inUnits at m2
    rw [Nat.zero_mul] at m2
    have := Nat.mul_pos t0 K0
    omega
  have hv : FP.Core.val64 (FP.ddiv (FP.i2d (nI s)) (FP.i2d (nI t))) = FP.Core.roundRatio FP.Core.b64 false c1 c2 (e1 - e2) := by
    show FP.Core.val64 (FP.Core.ddiv (FP.i2d (nI s)) (FP.i2d (nI t))) = _
    rw [FP.Core.val64_ddiv, v1, v2]
    exact if_neg hc2
  have hq := fp_q
  have hP := FP.Core.pow_qmin64
  have hle := FP.Core.zmag_roundRatio_le (f := FP.Core.b64) FP.Core.good_b64 (s := false) (A := c1) (B := c2) (e := e1 - e2) (e0 := FP.Core.b64.qmin - (e2 - FP.Core.b64.qmin)) (V := FP.Core.val64 4611686018427387904) (Nat.pos_of_ne_zero hc2) (FP.Core.val64_fits _) fn_2 (by omega) (by omega) (by
    rw [fm_2]
    unfold FP.Core.inUnits at m1 m2 ⊢
    have x1 : (e1 - e2 - (FP.Core.b64.qmin - (e2 - FP.Core.b64.qmin))).toNat = (e1 - FP.Core.b64.qmin).toNat + (-FP.Core.b64.qmin).toNat := by omega
    have x2 : (FP.Core.b64.qmin - (FP.Core.b64.qmin - (e2 - FP.Core.b64.qmin))).toNat = (e2 - FP.Core.b64.qmin).toNat := by omega
    rw [x1, x2, Nat.pow_add, ← Nat.mul_assoc, m1, hP]
    rw [show 2 * FP.Core.one64 * 2 ^ (e2 - FP.Core.b64.qmin).toNat * c2 = 2 * FP.Core.one64 * (c2 * 2 ^ (e2 - FP.Core.b64.qmin).toNat) by rw [Nat.mul_assoc, Nat.mul_comm c2], m2]
    generalize FP.Core.one64 = K
    rw [Nat.mul_assoc s K K, show 2 * K * (t * K) = 2 * t * (K * K) by rw [Nat.mul_assoc 2 K, Nat.mul_assoc 2 t, Nat.mul_left_comm K t K]]
    exact Nat.mul_le_mul_right _ hst)
  rw [fm_2, ← hv] at hle
  have hsg : FP.Core.sgn (FP.Core.val64 (FP.ddiv (FP.i2d (nI s)) (FP.i2d (nI t)))) = false := by rw [hv]; exact FP.Core.sgn_roundRatio _ _ _ _ _
  have hnn : FP.Core.val64 (FP.ddiv (FP.i2d (nI s)) (FP.i2d (nI t))) ≠ .nan := by rw [hv]; exact FP.Core.roundRatio_ne_nan _ _ _ _ _
  cases hd : FP.Core.val64 (FP.ddiv (FP.i2d (nI s)) (FP.i2d (nI t))) with
  | nan => exact absurd hd hnn
  | inf b =>
    rw [hd] at hle
    exact absurd hle f_inf
  | fin b c q =>
    rw [hd] at hle hsg
    have hb : b = false := hsg
    subst hb
    exact ⟨c, q, rfl, hle⟩
theorem fz_le {x y V : FP.Core.Datum} (hx : ∃ s c q, x = .fin s c q) (hy : ∃ s c q, y = .fin s c q) (fx : FP.Core.fits FP.Core.b64 x) (fy : FP.Core.fits FP.Core.b64 y) (fV : FP.Core.fits FP.Core.b64 V) (hV : V ≠ .nan) (h : FP.Core.zval FP.Core.b64 x + FP.Core.zval FP.Core.b64 y ≤ FP.Core.zval FP.Core.b64 V) : FP.Core.zval FP.Core.b64 (FP.Core.round FP.Core.b64 (FP.Core.exactSum x y)) ≤ FP.Core.zval FP.Core.b64 V := FP.Core.sum_le FP.Core.good_b64 hx hy fx fy fV hV h
/-- a share: no NaN, not too small, not too great -/
def fpS (v : UInt64) : Prop := FP.Core.val64 v ≠ .nan ∧ (FP.Core.zval FP.Core.b64 (FP.Core.val64 v) = 0 ∨ ((fpP : Int) ≤ FP.Core.zval FP.Core.b64 (FP.Core.val64 v) ∧ FP.Core.zval FP.Core.b64 (FP.Core.val64 v) ≤ (FP.Core.one64 : Int)) ∨ (-(FP.Core.one64 : Int) ≤ FP.Core.zval FP.Core.b64 (FP.Core.val64 v) ∧ FP.Core.zval FP.Core.b64 (FP.Core.val64 v) ≤ -(fpP : Int)))
theorem fp_sub {x : UInt64} {c : Nat} {q : Int} (hx : FP.Core.val64 x = .fin false c q) (hM : FP.Core.inUnits c q FP.Core.b64.qmin ≤ 2 * FP.Core.one64) : fpS (FP.dsub FP.dconst1 x) := by
  have hfx := FP.Core.val64_fits x
  have hv : FP.Core.val64 (FP.dsub FP.dconst1 x) = FP.Core.round FP.Core.b64 (FP.Core.exactSum (FP.Core.val64 FP.dconst1) (FP.Core.negate (FP.Core.val64 x))) := FP.Core.val64_dsub _ _
  have x1 : ∃ s c q, FP.Core.val64 FP.dconst1 = .fin s c q := ⟨_, _, _, fp_1⟩
  have y1 : ∃ s c q, FP.Core.negate (FP.Core.val64 x) = .fin s c q := by rw [hx]; exact ⟨_, _, _, rfl⟩
  have f1 := FP.Core.val64_fits FP.dconst1
  have fy : FP.Core.fits FP.Core.b64 (FP.Core.negate (FP.Core.val64 x)) := FP.Core.negate_fits hfx
  obtain ⟨M, eM⟩ : ∃ M, M = FP.Core.inUnits c q FP.Core.b64.qmin := ⟨_, rfl⟩
  have zy : FP.Core.zval FP.Core.b64 (FP.Core.negate (FP.Core.val64 x)) = -(M : Int) := by
    rw [FP.Core.zval_negate, hx, eM]; rfl
  rw [← eM] at hM
  have UP : ∀ V : UInt64, FP.Core.val64 V ≠ .nan → (FP.Core.one64 : Int) - (M : Int) ≤ FP.Core.zval FP.Core.b64 (FP.Core.val64 V) → FP.Core.zval FP.Core.b64 (FP.Core.val64 (FP.dsub FP.dconst1 x)) ≤ FP.Core.zval FP.Core.b64 (FP.Core.val64 V) := by
    intro V hV hz
    rw [hv]
    exact FP.Core.sum_le FP.Core.good_b64 x1 y1 f1 fy (FP.Core.val64_fits V) hV (by rw [fz_1, zy]; omega)
  have DN : ∀ V : UInt64, FP.Core.val64 V ≠ .nan → FP.Core.zval FP.Core.b64 (FP.Core.val64 V) ≤ (FP.Core.one64 : Int) - (M : Int) → FP.Core.zval FP.Core.b64 (FP.Core.val64 V) ≤ FP.Core.zval FP.Core.b64 (FP.Core.val64 (FP.dsub FP.dconst1 x)) := by
    intro V hV hz
    rw [hv]
    exact FP.Core.sum_ge FP.Core.good_b64 x1 y1 f1 fy (FP.Core.val64_fits V) hV (by rw [fz_1, zy]; omega)
  have K0 := FP.Core.one64_pos
  have P0 : 0 < fpP := Nat.lt_of_lt_of_le (by decide) fpP_53
  have a1 := UP FP.dconst1 fn_1 (by rw [fz_1]; omega)
  have a2 := DN 13830554455654793216 (fn_of (by rw [fz_m1]; omega)) (by rw [fz_m1]; omega)
  rw [fz_1] at a1
  rw [fz_m1] at a2
  refine ⟨?_, ?_⟩
  · rw [hv, fp_1, hx]
    exact FP.Core.roundRatio_ne_nan _ _ _ _ _
  · by_cases e : M = FP.Core.one64
    · have b1 := UP FP.dconst0 fn_0 (by rw [fz_0]; omega)
      have b2 := DN FP.dconst0 fn_0 (by rw [fz_0]; omega)
      rw [fz_0] at b1 b2
      exact Or.inl (by omega)
    · by_cases g : M + fpP ≤ FP.Core.one64
      · have b1 := DN 4318952042648305664 (fn_of (by rw [fz_u]; omega)) (by rw [fz_u]; omega)
        rw [fz_u] at b1
        exact Or.inr (Or.inl ⟨b1, a1⟩)
      · by_cases g2 : FP.Core.one64 + fpP ≤ M
        · have b1 := UP 13542324079503081472 (fn_of (by rw [fz_mu]; omega)) (by rw [fz_mu]; omega)
          rw [fz_mu] at b1
          exact Or.inr (Or.inr ⟨a2, b1⟩)
        · exfalso
          have hq := fp_q
          rw [hx] at hfx
          have c53 : c < 2 ^ 53 := hfx.1
          have qm : FP.Core.b64.qmin ≤ q := hfx.2.1
          unfold FP.Core.inUnits at eM
          by_cases h64 : -64 ≤ q
          · have ej : (q - FP.Core.b64.qmin).toNat = (q + 64).toNat + 1010 := by omega
            rw [ej, Nat.pow_add, ← Nat.mul_assoc] at eM
            have eM : M = c * 2 ^ (q + 64).toNat * fpP := eM
            have eK := fpP_K
            generalize c * 2 ^ (q + 64).toNat = w at eM
            by_cases hw : w < 2 ^ 64
            · have := Nat.mul_le_mul_right fpP (show w + 1 ≤ 2 ^ 64 by omega)
              rw [Nat.add_mul, Nat.one_mul, ← eM, ← eK] at this
              omega
            · by_cases hw2 : w = 2 ^ 64
              · rw [hw2, ← eK] at eM
                exact e eM
              · have := Nat.mul_le_mul_right fpP (show 2 ^ 64 + 1 ≤ w by omega)
                rw [Nat.add_mul, Nat.one_mul, ← eM, ← eK] at this
                omega
          · have ej : (q - FP.Core.b64.qmin).toNat ≤ 1009 := by omega
            have h1 : c * 2 ^ (q - FP.Core.b64.qmin).toNat ≤ 2 ^ 53 * 2 ^ 1009 := Nat.mul_le_mul (by omega) (Nat.pow_le_pow_right (by decide) ej)
            have h2 := fpP_mi
            rw [← eM] at h1
            omega
/-- in its normal form -/
theorem fp_nf {v : UInt64} (hn : FP.Core.val64 v ≠ .nan) (h1 : fpP ≤ FP.Core.zmag FP.Core.b64 (FP.Core.val64 v)) (h2 : FP.Core.zmag FP.Core.b64 (FP.Core.val64 v) ≤ FP.Core.one64) : ∃ (s : Bool) (c n : Nat), FP.Core.val64 v = .fin s c (-52 - (n : Int)) ∧ n ≤ 64 ∧ 2 ^ 52 ≤ c ∧ c < 2 ^ 53 := by
  have hf := FP.Core.val64_fits v
  have K0 := FP.Core.one64_pos
  cases hd : FP.Core.val64 v with
  | nan => exact absurd hd hn
  | inf b =>
    rw [hd] at h2
    have h2 : FP.Core.b64.tails * 2 ^ (FP.Core.b64.exps - 2) ≤ FP.Core.one64 := h2
    exact absurd (Nat.le_trans h2 (by omega)) f_inf
  | fin b c q =>
    rw [hd] at h1 h2 hf
    have c53 : c < 2 ^ 53 := hf.1
    have qm : FP.Core.b64.qmin ≤ q := hf.2.1
    have hc : q = FP.Core.b64.qmin ∨ 2 ^ 52 ≤ c := hf.2.2.2
    have h1 : fpP ≤ c * 2 ^ (q - FP.Core.b64.qmin).toNat := h1
    have h2 : c * 2 ^ (q - FP.Core.b64.qmin).toNat ≤ FP.Core.one64 := h2
    have hq := fp_q
    have c52 : 2 ^ 52 ≤ c := by
      rcases hc with z | z
      · rw [z, Int.sub_self] at h1
        have h1 : fpP ≤ c * 2 ^ 0 := h1
        rw [Nat.pow_zero, Nat.mul_one] at h1
        have := fpP_53
        omega
      · exact z
    have q52 : q ≤ -52 := by
      apply Int.not_lt.mp
      intro z
      have h3 : 2 ^ 52 * 2 ^ 1023 ≤ c * 2 ^ (q - FP.Core.b64.qmin).toNat := Nat.mul_le_mul c52 (Nat.pow_le_pow_right (by decide) (by omega))
      exact absurd (Nat.le_trans h3 h2) (Nat.not_le.mpr fpP_hi)
    have q116 : -116 ≤ q := by
      apply Int.not_lt.mp
      intro z
      have h3 : c * 2 ^ (q - FP.Core.b64.qmin).toNat < 2 ^ 53 * 2 ^ (q - FP.Core.b64.qmin).toNat := Nat.mul_lt_mul_of_pos_right c53 (Nat.two_pow_pos _)
      have h4 : 2 ^ 53 * 2 ^ (q - FP.Core.b64.qmin).toNat ≤ 2 ^ 53 * 2 ^ 957 := Nat.mul_le_mul_left _ (Nat.pow_le_pow_right (by decide) (by omega))
      rw [fpP_lo] at h4
      exact absurd (Nat.lt_of_le_of_lt h1 (Nat.lt_of_lt_of_le h3 h4)) (Nat.lt_irrefl _)
    exact ⟨b, c, (-52 - q).toNat, by rw [show (-52 - ((-52 - q).toNat : Int)) = q by omega], by omega, c52, c53⟩
theorem fp_mul2 {a : UInt64} {c : Nat} {q : Int} (ha : FP.Core.val64 a = .fin false c q) (c1 : 2 ^ 52 ≤ c) (c2 : c < 2 ^ 53) (q1 : -1074 ≤ q) (q2 : q < 0) : FP.Core.val64 (FP.dmul a 4611686018427387904) = .fin false c (q + 1) := by
  show FP.Core.val64 (FP.Core.dmul a 4611686018427387904) = _
  rw [FP.Core.val64_dmul, ha, fp_2]
  show FP.Core.roundRatio FP.Core.b64 false (c * 2 ^ 52) 1 (q + -51) = _
  refine FP.Core.roundRatio_exact FP.Core.good_b64 (by decide) ⟨c2, by rw [fp_q]; omega, ?_, Or.inr c1⟩ ?_
  · show q + 1 ≤ (971 : Int)
    omega
  · rw [show (q + -51 - (q + 1)).toNat = 0 by omega, show (q + 1 - (q + -51)).toNat = 52 by omega, Nat.pow_zero, Nat.mul_one, Nat.mul_one]
/-- the last steps: the fraction's digits -/
theorem fp_d1 {a : UInt64} {c : Nat} (ha : FP.Core.val64 a = .fin false c (-52)) (c1 : 2 ^ 52 ≤ c) (c2 : c < 2 ^ 53) : FP.Core.val64 (FP.dmul a (FP.l2d 4503599627370496)) = .fin false c 0 := by
  show FP.Core.val64 (FP.Core.dmul a (FP.l2d 4503599627370496)) = _
  rw [FP.Core.val64_dmul, ha, fp_52l]
  show FP.Core.roundRatio FP.Core.b64 false (c * 2 ^ 52) 1 (-52 + 0) = _
  exact FP.Core.roundRatio_exact FP.Core.good_b64 (by decide) ⟨c2, by rw [fp_q]; decide, show (0 : Int) ≤ 971 by decide, Or.inr c1⟩ (by
    rw [show ((-52 : Int) + 0 - 0).toNat = 0 by decide, show ((0 : Int) - (-52 + 0)).toNat = 52 by decide, Nat.pow_zero, Nat.mul_one, Nat.mul_one])
theorem lN_53 {n : Nat} (h : n < 2 ^ 63) : (lN n).toInt = (n : Int) := lg_ofNat_toInt h
theorem fp_l1 {a : UInt64} {c : Nat} (ha : FP.Core.val64 a = .fin false c (-52)) (c1 : 2 ^ 52 ≤ c) (c2 : c < 2 ^ 53) : FP.d2l (FP.dmul a (FP.l2d 4503599627370496)) = lN c := by
  refine FP.Core.d2l_int ?_
  unfold FP.Core.DInt
  have e := fp_d1 ha c1 c2
  rw [show FP.Core.val64 (FP.dmul a (FP.l2d 4503599627370496)) = .fin false c 0 from e, lN_53 (by omega)]
  show ((c * 2 ^ 0 : Nat) : Int) = (c : Int) * ((2 ^ 0 : Nat) : Int)
  rw [Nat.pow_zero, Nat.mul_one]
  exact (Int.mul_one _).symm
theorem fp_sc {x : Nat} (h0 : 0 < x) (h1 : x < 2 ^ 52) : ∃ k, k ≤ 52 ∧ 2 ^ 52 ≤ x * 2 ^ k ∧ x * 2 ^ k < 2 ^ 53 := by
  have hl := Nat.log2_self_le (show x ≠ 0 by omega)
  have hu := Nat.lt_log2_self (n := x)
  have h52 : x.log2 < 52 := by
    apply Nat.lt_of_not_le
    intro z
    have : 2 ^ 52 ≤ 2 ^ x.log2 := Nat.pow_le_pow_right (by decide) z
    omega
  refine ⟨52 - x.log2, by omega, ?_, ?_⟩
  · have := Nat.mul_le_mul_right (2 ^ (52 - x.log2)) hl
    rw [← Nat.pow_add, show x.log2 + (52 - x.log2) = 52 by omega] at this
    exact this
  · have := Nat.mul_lt_mul_of_pos_right hu (Nat.two_pow_pos (52 - x.log2))
    rw [← Nat.pow_add, show x.log2 + 1 + (52 - x.log2) = 53 by omega] at this
    exact this
theorem fp_d2 {a : UInt64} {c : Nat} (ha : FP.Core.val64 a = .fin false c (-52)) (c1 : 2 ^ 52 ≤ c) (c2 : c < 2 ^ 53) : (∃ s d q, FP.Core.val64 (FP.dsub a FP.dconst1) = .fin s d q) ∧ FP.d2l (FP.dmul (FP.dsub a FP.dconst1) 4841369599423283200) = lN (c - 2 ^ 52) ∧ ∃ s d q, FP.Core.val64 (FP.dmul (FP.dsub a FP.dconst1) 4841369599423283200) = .fin s d q := by
  have hv : FP.Core.val64 (FP.dsub a FP.dconst1) = FP.Core.roundRatio FP.Core.b64 (FP.Core.sumSign false true ((c : Int) + -((2 ^ 52 : Nat) : Int))) ((c : Int) + -((2 ^ 52 : Nat) : Int)).natAbs 1 (-52) := by
    show FP.Core.val64 (FP.Core.dsub a FP.dconst1) = _
    rw [FP.Core.val64_dsub, ha, fp_1]
    show FP.Core.roundRatio FP.Core.b64 (FP.Core.sumSign false true (FP.Core.sumUnits false c (-52) true (2 ^ 52) (-52) (min (-52) (-52)))) (FP.Core.sumUnits false c (-52) true (2 ^ 52) (-52) (min (-52) (-52))).natAbs 1 (min (-52) (-52)) = _
    have e : FP.Core.sumUnits false c (-52) true (2 ^ 52) (-52) (min (-52) (-52)) = (c : Int) + -((2 ^ 52 : Nat) : Int) := by
      unfold FP.Core.sumUnits FP.Core.inUnits FP.Core.signed
      rw [show ((-52 : Int) - min (-52) (-52)).toNat = 0 by decide, Nat.pow_zero, Nat.mul_one, Nat.mul_one, if_neg (by decide), if_pos rfl]
    rw [e]
    rfl
  obtain ⟨x, ex⟩ : ∃ x, x = c - 2 ^ 52 := ⟨_, rfl⟩
  have exI : (c : Int) + -((2 ^ 52 : Nat) : Int) = (x : Int) := by omega
  rw [exI] at hv
  rw [show ((x : Int)).natAbs = x from Int.natAbs_natCast x] at hv
  rw [← ex]
  have hm : FP.Core.val64 (FP.dmul (FP.dsub a FP.dconst1) 4841369599423283200) = FP.Core.round FP.Core.b64 (FP.Core.exactProduct (FP.Core.val64 (FP.dsub a FP.dconst1)) (.fin false (2 ^ 52) 0)) := by
    show FP.Core.val64 (FP.Core.dmul _ 4841369599423283200) = _
    rw [FP.Core.val64_dmul, fp_52]
  by_cases x0 : x = 0
  · rw [x0] at hv
    have hv : FP.Core.val64 (FP.dsub a FP.dconst1) = .fin (FP.Core.sumSign false true ((0 : Nat) : Int)) 0 FP.Core.b64.qmin := hv
    rw [hv] at hm
    have hm : FP.Core.val64 (FP.dmul (FP.dsub a FP.dconst1) 4841369599423283200) = .fin (FP.Core.sumSign false true ((0 : Nat) : Int) != false) 0 FP.Core.b64.qmin := hm.trans (by
      show FP.Core.roundRatio FP.Core.b64 _ (0 * 2 ^ 52) 1 _ = _
      rw [Nat.zero_mul]
      rfl)
    refine ⟨⟨_, _, _, hv⟩, ?_, ⟨_, _, _, hm⟩⟩
    refine FP.Core.d2l_int ?_
    unfold FP.Core.DInt
    rw [hm, x0]
    show FP.Core.signed _ (0 * 2 ^ FP.Core.b64.qmin.toNat) = (lN 0).toInt * _
    rw [Nat.zero_mul, show (lN 0).toInt = 0 by decide, Int.zero_mul]
    exact FP.Core.signed_zero _
  · obtain ⟨k, k52, s1, s2⟩ := fp_sc (show 0 < x by omega) (show x < 2 ^ 52 by omega)
    have hsg : FP.Core.sumSign false true (x : Int) = false := by
      unfold FP.Core.sumSign
      rw [if_neg (by omega), decide_eq_false (by omega)]
    rw [hsg] at hv
    have hv : FP.Core.val64 (FP.dsub a FP.dconst1) = .fin false (x * 2 ^ k) (-52 - (k : Int)) := hv.trans (FP.Core.roundRatio_exact FP.Core.good_b64 (by decide) ⟨s2, by rw [fp_q]; omega, show (-52 - (k : Int)) ≤ 971 by omega, Or.inr s1⟩ (by
      rw [show ((-52 : Int) - (-52 - (k : Int))).toNat = k by omega, show ((-52 - (k : Int)) - (-52)).toNat = 0 by omega, Nat.pow_zero, Nat.mul_one, Nat.mul_one]))
    rw [hv] at hm
    have hm : FP.Core.val64 (FP.dmul (FP.dsub a FP.dconst1) 4841369599423283200) = .fin false (x * 2 ^ k) (-(k : Int)) := hm.trans (by
      show FP.Core.roundRatio FP.Core.b64 false (x * 2 ^ k * 2 ^ 52) 1 (-52 - (k : Int) + 0) = _
      exact FP.Core.roundRatio_exact FP.Core.good_b64 (by decide) ⟨s2, by rw [fp_q]; omega, show (-(k : Int)) ≤ 971 by omega, Or.inr s1⟩ (by
        rw [show (-52 - (k : Int) + 0 - -(k : Int)).toNat = 0 by omega, show (-(k : Int) - (-52 - (k : Int) + 0)).toNat = 52 by omega, Nat.pow_zero, Nat.mul_one, Nat.mul_one]))
    refine ⟨⟨_, _, _, hv⟩, ?_, ⟨_, _, _, hm⟩⟩
    refine FP.Core.d2l_int ?_
    unfold FP.Core.DInt
    rw [hm, lN_53 (by omega)]
    show ((x * 2 ^ k * 2 ^ (-(k : Int)).toNat : Nat) : Int) = (x : Int) * ((2 ^ (- -(k : Int)).toNat : Nat) : Int)
    rw [show (-(k : Int)).toNat = 0 by omega, show (- -(k : Int)).toNat = k by omega, Nat.pow_zero, Nat.mul_one]
    exact Int.natCast_mul _ _
theorem fp_cv {a b : UInt64} (ha : FP.Core.val64 a ≠ .nan) (hb : FP.Core.val64 b ≠ .nan) : ∀ o, Op.cmpValue (FP.dcmp a b) o = if FP.Core.zval FP.Core.b64 (FP.Core.val64 a) < FP.Core.zval FP.Core.b64 (FP.Core.val64 b) then -1 else if FP.Core.zval FP.Core.b64 (FP.Core.val64 a) = FP.Core.zval FP.Core.b64 (FP.Core.val64 b) then 0 else 1 := by
  intro o
  have e : FP.dcmp a b = some (compare (FP.Core.zval FP.Core.b64 (FP.Core.val64 a)) (FP.Core.zval FP.Core.b64 (FP.Core.val64 b))) := FP.Core.dcmp_zval ha hb
  rw [e, FP.Core.compare_ite]
  by_cases h1 : FP.Core.zval FP.Core.b64 (FP.Core.val64 a) < FP.Core.zval FP.Core.b64 (FP.Core.val64 b)
  · rw [if_pos h1, if_pos h1]; rfl
  · rw [if_neg h1, if_neg h1]
    by_cases h2 : FP.Core.zval FP.Core.b64 (FP.Core.val64 a) = FP.Core.zval FP.Core.b64 (FP.Core.val64 b)
    · rw [if_pos h2, if_pos h2]; rfl
    · rw [if_neg h2, if_neg h2]; rfl
theorem xnn_fin {a : UInt64} (h : ∃ s c q, FP.Core.val64 a = .fin s c q) : xnn a = true := by
  have h1 := (FP.Core.fin_bits a).mp h
  unfold xnn
  refine decide_eq_true ?_
  rw [UInt64.le_iff_toNat_le, UInt64.toNat_and]
  have e : (0x7fffffffffffffff : UInt64).toNat = 2 ^ 63 - 1 := by decide
  rw [e, Nat.and_two_pow_sub_one_eq_mod]
  have e2 : (0x7ff0000000000000 : UInt64).toNat = 9218868437227405312 := by decide
  rw [e2]
  omega
end FP1
