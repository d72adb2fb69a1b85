/-! The law: its cases. -/
section LC
variable {b x m o L : Nat} {xs : Nat → Int32} {h : xH} {P : pP} {i : Nat}
/-- what a case comes to -/
def CR (b x m o L : Nat) (xs : Nat → Int32) (h : xH) (i : Nat) (r : Option (xR × xH)) : Prop := ∃ h' P' l5 l6 l7 l8, r = xf 178 1237 [some (.ref b), some (.ref x), some (.ref m), some (.ref o), some (.int (nI i)), l5, l6, l7, l8] [] h' ∧ LI b x m o L xs h' P' ∧ h'.2.2.1 ≤ h.2.2.1 + 1 ∧ h'.2.2.2 ≤ h.2.2.2 + 6
theorem nI_2' (i : Nat) : nI i + 2 = nI (i + 2) := nI_add i 2
theorem cdA_0 : ∀ e, cdA e ≠ 0 := by
  intro e
  unfold cdA
  split
  · decide
  · decide
theorem cdB_0 : ∀ e, cdB e ≠ 0 := by
  intro e
  unfold cdB
  split
  · decide
  · decide
theorem C_grow (hb : b < x) (hm : x + 139 ≤ m) (hmo : m + 10 ≤ o) (I : LI b x m o L xs h P) (hi : i + 2 < L) (hL : L ≤ 1536) (l5 l6 l7 l8 : Option Value) : CR b x m o L xs h i (xf 178 152 [some (.ref b), some (.ref x), some (.ref m), some (.ref o), some (.int (nI i)), l5, l6, l7, l8] [] h) := by
  obtain ⟨q, ⟨t, p⟩, k, ⟨g, ho⟩, hs⟩ := I
  obtain ⟨hl, ⟨d, l, w⟩, pr, us, e, e2, e9, eo⟩ := k.1
  have hR := rPr_ok pr
  have ha : 0 < P.1.2.2.1 := by rw [eo, ← nI_0]; exact nI_lt (by omega) (by omega)
  obtain ⟨c, n, h1, h2, P', a1, a2, a3, a4, a5, a6, a7, a8, a9, a10⟩ := LI_w (cd := cdB) hb hm hmo q p k ho hs (W_grow q ho (by omega) (P_grow q) (fun _ z => ex_grow z)) (F := fun h1 => xev 117 [.ref m] h1) (fun h1 p => M_grow p) (fun _ _ z => ok_grow k z) (fun e _ => cdB_0 e)
  have s0 := xa3_is hs
  refine ⟨h2, P', some (.int c), some (.int n), l7, l8, ?_, a8, a9, a10⟩
  by_cases hc : c = 0
  · obtain ⟨g2, y1, y2⟩ := a7 hc
    subst hc
    simp only [u_L_law_152, u_L_law_153, u_L_law_154, u_L_law_157, u_L_law_159, u_L_law_160, u_L_law_163, u_L_law_165, u_L_law_166, u_L_law_169, u_L_law_171, u_L_law_174, u_L_law_175, u_L_law_176, u_L_law_178, u_L_law_181, u_L_law_182, u_L_law_183, u_L_law_184, u_L_law_186, u_L_law_187, u_L_law_188, u_L_law_191, u_L_law_192, u_L_law_193, a1, a2, a4, a5, a6, y1, x01l, c00, y2, eq_self, if_true, xgo_some, xgo_none, xgoI_none, xcat_n, xcat_i, xcat_r, xcat_z, List.length_nil, List.length_cons, List.getD_cons_zero, List.getD_cons_succ, List.set_cons_zero, List.set_cons_succ, Nat.zero_le, Nat.reduceAdd, Nat.reduceLeDiff, Nat.reduceEqDiff, reduceIte]
  · simp only [u_L_law_152, u_L_law_153, u_L_law_154, u_L_law_157, u_L_law_159, u_L_law_160, u_L_law_163, u_L_law_165, u_L_law_166, u_L_law_169, u_L_law_171, u_L_law_174, u_L_law_175, u_L_law_176, u_L_law_178, u_L_law_181, u_L_law_182, u_L_law_183, u_L_law_184, u_L_law_186, u_L_law_187, u_L_law_188, u_L_law_191, u_L_law_192, u_L_law_193, a1, a2, a4, a5, a6, hc, eq_self, if_true, if_false, xgo_some, xgo_none, xgoI_none, xcat_n, xcat_i, xcat_r, xcat_z, List.length_nil, List.length_cons, List.getD_cons_zero, List.getD_cons_succ, List.set_cons_zero, List.set_cons_succ, Nat.zero_le, Nat.reduceAdd, Nat.reduceLeDiff, Nat.reduceEqDiff, reduceIte]
theorem C_add (hb : b < x) (hm : x + 139 ≤ m) (hmo : m + 10 ≤ o) (I : LI b x m o L xs h P) (hi : i + 2 < L) (hL : L ≤ 1536) (l5 l6 l7 l8 : Option Value) : CR b x m o L xs h i (xf 178 196 [some (.ref b), some (.ref x), some (.ref m), some (.ref o), some (.int (nI i)), l5, l6, l7, l8] [] h) := by
  obtain ⟨q, ⟨t, p⟩, k, ⟨g, ho⟩, hs⟩ := I
  obtain ⟨hl, ⟨d, l, w⟩, pr, us, e, e2, e9, eo⟩ := k.1
  have hR := rPr_ok pr
  have ha : 0 < P.1.2.2.1 := by rw [eo, ← nI_0]; exact nI_lt (by omega) (by omega)
  obtain ⟨c, n, h1, h2, P', a1, a2, a3, a4, a5, a6, a7, a8, a9, a10⟩ := LI_w (cd := cdA) hb hm hmo q p k ho hs (W_add q ho (by omega) (xs (i + 1)) (P_add q (xs (i + 1))) (fun _ z => ex_add z)) (F := fun h1 => xev 118 [.ref m, .int (xs (i + 1))] h1) (fun h1 p => M_add p (xs (i + 1))) (fun _ _ z => ok_add k z) (fun e _ => cdA_0 e)
  have s0 := xa3_is hs
  have x1 : xix (nI (i + 1)) L := xix_nI (by omega) (by omega)
  have c1 := nI_clamp (show i + 1 < 2 ^ 31 by omega)
  refine ⟨h2, P', some (.int c), some (.int n), l7, l8, ?_, a8, a9, a10⟩
  by_cases hc : c = 0
  · obtain ⟨g2, y1, y2⟩ := a7 hc
    subst hc
    simp only [u_L_law_196, u_L_law_197, u_L_law_198, u_L_law_200, u_L_law_201, u_L_law_202, u_L_law_203, u_L_law_204, u_L_law_207, u_L_law_209, u_L_law_210, u_L_law_211, u_L_law_213, u_L_law_214, u_L_law_215, u_L_law_216, u_L_law_219, u_L_law_221, u_L_law_222, u_L_law_225, u_L_law_227, u_L_law_230, u_L_law_231, u_L_law_232, u_L_law_234, u_L_law_237, u_L_law_238, u_L_law_239, u_L_law_240, u_L_law_242, u_L_law_243, u_L_law_244, u_L_law_247, u_L_law_248, u_L_law_249, s0, nI_of1, x1, c1, a3, a1, a2, a4, a5, a6, y1, x01l, c00, y2, eq_self, if_true, xgo_some, xgo_none, xgoI_none, xcat_n, xcat_i, xcat_r, xcat_z, List.length_nil, List.length_cons, List.getD_cons_zero, List.getD_cons_succ, List.set_cons_zero, List.set_cons_succ, Nat.zero_le, Nat.reduceAdd, Nat.reduceLeDiff, Nat.reduceEqDiff, reduceIte]
  · simp only [u_L_law_196, u_L_law_197, u_L_law_198, u_L_law_200, u_L_law_201, u_L_law_202, u_L_law_203, u_L_law_204, u_L_law_207, u_L_law_209, u_L_law_210, u_L_law_211, u_L_law_213, u_L_law_214, u_L_law_215, u_L_law_216, u_L_law_219, u_L_law_221, u_L_law_222, u_L_law_225, u_L_law_227, u_L_law_230, u_L_law_231, u_L_law_232, u_L_law_234, u_L_law_237, u_L_law_238, u_L_law_239, u_L_law_240, u_L_law_242, u_L_law_243, u_L_law_244, u_L_law_247, u_L_law_248, u_L_law_249, s0, nI_of1, x1, c1, a3, a1, a2, a4, a5, a6, hc, eq_self, if_true, if_false, xgo_some, xgo_none, xgoI_none, xcat_n, xcat_i, xcat_r, xcat_z, List.length_nil, List.length_cons, List.getD_cons_zero, List.getD_cons_succ, List.set_cons_zero, List.set_cons_succ, Nat.zero_le, Nat.reduceAdd, Nat.reduceLeDiff, Nat.reduceEqDiff, reduceIte]
theorem C_cut (hb : b < x) (hm : x + 139 ≤ m) (hmo : m + 10 ≤ o) (I : LI b x m o L xs h P) (hi : i + 2 < L) (hL : L ≤ 1536) (l5 l6 l7 l8 : Option Value) : CR b x m o L xs h i (xf 178 252 [some (.ref b), some (.ref x), some (.ref m), some (.ref o), some (.int (nI i)), l5, l6, l7, l8] [] h) := by
  obtain ⟨q, ⟨t, p⟩, k, ⟨g, ho⟩, hs⟩ := I
  obtain ⟨hl, ⟨d, l, w⟩, pr, us, e, e2, e9, eo⟩ := k.1
  have hR := rPr_ok pr
  have ha : 0 < P.1.2.2.1 := by rw [eo, ← nI_0]; exact nI_lt (by omega) (by omega)
  obtain ⟨c, n, h1, h2, P', a1, a2, a3, a4, a5, a6, a7, a8, a9, a10⟩ := LI_w (cd := cdA) hb hm hmo q p k ho hs (W_cut q ho (by omega) (xs (i + 1)) (P_cut q (xs (i + 1))) (fun _ z => ex_cut z)) (F := fun h1 => xev 120 [.ref m, .int (xs (i + 1))] h1) (fun h1 p => M_cut p w.1 (wf_dpt w) (xs (i + 1))) (fun _ _ z => ok_cut k z) (fun e _ => cdA_0 e)
  have s0 := xa3_is hs
  have x1 : xix (nI (i + 1)) L := xix_nI (by omega) (by omega)
  have c1 := nI_clamp (show i + 1 < 2 ^ 31 by omega)
  refine ⟨h2, P', some (.int c), some (.int n), l7, l8, ?_, a8, a9, a10⟩
  by_cases hc : c = 0
  · obtain ⟨g2, y1, y2⟩ := a7 hc
    subst hc
    simp only [u_L_law_252, u_L_law_253, u_L_law_254, u_L_law_256, u_L_law_257, u_L_law_258, u_L_law_259, u_L_law_260, u_L_law_263, u_L_law_265, u_L_law_266, u_L_law_267, u_L_law_269, u_L_law_270, u_L_law_271, u_L_law_272, u_L_law_275, u_L_law_277, u_L_law_278, u_L_law_281, u_L_law_283, u_L_law_286, u_L_law_287, u_L_law_288, u_L_law_290, u_L_law_293, u_L_law_294, u_L_law_295, u_L_law_296, u_L_law_298, u_L_law_299, u_L_law_300, u_L_law_303, u_L_law_304, u_L_law_305, s0, nI_of1, x1, c1, a3, a1, a2, a4, a5, a6, y1, x01l, c00, y2, eq_self, if_true, xgo_some, xgo_none, xgoI_none, xcat_n, xcat_i, xcat_r, xcat_z, List.length_nil, List.length_cons, List.getD_cons_zero, List.getD_cons_succ, List.set_cons_zero, List.set_cons_succ, Nat.zero_le, Nat.reduceAdd, Nat.reduceLeDiff, Nat.reduceEqDiff, reduceIte]
  · simp only [u_L_law_252, u_L_law_253, u_L_law_254, u_L_law_256, u_L_law_257, u_L_law_258, u_L_law_259, u_L_law_260, u_L_law_263, u_L_law_265, u_L_law_266, u_L_law_267, u_L_law_269, u_L_law_270, u_L_law_271, u_L_law_272, u_L_law_275, u_L_law_277, u_L_law_278, u_L_law_281, u_L_law_283, u_L_law_286, u_L_law_287, u_L_law_288, u_L_law_290, u_L_law_293, u_L_law_294, u_L_law_295, u_L_law_296, u_L_law_298, u_L_law_299, u_L_law_300, u_L_law_303, u_L_law_304, u_L_law_305, s0, nI_of1, x1, c1, a3, a1, a2, a4, a5, a6, hc, eq_self, if_true, if_false, xgo_some, xgo_none, xgoI_none, xcat_n, xcat_i, xcat_r, xcat_z, List.length_nil, List.length_cons, List.getD_cons_zero, List.getD_cons_succ, List.set_cons_zero, List.set_cons_succ, Nat.zero_le, Nat.reduceAdd, Nat.reduceLeDiff, Nat.reduceEqDiff, reduceIte]
theorem C_open (hb : b < x) (hm : x + 139 ≤ m) (hmo : m + 10 ≤ o) (I : LI b x m o L xs h P) (hi : i + 2 < L) (hL : L ≤ 1536) (l5 l6 l7 l8 : Option Value) : CR b x m o L xs h i (xf 178 308 [some (.ref b), some (.ref x), some (.ref m), some (.ref o), some (.int (nI i)), l5, l6, l7, l8] [] h) := by
  obtain ⟨q, ⟨t, p⟩, k, ⟨g, ho⟩, hs⟩ := I
  obtain ⟨hl, ⟨d, l, w⟩, pr, us, e, e2, e9, eo⟩ := k.1
  have hR := rPr_ok pr
  have ha : 0 < P.1.2.2.1 := by rw [eo, ← nI_0]; exact nI_lt (by omega) (by omega)
  obtain ⟨c, n, h1, h2, P', a1, a2, a3, a4, a5, a6, a7, a8, a9, a10⟩ := LI_w (cd := cdA) hb hm hmo q p k ho hs (W_open q ho (by omega) (xs (i + 1)) (P_open q hR (xs (i + 1))) (fun _ z => ex_open z)) (F := fun h1 => xev 122 [.ref m, .int (xs (i + 1))] h1) (fun h1 p => M_open p w pr us (xs (i + 1))) (fun _ _ z => ok_open k z) (fun e _ => cdA_0 e)
  have s0 := xa3_is hs
  have x1 : xix (nI (i + 1)) L := xix_nI (by omega) (by omega)
  have c1 := nI_clamp (show i + 1 < 2 ^ 31 by omega)
  refine ⟨h2, P', some (.int c), some (.int n), l7, l8, ?_, a8, a9, a10⟩
  by_cases hc : c = 0
  · obtain ⟨g2, y1, y2⟩ := a7 hc
    subst hc
    simp only [u_L_law_308, u_L_law_309, u_L_law_310, u_L_law_312, u_L_law_313, u_L_law_314, u_L_law_315, u_L_law_316, u_L_law_319, u_L_law_321, u_L_law_322, u_L_law_323, u_L_law_325, u_L_law_326, u_L_law_327, u_L_law_328, u_L_law_331, u_L_law_333, u_L_law_334, u_L_law_337, u_L_law_339, u_L_law_342, u_L_law_343, u_L_law_344, u_L_law_346, u_L_law_349, u_L_law_350, u_L_law_351, u_L_law_352, u_L_law_354, u_L_law_355, u_L_law_356, u_L_law_359, u_L_law_360, u_L_law_361, s0, nI_of1, x1, c1, a3, a1, a2, a4, a5, a6, y1, x01l, c00, y2, eq_self, if_true, xgo_some, xgo_none, xgoI_none, xcat_n, xcat_i, xcat_r, xcat_z, List.length_nil, List.length_cons, List.getD_cons_zero, List.getD_cons_succ, List.set_cons_zero, List.set_cons_succ, Nat.zero_le, Nat.reduceAdd, Nat.reduceLeDiff, Nat.reduceEqDiff, reduceIte]
  · simp only [u_L_law_308, u_L_law_309, u_L_law_310, u_L_law_312, u_L_law_313, u_L_law_314, u_L_law_315, u_L_law_316, u_L_law_319, u_L_law_321, u_L_law_322, u_L_law_323, u_L_law_325, u_L_law_326, u_L_law_327, u_L_law_328, u_L_law_331, u_L_law_333, u_L_law_334, u_L_law_337, u_L_law_339, u_L_law_342, u_L_law_343, u_L_law_344, u_L_law_346, u_L_law_349, u_L_law_350, u_L_law_351, u_L_law_352, u_L_law_354, u_L_law_355, u_L_law_356, u_L_law_359, u_L_law_360, u_L_law_361, s0, nI_of1, x1, c1, a3, a1, a2, a4, a5, a6, hc, eq_self, if_true, if_false, xgo_some, xgo_none, xgoI_none, xcat_n, xcat_i, xcat_r, xcat_z, List.length_nil, List.length_cons, List.getD_cons_zero, List.getD_cons_succ, List.set_cons_zero, List.set_cons_succ, Nat.zero_le, Nat.reduceAdd, Nat.reduceLeDiff, Nat.reduceEqDiff, reduceIte]
theorem C_openAll (hb : b < x) (hm : x + 139 ≤ m) (hmo : m + 10 ≤ o) (I : LI b x m o L xs h P) (hi : i + 2 < L) (hL : L ≤ 1536) (l5 l6 l7 l8 : Option Value) : CR b x m o L xs h i (xf 178 403 [some (.ref b), some (.ref x), some (.ref m), some (.ref o), some (.int (nI i)), l5, l6, l7, l8] [] h) := by
  obtain ⟨q, ⟨t, p⟩, k, ⟨g, ho⟩, hs⟩ := I
  obtain ⟨hl, ⟨d, l, w⟩, pr, us, e, e2, e9, eo⟩ := k.1
  have hR := rPr_ok pr
  have ha : 0 < P.1.2.2.1 := by rw [eo, ← nI_0]; exact nI_lt (by omega) (by omega)
  have h0 : ¬ txF P.1.2.1.2.2.2 P.1.1 < 0 := by
    obtain ⟨b1, b2⟩ := lnL_bd w P.1.1 pr
    rw [txF_ln w P.1.1 pr]
    exact nI_pos (by omega)
  obtain ⟨c, n, h1, h2, P', a1, a2, a3, a4, a5, a6, a7, a8, a9, a10⟩ := LI_w (cd := (fun _ => 1)) hb hm hmo q p k ho hs (W_openAll q ho (by omega) (P_openAll q h0) (fun _ z => ex_openAll z)) (F := fun h1 => xev 131 [.ref m] h1) (fun h1 p => M_openAll p w pr) (fun _ _ z => ok_openAll k z) (fun _ _ => by decide)
  have s0 := xa3_is hs
  refine ⟨h2, P', some (.int c), some (.int n), l7, l8, ?_, a8, a9, a10⟩
  by_cases hc : c = 0
  · obtain ⟨g2, y1, y2⟩ := a7 hc
    subst hc
    simp only [u_L_law_403, u_L_law_404, u_L_law_405, u_L_law_408, u_L_law_410, u_L_law_411, u_L_law_414, u_L_law_416, u_L_law_417, u_L_law_420, u_L_law_422, u_L_law_425, u_L_law_426, u_L_law_427, u_L_law_429, u_L_law_432, u_L_law_433, u_L_law_434, u_L_law_435, u_L_law_437, u_L_law_438, u_L_law_439, u_L_law_442, u_L_law_443, u_L_law_444, a1, a2, a4, a5, a6, y1, x01l, c00, y2, eq_self, if_true, xgo_some, xgo_none, xgoI_none, xcat_n, xcat_i, xcat_r, xcat_z, List.length_nil, List.length_cons, List.getD_cons_zero, List.getD_cons_succ, List.set_cons_zero, List.set_cons_succ, Nat.zero_le, Nat.reduceAdd, Nat.reduceLeDiff, Nat.reduceEqDiff, reduceIte]
  · simp only [u_L_law_403, u_L_law_404, u_L_law_405, u_L_law_408, u_L_law_410, u_L_law_411, u_L_law_414, u_L_law_416, u_L_law_417, u_L_law_420, u_L_law_422, u_L_law_425, u_L_law_426, u_L_law_427, u_L_law_429, u_L_law_432, u_L_law_433, u_L_law_434, u_L_law_435, u_L_law_437, u_L_law_438, u_L_law_439, u_L_law_442, u_L_law_443, u_L_law_444, a1, a2, a4, a5, a6, hc, eq_self, if_true, if_false, xgo_some, xgo_none, xgoI_none, xcat_n, xcat_i, xcat_r, xcat_z, List.length_nil, List.length_cons, List.getD_cons_zero, List.getD_cons_succ, List.set_cons_zero, List.set_cons_succ, Nat.zero_le, Nat.reduceAdd, Nat.reduceLeDiff, Nat.reduceEqDiff, reduceIte]
theorem C_set (hb : b < x) (hm : x + 139 ≤ m) (hmo : m + 10 ≤ o) (I : LI b x m o L xs h P) (hi : i + 2 < L) (hL : L ≤ 1536) (l5 l6 l7 l8 : Option Value) : CR b x m o L xs h i (xf 178 447 [some (.ref b), some (.ref x), some (.ref m), some (.ref o), some (.int (nI i)), l5, l6, l7, l8] [] h) := by
  obtain ⟨q, ⟨t, p⟩, k, ⟨g, ho⟩, hs⟩ := I
  obtain ⟨hl, ⟨d, l, w⟩, pr, us, e, e2, e9, eo⟩ := k.1
  have hR := rPr_ok pr
  have ha : 0 < P.1.2.2.1 := by rw [eo, ← nI_0]; exact nI_lt (by omega) (by omega)
  obtain ⟨c, n, h1, h2, P', a1, a2, a3, a4, a5, a6, a7, a8, a9, a10⟩ := LI_w (cd := cdA) hb hm hmo q p k ho hs (W_set q ho (by omega) (xs (i + 1)) (xs (i + 2)) (P_set q (xs (i + 1)) (xs (i + 2))) (fun _ z => ex_set z)) (F := fun h1 => xev 132 [.ref m, .int (xs (i + 1)), .int (xs (i + 2))] h1) (fun h1 p => M_set p (xs (i + 1)) (xs (i + 2))) (fun _ _ z => ok_set k z) (fun e _ => cdA_0 e)
  have s0 := xa3_is hs
  have x1 : xix (nI (i + 1)) L := xix_nI (by omega) (by omega)
  have c1 := nI_clamp (show i + 1 < 2 ^ 31 by omega)
  have x2 : xix (nI (i + 2)) L := xix_nI (by omega) (by omega)
  have c2 := nI_clamp (show i + 2 < 2 ^ 31 by omega)
  refine ⟨h2, P', some (.int c), some (.int n), l7, l8, ?_, a8, a9, a10⟩
  by_cases hc : c = 0
  · obtain ⟨g2, y1, y2⟩ := a7 hc
    subst hc
    simp only [u_L_law_447, u_L_law_448, u_L_law_449, u_L_law_451, u_L_law_452, u_L_law_453, u_L_law_454, u_L_law_455, u_L_law_457, u_L_law_458, u_L_law_459, u_L_law_460, u_L_law_461, u_L_law_464, u_L_law_466, u_L_law_467, u_L_law_468, u_L_law_470, u_L_law_471, u_L_law_472, u_L_law_473, u_L_law_474, u_L_law_476, u_L_law_477, u_L_law_478, u_L_law_479, u_L_law_482, u_L_law_484, u_L_law_485, u_L_law_488, u_L_law_490, u_L_law_493, u_L_law_494, u_L_law_495, u_L_law_497, u_L_law_500, u_L_law_501, u_L_law_502, u_L_law_503, u_L_law_505, u_L_law_506, u_L_law_507, u_L_law_510, u_L_law_511, u_L_law_512, s0, nI_of1, x1, c1, a3, nI_2', x2, c2, a1, a2, a4, a5, a6, y1, x01l, c00, y2, eq_self, if_true, xgo_some, xgo_none, xgoI_none, xcat_n, xcat_i, xcat_r, xcat_z, List.length_nil, List.length_cons, List.getD_cons_zero, List.getD_cons_succ, List.set_cons_zero, List.set_cons_succ, Nat.zero_le, Nat.reduceAdd, Nat.reduceLeDiff, Nat.reduceEqDiff, reduceIte]
  · simp only [u_L_law_447, u_L_law_448, u_L_law_449, u_L_law_451, u_L_law_452, u_L_law_453, u_L_law_454, u_L_law_455, u_L_law_457, u_L_law_458, u_L_law_459, u_L_law_460, u_L_law_461, u_L_law_464, u_L_law_466, u_L_law_467, u_L_law_468, u_L_law_470, u_L_law_471, u_L_law_472, u_L_law_473, u_L_law_474, u_L_law_476, u_L_law_477, u_L_law_478, u_L_law_479, u_L_law_482, u_L_law_484, u_L_law_485, u_L_law_488, u_L_law_490, u_L_law_493, u_L_law_494, u_L_law_495, u_L_law_497, u_L_law_500, u_L_law_501, u_L_law_502, u_L_law_503, u_L_law_505, u_L_law_506, u_L_law_507, u_L_law_510, u_L_law_511, u_L_law_512, s0, nI_of1, x1, c1, a3, nI_2', x2, c2, a1, a2, a4, a5, a6, hc, eq_self, if_true, if_false, xgo_some, xgo_none, xgoI_none, xcat_n, xcat_i, xcat_r, xcat_z, List.length_nil, List.length_cons, List.getD_cons_zero, List.getD_cons_succ, List.set_cons_zero, List.set_cons_succ, Nat.zero_le, Nat.reduceAdd, Nat.reduceLeDiff, Nat.reduceEqDiff, reduceIte]
theorem C_append (hb : b < x) (hm : x + 139 ≤ m) (hmo : m + 10 ≤ o) (I : LI b x m o L xs h P) (hi : i + 2 < L) (hL : L ≤ 1536) (l5 l6 l7 l8 : Option Value) : CR b x m o L xs h i (xf 178 515 [some (.ref b), some (.ref x), some (.ref m), some (.ref o), some (.int (nI i)), l5, l6, l7, l8] [] h) := by
  obtain ⟨q, ⟨t, p⟩, k, ⟨g, ho⟩, hs⟩ := I
  obtain ⟨hl, ⟨d, l, w⟩, pr, us, e, e2, e9, eo⟩ := k.1
  have hR := rPr_ok pr
  have ha : 0 < P.1.2.2.1 := by rw [eo, ← nI_0]; exact nI_lt (by omega) (by omega)
  obtain ⟨c, n, h1, h2, P', a1, a2, a3, a4, a5, a6, a7, a8, a9, a10⟩ := LI_w (cd := cdB) hb hm hmo q p k ho hs (W_append q ho (by omega) (xs (i + 1)) (P_append q (xs (i + 1))) (fun _ z => ex_append z)) (F := fun h1 => xev 133 [.ref m, .int (xs (i + 1))] h1) (fun h1 p => M_append p (xs (i + 1))) (fun _ _ z => ok_append k z) (fun e _ => cdB_0 e)
  have s0 := xa3_is hs
  have x1 : xix (nI (i + 1)) L := xix_nI (by omega) (by omega)
  have c1 := nI_clamp (show i + 1 < 2 ^ 31 by omega)
  refine ⟨h2, P', some (.int c), some (.int n), l7, l8, ?_, a8, a9, a10⟩
  by_cases hc : c = 0
  · obtain ⟨g2, y1, y2⟩ := a7 hc
    subst hc
    simp only [u_L_law_515, u_L_law_516, u_L_law_517, u_L_law_519, u_L_law_520, u_L_law_521, u_L_law_522, u_L_law_523, u_L_law_526, u_L_law_528, u_L_law_529, u_L_law_530, u_L_law_532, u_L_law_533, u_L_law_534, u_L_law_535, u_L_law_538, u_L_law_540, u_L_law_541, u_L_law_544, u_L_law_546, u_L_law_549, u_L_law_550, u_L_law_551, u_L_law_553, u_L_law_556, u_L_law_557, u_L_law_558, u_L_law_559, u_L_law_561, u_L_law_562, u_L_law_563, u_L_law_566, u_L_law_567, u_L_law_568, s0, nI_of1, x1, c1, a3, a1, a2, a4, a5, a6, y1, x01l, c00, y2, eq_self, if_true, xgo_some, xgo_none, xgoI_none, xcat_n, xcat_i, xcat_r, xcat_z, List.length_nil, List.length_cons, List.getD_cons_zero, List.getD_cons_succ, List.set_cons_zero, List.set_cons_succ, Nat.zero_le, Nat.reduceAdd, Nat.reduceLeDiff, Nat.reduceEqDiff, reduceIte]
  · simp only [u_L_law_515, u_L_law_516, u_L_law_517, u_L_law_519, u_L_law_520, u_L_law_521, u_L_law_522, u_L_law_523, u_L_law_526, u_L_law_528, u_L_law_529, u_L_law_530, u_L_law_532, u_L_law_533, u_L_law_534, u_L_law_535, u_L_law_538, u_L_law_540, u_L_law_541, u_L_law_544, u_L_law_546, u_L_law_549, u_L_law_550, u_L_law_551, u_L_law_553, u_L_law_556, u_L_law_557, u_L_law_558, u_L_law_559, u_L_law_561, u_L_law_562, u_L_law_563, u_L_law_566, u_L_law_567, u_L_law_568, s0, nI_of1, x1, c1, a3, a1, a2, a4, a5, a6, hc, eq_self, if_true, if_false, xgo_some, xgo_none, xgoI_none, xcat_n, xcat_i, xcat_r, xcat_z, List.length_nil, List.length_cons, List.getD_cons_zero, List.getD_cons_succ, List.set_cons_zero, List.set_cons_succ, Nat.zero_le, Nat.reduceAdd, Nat.reduceLeDiff, Nat.reduceEqDiff, reduceIte]
theorem C_undo (hb : b < x) (hm : x + 139 ≤ m) (hmo : m + 10 ≤ o) (I : LI b x m o L xs h P) (hi : i + 2 < L) (hL : L ≤ 1536) (l5 l6 l7 l8 : Option Value) : CR b x m o L xs h i (xf 178 597 [some (.ref b), some (.ref x), some (.ref m), some (.ref o), some (.int (nI i)), l5, l6, l7, l8] [] h) := by
  obtain ⟨q, ⟨t, p⟩, k, ⟨g, ho⟩, hs⟩ := I
  obtain ⟨hl, ⟨d, l, w⟩, pr, us, e, e2, e9, eo⟩ := k.1
  have hR := rPr_ok pr
  have ha : 0 < P.1.2.2.1 := by rw [eo, ← nI_0]; exact nI_lt (by omega) (by omega)
  obtain ⟨c, n, h1, h2, P', a1, a2, a3, a4, a5, a6, a7, a8, a9, a10⟩ := LI_w (cd := (fun _ => 1)) hb hm hmo q p k ho hs (W_undo q ho (by omega) (P_undo q) (fun _ z => ex_undo z)) (F := fun h1 => xev 136 [.ref m] h1) (fun h1 p => M_undo p) (fun _ _ z => ok_undo k z) (fun _ _ => by decide)
  have s0 := xa3_is hs
  refine ⟨h2, P', some (.int c), some (.int n), l7, l8, ?_, a8, a9, a10⟩
  by_cases hc : c = 0
  · obtain ⟨g2, y1, y2⟩ := a7 hc
    subst hc
    simp only [u_L_law_597, u_L_law_598, u_L_law_599, u_L_law_602, u_L_law_604, u_L_law_605, u_L_law_608, u_L_law_610, u_L_law_611, u_L_law_614, u_L_law_616, u_L_law_619, u_L_law_620, u_L_law_621, u_L_law_623, u_L_law_626, u_L_law_627, u_L_law_628, u_L_law_629, u_L_law_631, u_L_law_632, u_L_law_633, u_L_law_636, u_L_law_637, u_L_law_638, a1, a2, a4, a5, a6, y1, x01l, c00, y2, eq_self, if_true, xgo_some, xgo_none, xgoI_none, xcat_n, xcat_i, xcat_r, xcat_z, List.length_nil, List.length_cons, List.getD_cons_zero, List.getD_cons_succ, List.set_cons_zero, List.set_cons_succ, Nat.zero_le, Nat.reduceAdd, Nat.reduceLeDiff, Nat.reduceEqDiff, reduceIte]
  · simp only [u_L_law_597, u_L_law_598, u_L_law_599, u_L_law_602, u_L_law_604, u_L_law_605, u_L_law_608, u_L_law_610, u_L_law_611, u_L_law_614, u_L_law_616, u_L_law_619, u_L_law_620, u_L_law_621, u_L_law_623, u_L_law_626, u_L_law_627, u_L_law_628, u_L_law_629, u_L_law_631, u_L_law_632, u_L_law_633, u_L_law_636, u_L_law_637, u_L_law_638, a1, a2, a4, a5, a6, hc, eq_self, if_true, if_false, xgo_some, xgo_none, xgoI_none, xcat_n, xcat_i, xcat_r, xcat_z, List.length_nil, List.length_cons, List.getD_cons_zero, List.getD_cons_succ, List.set_cons_zero, List.set_cons_succ, Nat.zero_le, Nat.reduceAdd, Nat.reduceLeDiff, Nat.reduceEqDiff, reduceIte]
theorem C_part (hb : b < x) (hm : x + 139 ≤ m) (hmo : m + 10 ≤ o) (I : LI b x m o L xs h P) (hi : i + 2 < L) (hL : L ≤ 1536) (l5 l6 l7 l8 : Option Value) : CR b x m o L xs h i (xf 178 641 [some (.ref b), some (.ref x), some (.ref m), some (.ref o), some (.int (nI i)), l5, l6, l7, l8] [] h) := by
  obtain ⟨q, ⟨t, p⟩, k, ⟨g, ho⟩, hs⟩ := I
  obtain ⟨hl, ⟨d, l, w⟩, pr, us, e, e2, e9, eo⟩ := k.1
  have hR := rPr_ok pr
  have ha : 0 < P.1.2.2.1 := by rw [eo, ← nI_0]; exact nI_lt (by omega) (by omega)
  obtain ⟨c, n, h1, h2, P', a1, a2, a3, a4, a5, a6, a7, a8, a9, a10⟩ := LI_w (cd := cdB) hb hm hmo q p k ho hs (W_part q ho (by omega) (xs (i + 1)) (P_part q (xs (i + 1))) (fun _ z => ex_part z)) (F := fun h1 => xev 137 [.ref m, .int (xs (i + 1))] h1) (fun h1 p => M_part p (xs (i + 1))) (fun _ _ z => ok_part k z) (fun e _ => cdB_0 e)
  have s0 := xa3_is hs
  have x1 : xix (nI (i + 1)) L := xix_nI (by omega) (by omega)
  have c1 := nI_clamp (show i + 1 < 2 ^ 31 by omega)
  refine ⟨h2, P', some (.int c), some (.int n), l7, l8, ?_, a8, a9, a10⟩
  by_cases hc : c = 0
  · obtain ⟨g2, y1, y2⟩ := a7 hc
    subst hc
    simp only [u_L_law_641, u_L_law_642, u_L_law_643, u_L_law_645, u_L_law_646, u_L_law_647, u_L_law_648, u_L_law_649, u_L_law_652, u_L_law_654, u_L_law_655, u_L_law_656, u_L_law_658, u_L_law_659, u_L_law_660, u_L_law_661, u_L_law_664, u_L_law_666, u_L_law_667, u_L_law_670, u_L_law_672, u_L_law_675, u_L_law_676, u_L_law_677, u_L_law_679, u_L_law_682, u_L_law_683, u_L_law_684, u_L_law_685, u_L_law_687, u_L_law_688, u_L_law_689, u_L_law_692, u_L_law_693, u_L_law_694, s0, nI_of1, x1, c1, a3, a1, a2, a4, a5, a6, y1, x01l, c00, y2, eq_self, if_true, xgo_some, xgo_none, xgoI_none, xcat_n, xcat_i, xcat_r, xcat_z, List.length_nil, List.length_cons, List.getD_cons_zero, List.getD_cons_succ, List.set_cons_zero, List.set_cons_succ, Nat.zero_le, Nat.reduceAdd, Nat.reduceLeDiff, Nat.reduceEqDiff, reduceIte]
  · simp only [u_L_law_641, u_L_law_642, u_L_law_643, u_L_law_645, u_L_law_646, u_L_law_647, u_L_law_648, u_L_law_649, u_L_law_652, u_L_law_654, u_L_law_655, u_L_law_656, u_L_law_658, u_L_law_659, u_L_law_660, u_L_law_661, u_L_law_664, u_L_law_666, u_L_law_667, u_L_law_670, u_L_law_672, u_L_law_675, u_L_law_676, u_L_law_677, u_L_law_679, u_L_law_682, u_L_law_683, u_L_law_684, u_L_law_685, u_L_law_687, u_L_law_688, u_L_law_689, u_L_law_692, u_L_law_693, u_L_law_694, s0, nI_of1, x1, c1, a3, a1, a2, a4, a5, a6, hc, eq_self, if_true, if_false, xgo_some, xgo_none, xgoI_none, xcat_n, xcat_i, xcat_r, xcat_z, List.length_nil, List.length_cons, List.getD_cons_zero, List.getD_cons_succ, List.set_cons_zero, List.set_cons_succ, Nat.zero_le, Nat.reduceAdd, Nat.reduceLeDiff, Nat.reduceEqDiff, reduceIte]
theorem C_sign (hb : b < x) (hm : x + 139 ≤ m) (hmo : m + 10 ≤ o) (I : LI b x m o L xs h P) (hi : i + 2 < L) (hL : L ≤ 1536) (l5 l6 l7 l8 : Option Value) : CR b x m o L xs h i (xf 178 697 [some (.ref b), some (.ref x), some (.ref m), some (.ref o), some (.int (nI i)), l5, l6, l7, l8] [] h) := by
  obtain ⟨q, ⟨t, p⟩, k, ⟨g, ho⟩, hs⟩ := I
  obtain ⟨hl, ⟨d, l, w⟩, pr, us, e, e2, e9, eo⟩ := k.1
  have hR := rPr_ok pr
  have ha : 0 < P.1.2.2.1 := by rw [eo, ← nI_0]; exact nI_lt (by omega) (by omega)
  obtain ⟨c, n, h1, h2, P', a1, a2, a3, a4, a5, a6, a7, a8, a9, a10⟩ := LI_w (cd := (fun _ => 1)) hb hm hmo q p k ho hs (W_sign q ho (by omega) (xs (i + 1)) (P_sign q (xs (i + 1))) (fun _ z => ex_sign z)) (F := fun h1 => xev 138 [.ref m, .int (xs (i + 1))] h1) (fun h1 p => M_sign p w pr (xs (i + 1))) (fun _ _ z => ok_sign k z) (fun _ _ => by decide)
  have s0 := xa3_is hs
  have x1 : xix (nI (i + 1)) L := xix_nI (by omega) (by omega)
  have c1 := nI_clamp (show i + 1 < 2 ^ 31 by omega)
  refine ⟨h2, P', some (.int c), some (.int n), l7, l8, ?_, a8, a9, a10⟩
  by_cases hc : c = 0
  · obtain ⟨g2, y1, y2⟩ := a7 hc
    subst hc
    simp only [u_L_law_697, u_L_law_698, u_L_law_699, u_L_law_701, u_L_law_702, u_L_law_703, u_L_law_704, u_L_law_705, u_L_law_708, u_L_law_710, u_L_law_711, u_L_law_712, u_L_law_714, u_L_law_715, u_L_law_716, u_L_law_717, u_L_law_720, u_L_law_722, u_L_law_723, u_L_law_726, u_L_law_728, u_L_law_731, u_L_law_732, u_L_law_733, u_L_law_735, u_L_law_738, u_L_law_739, u_L_law_740, u_L_law_741, u_L_law_743, u_L_law_744, u_L_law_745, u_L_law_748, u_L_law_749, u_L_law_750, s0, nI_of1, x1, c1, a3, a1, a2, a4, a5, a6, y1, x01l, c00, y2, eq_self, if_true, xgo_some, xgo_none, xgoI_none, xcat_n, xcat_i, xcat_r, xcat_z, List.length_nil, List.length_cons, List.getD_cons_zero, List.getD_cons_succ, List.set_cons_zero, List.set_cons_succ, Nat.zero_le, Nat.reduceAdd, Nat.reduceLeDiff, Nat.reduceEqDiff, reduceIte]
  · simp only [u_L_law_697, u_L_law_698, u_L_law_699, u_L_law_701, u_L_law_702, u_L_law_703, u_L_law_704, u_L_law_705, u_L_law_708, u_L_law_710, u_L_law_711, u_L_law_712, u_L_law_714, u_L_law_715, u_L_law_716, u_L_law_717, u_L_law_720, u_L_law_722, u_L_law_723, u_L_law_726, u_L_law_728, u_L_law_731, u_L_law_732, u_L_law_733, u_L_law_735, u_L_law_738, u_L_law_739, u_L_law_740, u_L_law_741, u_L_law_743, u_L_law_744, u_L_law_745, u_L_law_748, u_L_law_749, u_L_law_750, s0, nI_of1, x1, c1, a3, a1, a2, a4, a5, a6, hc, eq_self, if_true, if_false, xgo_some, xgo_none, xgoI_none, xcat_n, xcat_i, xcat_r, xcat_z, List.length_nil, List.length_cons, List.getD_cons_zero, List.getD_cons_succ, List.set_cons_zero, List.set_cons_succ, Nat.zero_le, Nat.reduceAdd, Nat.reduceLeDiff, Nat.reduceEqDiff, reduceIte]
theorem C_about (hb : b < x) (hm : x + 139 ≤ m) (hmo : m + 10 ≤ o) (I : LI b x m o L xs h P) (hi : i + 2 < L) (hL : L ≤ 1536) (l5 l6 l7 l8 : Option Value) : CR b x m o L xs h i (xf 178 753 [some (.ref b), some (.ref x), some (.ref m), some (.ref o), some (.int (nI i)), l5, l6, l7, l8] [] h) := by
  obtain ⟨q, ⟨t, p⟩, k, ⟨g, ho⟩, hs⟩ := I
  obtain ⟨hl, ⟨d, l, w⟩, pr, us, e, e2, e9, eo⟩ := k.1
  have hR := rPr_ok pr
  have ha : 0 < P.1.2.2.1 := by rw [eo, ← nI_0]; exact nI_lt (by omega) (by omega)
  obtain ⟨c, n, h1, h2, P', a1, a2, a3, a4, a5, a6, a7, a8, a9, a10⟩ := LI_w (cd := cdA) hb hm hmo q p k ho hs (W_about q ho (by omega) (xs (i + 1)) (xs (i + 2)) (P_about q (xs (i + 1)) (xs (i + 2))) (fun _ z => ex_about z)) (F := fun h1 => xev 140 [.ref m, .int (xs (i + 1)), .int (xs (i + 2))] h1) (fun h1 p => M_about p w (xs (i + 1)) (xs (i + 2))) (fun _ _ z => ok_about k z) (fun e _ => cdA_0 e)
  have s0 := xa3_is hs
  have x1 : xix (nI (i + 1)) L := xix_nI (by omega) (by omega)
  have c1 := nI_clamp (show i + 1 < 2 ^ 31 by omega)
  have x2 : xix (nI (i + 2)) L := xix_nI (by omega) (by omega)
  have c2 := nI_clamp (show i + 2 < 2 ^ 31 by omega)
  refine ⟨h2, P', some (.int c), some (.int n), l7, l8, ?_, a8, a9, a10⟩
  by_cases hc : c = 0
  · obtain ⟨g2, y1, y2⟩ := a7 hc
    subst hc
    simp only [u_L_law_753, u_L_law_754, u_L_law_755, u_L_law_757, u_L_law_758, u_L_law_759, u_L_law_760, u_L_law_761, u_L_law_763, u_L_law_764, u_L_law_765, u_L_law_766, u_L_law_767, u_L_law_770, u_L_law_772, u_L_law_773, u_L_law_774, u_L_law_776, u_L_law_777, u_L_law_778, u_L_law_779, u_L_law_780, u_L_law_782, u_L_law_783, u_L_law_784, u_L_law_785, u_L_law_788, u_L_law_790, u_L_law_791, u_L_law_794, u_L_law_796, u_L_law_799, u_L_law_800, u_L_law_801, u_L_law_803, u_L_law_806, u_L_law_807, u_L_law_808, u_L_law_809, u_L_law_811, u_L_law_812, u_L_law_813, u_L_law_816, u_L_law_817, u_L_law_818, s0, nI_of1, x1, c1, a3, nI_2', x2, c2, a1, a2, a4, a5, a6, y1, x01l, c00, y2, eq_self, if_true, xgo_some, xgo_none, xgoI_none, xcat_n, xcat_i, xcat_r, xcat_z, List.length_nil, List.length_cons, List.getD_cons_zero, List.getD_cons_succ, List.set_cons_zero, List.set_cons_succ, Nat.zero_le, Nat.reduceAdd, Nat.reduceLeDiff, Nat.reduceEqDiff, reduceIte]
  · simp only [u_L_law_753, u_L_law_754, u_L_law_755, u_L_law_757, u_L_law_758, u_L_law_759, u_L_law_760, u_L_law_761, u_L_law_763, u_L_law_764, u_L_law_765, u_L_law_766, u_L_law_767, u_L_law_770, u_L_law_772, u_L_law_773, u_L_law_774, u_L_law_776, u_L_law_777, u_L_law_778, u_L_law_779, u_L_law_780, u_L_law_782, u_L_law_783, u_L_law_784, u_L_law_785, u_L_law_788, u_L_law_790, u_L_law_791, u_L_law_794, u_L_law_796, u_L_law_799, u_L_law_800, u_L_law_801, u_L_law_803, u_L_law_806, u_L_law_807, u_L_law_808, u_L_law_809, u_L_law_811, u_L_law_812, u_L_law_813, u_L_law_816, u_L_law_817, u_L_law_818, s0, nI_of1, x1, c1, a3, nI_2', x2, c2, a1, a2, a4, a5, a6, hc, eq_self, if_true, if_false, xgo_some, xgo_none, xgoI_none, xcat_n, xcat_i, xcat_r, xcat_z, List.length_nil, List.length_cons, List.getD_cons_zero, List.getD_cons_succ, List.set_cons_zero, List.set_cons_succ, Nat.zero_le, Nat.reduceAdd, Nat.reduceLeDiff, Nat.reduceEqDiff, reduceIte]
theorem C_pair (hb : b < x) (hm : x + 139 ≤ m) (hmo : m + 10 ≤ o) (I : LI b x m o L xs h P) (hi : i + 2 < L) (hL : L ≤ 1536) (l5 l6 l7 l8 : Option Value) : CR b x m o L xs h i (xf 178 821 [some (.ref b), some (.ref x), some (.ref m), some (.ref o), some (.int (nI i)), l5, l6, l7, l8] [] h) := by
  obtain ⟨q, ⟨t, p⟩, k, ⟨g, ho⟩, hs⟩ := I
  obtain ⟨hl, ⟨d, l, w⟩, pr, us, e, e2, e9, eo⟩ := k.1
  have hR := rPr_ok pr
  have ha : 0 < P.1.2.2.1 := by rw [eo, ← nI_0]; exact nI_lt (by omega) (by omega)
  obtain ⟨c, n, h1, h2, P', a1, a2, a3, a4, a5, a6, a7, a8, a9, a10⟩ := LI_w (cd := (fun _ => 1)) hb hm hmo q p k ho hs (W_pair q ho (by omega) (xs (i + 1)) (xs (i + 2)) (P_pair q (xs (i + 1)) (xs (i + 2))) (fun _ z => ex_pair z)) (F := fun h1 => xev 141 [.ref m, .int (xs (i + 1)), .int (xs (i + 2))] h1) (fun h1 p => M_pair p (xs (i + 1)) (xs (i + 2))) (fun _ _ z => ok_pair k z) (fun _ _ => by decide)
  have s0 := xa3_is hs
  have x1 : xix (nI (i + 1)) L := xix_nI (by omega) (by omega)
  have c1 := nI_clamp (show i + 1 < 2 ^ 31 by omega)
  have x2 : xix (nI (i + 2)) L := xix_nI (by omega) (by omega)
  have c2 := nI_clamp (show i + 2 < 2 ^ 31 by omega)
  refine ⟨h2, P', some (.int c), some (.int n), l7, l8, ?_, a8, a9, a10⟩
  by_cases hc : c = 0
  · obtain ⟨g2, y1, y2⟩ := a7 hc
    subst hc
    simp only [u_L_law_821, u_L_law_822, u_L_law_823, u_L_law_825, u_L_law_826, u_L_law_827, u_L_law_828, u_L_law_829, u_L_law_831, u_L_law_832, u_L_law_833, u_L_law_834, u_L_law_835, u_L_law_838, u_L_law_840, u_L_law_841, u_L_law_842, u_L_law_844, u_L_law_845, u_L_law_846, u_L_law_847, u_L_law_848, u_L_law_850, u_L_law_851, u_L_law_852, u_L_law_853, u_L_law_856, u_L_law_858, u_L_law_859, u_L_law_862, u_L_law_864, u_L_law_867, u_L_law_868, u_L_law_869, u_L_law_871, u_L_law_874, u_L_law_875, u_L_law_876, u_L_law_877, u_L_law_879, u_L_law_880, u_L_law_881, u_L_law_884, u_L_law_885, u_L_law_886, s0, nI_of1, x1, c1, a3, nI_2', x2, c2, a1, a2, a4, a5, a6, y1, x01l, c00, y2, eq_self, if_true, xgo_some, xgo_none, xgoI_none, xcat_n, xcat_i, xcat_r, xcat_z, List.length_nil, List.length_cons, List.getD_cons_zero, List.getD_cons_succ, List.set_cons_zero, List.set_cons_succ, Nat.zero_le, Nat.reduceAdd, Nat.reduceLeDiff, Nat.reduceEqDiff, reduceIte]
  · simp only [u_L_law_821, u_L_law_822, u_L_law_823, u_L_law_825, u_L_law_826, u_L_law_827, u_L_law_828, u_L_law_829, u_L_law_831, u_L_law_832, u_L_law_833, u_L_law_834, u_L_law_835, u_L_law_838, u_L_law_840, u_L_law_841, u_L_law_842, u_L_law_844, u_L_law_845, u_L_law_846, u_L_law_847, u_L_law_848, u_L_law_850, u_L_law_851, u_L_law_852, u_L_law_853, u_L_law_856, u_L_law_858, u_L_law_859, u_L_law_862, u_L_law_864, u_L_law_867, u_L_law_868, u_L_law_869, u_L_law_871, u_L_law_874, u_L_law_875, u_L_law_876, u_L_law_877, u_L_law_879, u_L_law_880, u_L_law_881, u_L_law_884, u_L_law_885, u_L_law_886, s0, nI_of1, x1, c1, a3, nI_2', x2, c2, a1, a2, a4, a5, a6, hc, eq_self, if_true, if_false, xgo_some, xgo_none, xgoI_none, xcat_n, xcat_i, xcat_r, xcat_z, List.length_nil, List.length_cons, List.getD_cons_zero, List.getD_cons_succ, List.set_cons_zero, List.set_cons_succ, Nat.zero_le, Nat.reduceAdd, Nat.reduceLeDiff, Nat.reduceEqDiff, reduceIte]
theorem C_next (hb : b < x) (hm : x + 139 ≤ m) (hmo : m + 10 ≤ o) (I : LI b x m o L xs h P) (hi : i + 2 < L) (hL : L ≤ 1536) (l5 l6 l7 l8 : Option Value) : CR b x m o L xs h i (xf 178 889 [some (.ref b), some (.ref x), some (.ref m), some (.ref o), some (.int (nI i)), l5, l6, l7, l8] [] h) := by
  obtain ⟨q, ⟨t, p⟩, k, ⟨g, ho⟩, hs⟩ := I
  obtain ⟨hl, ⟨d, l, w⟩, pr, us, e, e2, e9, eo⟩ := k.1
  have hR := rPr_ok pr
  have ha : 0 < P.1.2.2.1 := by rw [eo, ← nI_0]; exact nI_lt (by omega) (by omega)
  obtain ⟨c, n, h1, h2, P', a1, a2, a3, a4, a5, a6, a7, a8, a9, a10⟩ := LI_w (cd := (fun _ => 1)) hb hm hmo q p k ho hs (W_next q ho (by omega) (xs (i + 1)) (P_next q hR ha (xs (i + 1))) (fun _ z => ex_next z)) (F := fun h1 => xev 143 [.ref m, .int (xs (i + 1))] h1) (fun h1 p => M_next p hR eo (by omega) (by omega) (xs (i + 1))) (fun _ _ z => ok_next k z) (fun _ _ => by decide)
  have s0 := xa3_is hs
  have x1 : xix (nI (i + 1)) L := xix_nI (by omega) (by omega)
  have c1 := nI_clamp (show i + 1 < 2 ^ 31 by omega)
  refine ⟨h2, P', some (.int c), some (.int n), l7, l8, ?_, a8, a9, a10⟩
  by_cases hc : c = 0
  · obtain ⟨g2, y1, y2⟩ := a7 hc
    subst hc
    simp only [u_L_law_889, u_L_law_890, u_L_law_891, u_L_law_893, u_L_law_894, u_L_law_895, u_L_law_896, u_L_law_897, u_L_law_900, u_L_law_902, u_L_law_903, u_L_law_904, u_L_law_906, u_L_law_907, u_L_law_908, u_L_law_909, u_L_law_912, u_L_law_914, u_L_law_915, u_L_law_918, u_L_law_920, u_L_law_923, u_L_law_924, u_L_law_925, u_L_law_927, u_L_law_930, u_L_law_931, u_L_law_932, u_L_law_933, u_L_law_935, u_L_law_936, u_L_law_937, u_L_law_940, u_L_law_941, u_L_law_942, s0, nI_of1, x1, c1, a3, a1, a2, a4, a5, a6, y1, x01l, c00, y2, eq_self, if_true, xgo_some, xgo_none, xgoI_none, xcat_n, xcat_i, xcat_r, xcat_z, List.length_nil, List.length_cons, List.getD_cons_zero, List.getD_cons_succ, List.set_cons_zero, List.set_cons_succ, Nat.zero_le, Nat.reduceAdd, Nat.reduceLeDiff, Nat.reduceEqDiff, reduceIte]
  · simp only [u_L_law_889, u_L_law_890, u_L_law_891, u_L_law_893, u_L_law_894, u_L_law_895, u_L_law_896, u_L_law_897, u_L_law_900, u_L_law_902, u_L_law_903, u_L_law_904, u_L_law_906, u_L_law_907, u_L_law_908, u_L_law_909, u_L_law_912, u_L_law_914, u_L_law_915, u_L_law_918, u_L_law_920, u_L_law_923, u_L_law_924, u_L_law_925, u_L_law_927, u_L_law_930, u_L_law_931, u_L_law_932, u_L_law_933, u_L_law_935, u_L_law_936, u_L_law_937, u_L_law_940, u_L_law_941, u_L_law_942, s0, nI_of1, x1, c1, a3, a1, a2, a4, a5, a6, hc, eq_self, if_true, if_false, xgo_some, xgo_none, xgoI_none, xcat_n, xcat_i, xcat_r, xcat_z, List.length_nil, List.length_cons, List.getD_cons_zero, List.getD_cons_succ, List.set_cons_zero, List.set_cons_succ, Nat.zero_le, Nat.reduceAdd, Nat.reduceLeDiff, Nat.reduceEqDiff, reduceIte]
theorem C_count (hb : b < x) (hm : x + 139 ≤ m) (hmo : m + 10 ≤ o) (I : LI b x m o L xs h P) (hi : i + 2 < L) (hL : L ≤ 1536) (l5 l6 l7 l8 : Option Value) : CR b x m o L xs h i (xf 178 945 [some (.ref b), some (.ref x), some (.ref m), some (.ref o), some (.int (nI i)), l5, l6, l7, l8] [] h) := by
  obtain ⟨q, ⟨t, p⟩, k, ⟨g, ho⟩, hs⟩ := I
  obtain ⟨hl, ⟨d, l, w⟩, pr, us, e, e2, e9, eo⟩ := k.1
  have hR := rPr_ok pr
  have ha : 0 < P.1.2.2.1 := by rw [eo, ← nI_0]; exact nI_lt (by omega) (by omega)
  obtain ⟨c, n, h1, h2, P', a1, a2, a3, a4, a5, a6, a7, a8, a9, a10⟩ := LI_w (cd := (fun _ => 1)) hb hm hmo q p k ho hs (W_count q ho (by omega) (xs (i + 1)) (P_count q (xs (i + 1))) (fun _ z => ex_count z)) (F := fun h1 => xev 146 [.ref m, .int (xs (i + 1))] h1) (fun h1 p => M_count p w pr (xs (i + 1))) (fun _ _ z => ok_count k z) (fun _ _ => by decide)
  have s0 := xa3_is hs
  have x1 : xix (nI (i + 1)) L := xix_nI (by omega) (by omega)
  have c1 := nI_clamp (show i + 1 < 2 ^ 31 by omega)
  refine ⟨h2, P', some (.int c), some (.int n), l7, l8, ?_, a8, a9, a10⟩
  by_cases hc : c = 0
  · obtain ⟨g2, y1, y2⟩ := a7 hc
    subst hc
    simp only [u_L_law_945, u_L_law_946, u_L_law_947, u_L_law_949, u_L_law_950, u_L_law_951, u_L_law_952, u_L_law_953, u_L_law_956, u_L_law_958, u_L_law_959, u_L_law_960, u_L_law_962, u_L_law_963, u_L_law_964, u_L_law_965, u_L_law_968, u_L_law_970, u_L_law_971, u_L_law_974, u_L_law_976, u_L_law_979, u_L_law_980, u_L_law_981, u_L_law_983, u_L_law_986, u_L_law_987, u_L_law_988, u_L_law_989, u_L_law_991, u_L_law_992, u_L_law_993, u_L_law_996, u_L_law_997, u_L_law_998, s0, nI_of1, x1, c1, a3, a1, a2, a4, a5, a6, y1, x01l, c00, y2, eq_self, if_true, xgo_some, xgo_none, xgoI_none, xcat_n, xcat_i, xcat_r, xcat_z, List.length_nil, List.length_cons, List.getD_cons_zero, List.getD_cons_succ, List.set_cons_zero, List.set_cons_succ, Nat.zero_le, Nat.reduceAdd, Nat.reduceLeDiff, Nat.reduceEqDiff, reduceIte]
  · simp only [u_L_law_945, u_L_law_946, u_L_law_947, u_L_law_949, u_L_law_950, u_L_law_951, u_L_law_952, u_L_law_953, u_L_law_956, u_L_law_958, u_L_law_959, u_L_law_960, u_L_law_962, u_L_law_963, u_L_law_964, u_L_law_965, u_L_law_968, u_L_law_970, u_L_law_971, u_L_law_974, u_L_law_976, u_L_law_979, u_L_law_980, u_L_law_981, u_L_law_983, u_L_law_986, u_L_law_987, u_L_law_988, u_L_law_989, u_L_law_991, u_L_law_992, u_L_law_993, u_L_law_996, u_L_law_997, u_L_law_998, s0, nI_of1, x1, c1, a3, a1, a2, a4, a5, a6, hc, eq_self, if_true, if_false, xgo_some, xgo_none, xgoI_none, xcat_n, xcat_i, xcat_r, xcat_z, List.length_nil, List.length_cons, List.getD_cons_zero, List.getD_cons_succ, List.set_cons_zero, List.set_cons_succ, Nat.zero_le, Nat.reduceAdd, Nat.reduceLeDiff, Nat.reduceEqDiff, reduceIte]
theorem C_times (hb : b < x) (hm : x + 139 ≤ m) (hmo : m + 10 ≤ o) (I : LI b x m o L xs h P) (hi : i + 2 < L) (hL : L ≤ 1536) (l5 l6 l7 l8 : Option Value) : CR b x m o L xs h i (xf 178 1001 [some (.ref b), some (.ref x), some (.ref m), some (.ref o), some (.int (nI i)), l5, l6, l7, l8] [] h) := by
  obtain ⟨q, ⟨t, p⟩, k, ⟨g, ho⟩, hs⟩ := I
  obtain ⟨hl, ⟨d, l, w⟩, pr, us, e, e2, e9, eo⟩ := k.1
  have hR := rPr_ok pr
  have ha : 0 < P.1.2.2.1 := by rw [eo, ← nI_0]; exact nI_lt (by omega) (by omega)
  obtain ⟨c, n, h1, h2, P', a1, a2, a3, a4, a5, a6, a7, a8, a9, a10⟩ := LI_w (cd := (fun _ => 1)) hb hm hmo q p k ho hs (W_times q ho (by omega) (xs (i + 1)) (P_times q (xs (i + 1))) (fun _ z => ex_times z)) (F := fun h1 => xev 148 [.ref m, .int (xs (i + 1))] h1) (fun h1 p => M_times p w pr (xs (i + 1))) (fun _ _ z => ok_times k z) (fun _ _ => by decide)
  have s0 := xa3_is hs
  have x1 : xix (nI (i + 1)) L := xix_nI (by omega) (by omega)
  have c1 := nI_clamp (show i + 1 < 2 ^ 31 by omega)
  refine ⟨h2, P', some (.int c), some (.int n), l7, l8, ?_, a8, a9, a10⟩
  by_cases hc : c = 0
  · obtain ⟨g2, y1, y2⟩ := a7 hc
    subst hc
    simp only [u_L_law_1001, u_L_law_1002, u_L_law_1003, u_L_law_1005, u_L_law_1006, u_L_law_1007, u_L_law_1008, u_L_law_1009, u_L_law_1012, u_L_law_1014, u_L_law_1015, u_L_law_1016, u_L_law_1018, u_L_law_1019, u_L_law_1020, u_L_law_1021, u_L_law_1024, u_L_law_1026, u_L_law_1027, u_L_law_1030, u_L_law_1032, u_L_law_1035, u_L_law_1036, u_L_law_1037, u_L_law_1039, u_L_law_1042, u_L_law_1043, u_L_law_1044, u_L_law_1045, u_L_law_1047, u_L_law_1048, u_L_law_1049, u_L_law_1052, u_L_law_1053, u_L_law_1054, s0, nI_of1, x1, c1, a3, a1, a2, a4, a5, a6, y1, x01l, c00, y2, eq_self, if_true, xgo_some, xgo_none, xgoI_none, xcat_n, xcat_i, xcat_r, xcat_z, List.length_nil, List.length_cons, List.getD_cons_zero, List.getD_cons_succ, List.set_cons_zero, List.set_cons_succ, Nat.zero_le, Nat.reduceAdd, Nat.reduceLeDiff, Nat.reduceEqDiff, reduceIte]
  · simp only [u_L_law_1001, u_L_law_1002, u_L_law_1003, u_L_law_1005, u_L_law_1006, u_L_law_1007, u_L_law_1008, u_L_law_1009, u_L_law_1012, u_L_law_1014, u_L_law_1015, u_L_law_1016, u_L_law_1018, u_L_law_1019, u_L_law_1020, u_L_law_1021, u_L_law_1024, u_L_law_1026, u_L_law_1027, u_L_law_1030, u_L_law_1032, u_L_law_1035, u_L_law_1036, u_L_law_1037, u_L_law_1039, u_L_law_1042, u_L_law_1043, u_L_law_1044, u_L_law_1045, u_L_law_1047, u_L_law_1048, u_L_law_1049, u_L_law_1052, u_L_law_1053, u_L_law_1054, s0, nI_of1, x1, c1, a3, a1, a2, a4, a5, a6, hc, eq_self, if_true, if_false, xgo_some, xgo_none, xgoI_none, xcat_n, xcat_i, xcat_r, xcat_z, List.length_nil, List.length_cons, List.getD_cons_zero, List.getD_cons_succ, List.set_cons_zero, List.set_cons_succ, Nat.zero_le, Nat.reduceAdd, Nat.reduceLeDiff, Nat.reduceEqDiff, reduceIte]
theorem C_setting (hb : b < x) (hm : x + 139 ≤ m) (hmo : m + 10 ≤ o) (I : LI b x m o L xs h P) (hi : i + 2 < L) (hL : L ≤ 1536) (l5 l6 l7 l8 : Option Value) : CR b x m o L xs h i (xf 178 1057 [some (.ref b), some (.ref x), some (.ref m), some (.ref o), some (.int (nI i)), l5, l6, l7, l8] [] h) := by
  obtain ⟨q, ⟨t, p⟩, k, ⟨g, ho⟩, hs⟩ := I
  obtain ⟨hl, ⟨d, l, w⟩, pr, us, e, e2, e9, eo⟩ := k.1
  have hR := rPr_ok pr
  have ha : 0 < P.1.2.2.1 := by rw [eo, ← nI_0]; exact nI_lt (by omega) (by omega)
  obtain ⟨c, n, h1, h2, P', a1, a2, a3, a4, a5, a6, a7, a8, a9, a10⟩ := LI_w (cd := (fun _ => 1)) hb hm hmo q p k ho hs (W_setting q ho (by omega) (xs (i + 1)) (P_setting q (xs (i + 1))) (fun _ z => ex_setting z)) (F := fun h1 => xev 149 [.ref m, .int (xs (i + 1))] h1) (fun h1 p => M_setting p (xs (i + 1))) (fun _ _ z => ok_setting k z) (fun _ _ => by decide)
  have s0 := xa3_is hs
  have x1 : xix (nI (i + 1)) L := xix_nI (by omega) (by omega)
  have c1 := nI_clamp (show i + 1 < 2 ^ 31 by omega)
  refine ⟨h2, P', some (.int c), some (.int n), l7, l8, ?_, a8, a9, a10⟩
  by_cases hc : c = 0
  · obtain ⟨g2, y1, y2⟩ := a7 hc
    subst hc
    simp only [u_L_law_1057, u_L_law_1058, u_L_law_1059, u_L_law_1061, u_L_law_1062, u_L_law_1063, u_L_law_1064, u_L_law_1065, u_L_law_1068, u_L_law_1070, u_L_law_1071, u_L_law_1072, u_L_law_1074, u_L_law_1075, u_L_law_1076, u_L_law_1077, u_L_law_1080, u_L_law_1082, u_L_law_1083, u_L_law_1086, u_L_law_1088, u_L_law_1091, u_L_law_1092, u_L_law_1093, u_L_law_1095, u_L_law_1098, u_L_law_1099, u_L_law_1100, u_L_law_1101, u_L_law_1103, u_L_law_1104, u_L_law_1105, u_L_law_1108, u_L_law_1109, u_L_law_1110, s0, nI_of1, x1, c1, a3, a1, a2, a4, a5, a6, y1, x01l, c00, y2, eq_self, if_true, xgo_some, xgo_none, xgoI_none, xcat_n, xcat_i, xcat_r, xcat_z, List.length_nil, List.length_cons, List.getD_cons_zero, List.getD_cons_succ, List.set_cons_zero, List.set_cons_succ, Nat.zero_le, Nat.reduceAdd, Nat.reduceLeDiff, Nat.reduceEqDiff, reduceIte]
  · simp only [u_L_law_1057, u_L_law_1058, u_L_law_1059, u_L_law_1061, u_L_law_1062, u_L_law_1063, u_L_law_1064, u_L_law_1065, u_L_law_1068, u_L_law_1070, u_L_law_1071, u_L_law_1072, u_L_law_1074, u_L_law_1075, u_L_law_1076, u_L_law_1077, u_L_law_1080, u_L_law_1082, u_L_law_1083, u_L_law_1086, u_L_law_1088, u_L_law_1091, u_L_law_1092, u_L_law_1093, u_L_law_1095, u_L_law_1098, u_L_law_1099, u_L_law_1100, u_L_law_1101, u_L_law_1103, u_L_law_1104, u_L_law_1105, u_L_law_1108, u_L_law_1109, u_L_law_1110, s0, nI_of1, x1, c1, a3, a1, a2, a4, a5, a6, hc, eq_self, if_true, if_false, xgo_some, xgo_none, xgoI_none, xcat_n, xcat_i, xcat_r, xcat_z, List.length_nil, List.length_cons, List.getD_cons_zero, List.getD_cons_succ, List.set_cons_zero, List.set_cons_succ, Nat.zero_le, Nat.reduceAdd, Nat.reduceLeDiff, Nat.reduceEqDiff, reduceIte]
theorem C_ifNamed (hb : b < x) (hm : x + 139 ≤ m) (hmo : m + 10 ≤ o) (I : LI b x m o L xs h P) (hi : i + 2 < L) (hL : L ≤ 1536) (l5 l6 l7 l8 : Option Value) : CR b x m o L xs h i (xf 178 1113 [some (.ref b), some (.ref x), some (.ref m), some (.ref o), some (.int (nI i)), l5, l6, l7, l8] [] h) := by
  obtain ⟨q, ⟨t, p⟩, k, ⟨g, ho⟩, hs⟩ := I
  obtain ⟨hl, ⟨d, l, w⟩, pr, us, e, e2, e9, eo⟩ := k.1
  have hR := rPr_ok pr
  have ha : 0 < P.1.2.2.1 := by rw [eo, ← nI_0]; exact nI_lt (by omega) (by omega)
  have k1 : okS (trX P.1 P.1.2.2.1) := by rw [eo]; exact ok_tr k.1 e2 e9
  obtain ⟨-, ⟨d1, l1, w1⟩, pr1, -⟩ := k1
  obtain ⟨c, n, h1, h2, P', a1, a2, a3, a4, a5, a6, a7, a8, a9, a10⟩ := LI_w (cd := (fun _ => 1)) hb hm hmo q p k ho hs (W_ifNamed q ho (by omega) (xs (i + 1)) (P_ifNamed q hR ha (xs (i + 1))) (fun _ z => ex_ifNamed z)) (F := fun h1 => xev 151 [.ref m, .int (xs (i + 1))] h1) (fun h1 p => M_ifNamed p hR eo (by omega) (by omega) w1 pr1 (xs (i + 1))) (fun _ _ z => ok_ifNamed k z) (fun _ _ => by decide)
  have s0 := xa3_is hs
  have x1 : xix (nI (i + 1)) L := xix_nI (by omega) (by omega)
  have c1 := nI_clamp (show i + 1 < 2 ^ 31 by omega)
  refine ⟨h2, P', some (.int c), some (.int n), l7, l8, ?_, a8, a9, a10⟩
  by_cases hc : c = 0
  · obtain ⟨g2, y1, y2⟩ := a7 hc
    subst hc
    simp only [u_L_law_1113, u_L_law_1114, u_L_law_1115, u_L_law_1117, u_L_law_1118, u_L_law_1119, u_L_law_1120, u_L_law_1121, u_L_law_1124, u_L_law_1126, u_L_law_1127, u_L_law_1128, u_L_law_1130, u_L_law_1131, u_L_law_1132, u_L_law_1133, u_L_law_1136, u_L_law_1138, u_L_law_1139, u_L_law_1142, u_L_law_1144, u_L_law_1147, u_L_law_1148, u_L_law_1149, u_L_law_1151, u_L_law_1154, u_L_law_1155, u_L_law_1156, u_L_law_1157, u_L_law_1159, u_L_law_1160, u_L_law_1161, u_L_law_1164, u_L_law_1165, u_L_law_1166, s0, nI_of1, x1, c1, a3, a1, a2, a4, a5, a6, y1, x01l, c00, y2, eq_self, if_true, xgo_some, xgo_none, xgoI_none, xcat_n, xcat_i, xcat_r, xcat_z, List.length_nil, List.length_cons, List.getD_cons_zero, List.getD_cons_succ, List.set_cons_zero, List.set_cons_succ, Nat.zero_le, Nat.reduceAdd, Nat.reduceLeDiff, Nat.reduceEqDiff, reduceIte]
  · simp only [u_L_law_1113, u_L_law_1114, u_L_law_1115, u_L_law_1117, u_L_law_1118, u_L_law_1119, u_L_law_1120, u_L_law_1121, u_L_law_1124, u_L_law_1126, u_L_law_1127, u_L_law_1128, u_L_law_1130, u_L_law_1131, u_L_law_1132, u_L_law_1133, u_L_law_1136, u_L_law_1138, u_L_law_1139, u_L_law_1142, u_L_law_1144, u_L_law_1147, u_L_law_1148, u_L_law_1149, u_L_law_1151, u_L_law_1154, u_L_law_1155, u_L_law_1156, u_L_law_1157, u_L_law_1159, u_L_law_1160, u_L_law_1161, u_L_law_1164, u_L_law_1165, u_L_law_1166, s0, nI_of1, x1, c1, a3, a1, a2, a4, a5, a6, hc, eq_self, if_true, if_false, xgo_some, xgo_none, xgoI_none, xcat_n, xcat_i, xcat_r, xcat_z, List.length_nil, List.length_cons, List.getD_cons_zero, List.getD_cons_succ, List.set_cons_zero, List.set_cons_succ, Nat.zero_le, Nat.reduceAdd, Nat.reduceLeDiff, Nat.reduceEqDiff, reduceIte]
theorem C_name (hb : b < x) (hm : x + 139 ≤ m) (hmo : m + 10 ≤ o) (I : LI b x m o L xs h P) (l5 l6 l7 l8 : Option Value) : CR b x m o L xs h i (xf 178 364 [some (.ref b), some (.ref x), some (.ref m), some (.ref o), some (.int (nI i)), l5, l6, l7, l8] [] h) := by
  obtain ⟨q, ⟨t, p⟩, k, ⟨g, ho⟩, hs⟩ := I
  obtain ⟨hl, ⟨d, l, w⟩, pr, us, e, e2, e9, eo⟩ := k.1
  have hR := rPr_ok pr
  have ha : 0 < P.1.2.2.1 := by rw [eo, ← nI_0]; exact nI_lt (by omega) (by omega)
  obtain ⟨v, P1, ev⟩ : ∃ v P1, sp_name P = .inl (v, P1) := by
    unfold sp_name
    split
    · exact ⟨_, _, rfl⟩
    · exact ⟨_, _, rfl⟩
  have pp := P_name q hR ha
  rw [ev] at pp
  obtain ⟨h1, h2, a1, a2, a3, a4, a5, a6⟩ := LI_s (cd := fun _ => 1) hb hm hmo p ho hs pp (F := fun h1 => xev 127 [.ref m] h1) (fun h1 p => by rw [← ev]; exact M_name p hR eo (by omega) (by omega) _) (ok_name k ev)
  refine ⟨h2, _, l5, l6, l7, l8, ?_, a4, a5, a6⟩
  simp only [u_L_law_364, u_L_law_365, u_L_law_368, u_L_law_369, u_L_law_372, u_L_law_375, u_L_law_376, q.ob, a1, a2, a3, eq_self, if_true, xgo_some, xgo_none, xgoI_none, xcat_n, xcat_i, xcat_r, xcat_z, List.length_nil, List.length_cons, List.getD_cons_zero, List.getD_cons_succ, List.set_cons_zero, List.set_cons_succ, Nat.zero_le, Nat.reduceAdd, Nat.reduceLeDiff, Nat.reduceEqDiff, reduceIte]
theorem C_nameAll (hb : b < x) (hm : x + 139 ≤ m) (hmo : m + 10 ≤ o) (I : LI b x m o L xs h P) (l5 l6 l7 l8 : Option Value) : CR b x m o L xs h i (xf 178 377 [some (.ref b), some (.ref x), some (.ref m), some (.ref o), some (.int (nI i)), l5, l6, l7, l8] [] h) := by
  obtain ⟨q, ⟨t, p⟩, k, ⟨g, ho⟩, hs⟩ := I
  obtain ⟨hl, ⟨d, l, w⟩, pr, us, e, e2, e9, eo⟩ := k.1
  have hR := rPr_ok pr
  have ha : 0 < P.1.2.2.1 := by rw [eo, ← nI_0]; exact nI_lt (by omega) (by omega)
  obtain ⟨v, P1, ev⟩ : ∃ v P1, sp_nameAll P = .inl (v, P1) := ⟨_, _, rfl⟩
  have pp := P_nameAll q hR ha
  rw [ev] at pp
  obtain ⟨h1, h2, a1, a2, a3, a4, a5, a6⟩ := LI_s (cd := fun _ => 1) hb hm hmo p ho hs pp (F := fun h1 => xev 128 [.ref m] h1) (fun h1 p => by rw [← ev]; exact M_nameAll p hR eo (by omega) (by omega) _) (ok_nameAll k ev)
  refine ⟨h2, _, l5, l6, l7, l8, ?_, a4, a5, a6⟩
  simp only [u_L_law_377, u_L_law_378, u_L_law_381, u_L_law_382, u_L_law_385, u_L_law_388, u_L_law_389, q.ob, a1, a2, a3, eq_self, if_true, xgo_some, xgo_none, xgoI_none, xcat_n, xcat_i, xcat_r, xcat_z, List.length_nil, List.length_cons, List.getD_cons_zero, List.getD_cons_succ, List.set_cons_zero, List.set_cons_succ, Nat.zero_le, Nat.reduceAdd, Nat.reduceLeDiff, Nat.reduceEqDiff, reduceIte]
theorem C_letGo (hb : b < x) (hm : x + 139 ≤ m) (hmo : m + 10 ≤ o) (I : LI b x m o L xs h P) (l5 l6 l7 l8 : Option Value) : CR b x m o L xs h i (xf 178 390 [some (.ref b), some (.ref x), some (.ref m), some (.ref o), some (.int (nI i)), l5, l6, l7, l8] [] h) := by
  obtain ⟨q, ⟨t, p⟩, k, ⟨g, ho⟩, hs⟩ := I
  obtain ⟨hl, ⟨d, l, w⟩, pr, us, e, e2, e9, eo⟩ := k.1
  have hR := rPr_ok pr
  have ha : 0 < P.1.2.2.1 := by rw [eo, ← nI_0]; exact nI_lt (by omega) (by omega)
  obtain ⟨v, P1, ev⟩ : ∃ v P1, sp_letGo P = .inl (v, P1) := ⟨_, _, rfl⟩
  have pp := P_letGo q (wf_ac w)
  rw [ev] at pp
  obtain ⟨h1, h2, a1, a2, a3, a4, a5, a6⟩ := LI_s (cd := fun _ => 1) hb hm hmo p ho hs pp (F := fun h1 => xev 130 [.ref m] h1) (fun h1 p => by rw [← ev]; exact M_letGo p w.1 _) (ok_letGo k ev)
  refine ⟨h2, _, l5, l6, l7, l8, ?_, a4, a5, a6⟩
  simp only [u_L_law_390, u_L_law_391, u_L_law_394, u_L_law_395, u_L_law_398, u_L_law_401, u_L_law_402, q.ob, a1, a2, a3, eq_self, if_true, xgo_some, xgo_none, xgoI_none, xcat_n, xcat_i, xcat_r, xcat_z, List.length_nil, List.length_cons, List.getD_cons_zero, List.getD_cons_succ, List.set_cons_zero, List.set_cons_succ, Nat.zero_le, Nat.reduceAdd, Nat.reduceLeDiff, Nat.reduceEqDiff, reduceIte]
theorem C_clearBuffer (hb : b < x) (hm : x + 139 ≤ m) (hmo : m + 10 ≤ o) (I : LI b x m o L xs h P) (l5 l6 l7 l8 : Option Value) : CR b x m o L xs h i (xf 178 571 [some (.ref b), some (.ref x), some (.ref m), some (.ref o), some (.int (nI i)), l5, l6, l7, l8] [] h) := by
  obtain ⟨q, ⟨t, p⟩, k, ⟨g, ho⟩, hs⟩ := I
  obtain ⟨hl, ⟨d, l, w⟩, pr, us, e, e2, e9, eo⟩ := k.1
  have hR := rPr_ok pr
  have ha : 0 < P.1.2.2.1 := by rw [eo, ← nI_0]; exact nI_lt (by omega) (by omega)
  obtain ⟨v, P1, ev⟩ : ∃ v P1, sp_clear P = .inl (v, P1) := ⟨_, _, rfl⟩
  have pp := P_clear q
  rw [ev] at pp
  have kk : okP P1 := by
    have e := (Prod.mk.inj (Sum.inl.inj ev)).2
    rw [← e]
    exact k
  obtain ⟨h1, h2, a1, a2, a3, a4, a5, a6⟩ := LI_s (cd := fun _ => 1) hb hm hmo p ho hs pp (F := fun h1 => xev 134 [.ref m] h1) (fun h1 p => by rw [← ev]; exact M_clear p _) kk
  refine ⟨h2, _, l5, l6, l7, l8, ?_, a4, a5, a6⟩
  simp only [u_L_law_571, u_L_law_572, u_L_law_575, u_L_law_576, u_L_law_579, u_L_law_582, u_L_law_583, q.ob, a1, a2, a3, eq_self, if_true, xgo_some, xgo_none, xgoI_none, xcat_n, xcat_i, xcat_r, xcat_z, List.length_nil, List.length_cons, List.getD_cons_zero, List.getD_cons_succ, List.set_cons_zero, List.set_cons_succ, Nat.zero_le, Nat.reduceAdd, Nat.reduceLeDiff, Nat.reduceEqDiff, reduceIte]
theorem C_firstError (hb : b < x) (hm : x + 139 ≤ m) (hmo : m + 10 ≤ o) (I : LI b x m o L xs h P) (l5 l6 l7 l8 : Option Value) : CR b x m o L xs h i (xf 178 584 [some (.ref b), some (.ref x), some (.ref m), some (.ref o), some (.int (nI i)), l5, l6, l7, l8] [] h) := by
  obtain ⟨q, ⟨t, p⟩, k, ⟨g, ho⟩, hs⟩ := I
  obtain ⟨hl, ⟨d, l, w⟩, pr, us, e, e2, e9, eo⟩ := k.1
  have hR := rPr_ok pr
  have ha : 0 < P.1.2.2.1 := by rw [eo, ← nI_0]; exact nI_lt (by omega) (by omega)
  obtain ⟨v, P1, ev⟩ : ∃ v P1, sp_first P = .inl (v, P1) := ⟨_, _, rfl⟩
  have pp := P_first q
  rw [ev] at pp
  have kk : okP P1 := by
    have e := (Prod.mk.inj (Sum.inl.inj ev)).2
    rw [← e]
    exact k
  obtain ⟨h1, h2, a1, a2, a3, a4, a5, a6⟩ := LI_s (cd := fun _ => 1) hb hm hmo p ho hs pp (F := fun h1 => xev 135 [.ref m] h1) (fun h1 p => by rw [← ev]; exact M_first p _) kk
  refine ⟨h2, _, l5, l6, l7, l8, ?_, a4, a5, a6⟩
  simp only [u_L_law_584, u_L_law_585, u_L_law_588, u_L_law_589, u_L_law_592, u_L_law_595, u_L_law_596, q.ob, a1, a2, a3, eq_self, if_true, xgo_some, xgo_none, xgoI_none, xcat_n, xcat_i, xcat_r, xcat_z, List.length_nil, List.length_cons, List.getD_cons_zero, List.getD_cons_succ, List.set_cons_zero, List.set_cons_succ, Nat.zero_le, Nat.reduceAdd, Nat.reduceLeDiff, Nat.reduceEqDiff, reduceIte]
theorem C_bestOften (hb : b < x) (hm : x + 139 ≤ m) (hmo : m + 10 ≤ o) (I : LI b x m o L xs h P) (l5 l6 l7 l8 : Option Value) : CR b x m o L xs h i (xf 178 1169 [some (.ref b), some (.ref x), some (.ref m), some (.ref o), some (.int (nI i)), l5, l6, l7, l8] [] h) := by
  obtain ⟨q, ⟨t, p⟩, k, ⟨g, ho⟩, hs⟩ := I
  obtain ⟨hl, ⟨d, l, w⟩, pr, us, e, e2, e9, eo⟩ := k.1
  have hR := rPr_ok pr
  have ha : 0 < P.1.2.2.1 := by rw [eo, ← nI_0]; exact nI_lt (by omega) (by omega)
  have pp := P_best q hR
  obtain ⟨h1, h2, a1, a2, a3, a4, a5, a6⟩ := LI_s (cd := fun _ => 1) hb hm hmo p ho hs pp (F := fun h1 => xev 153 [.ref m] h1) (fun h1 p => M_best p hR (ok_tr k.1 (Nat.le_refl _) (by decide)).1 _) k
  refine ⟨h2, _, l5, l6, l7, l8, ?_, a4, a5, a6⟩
  simp only [u_L_law_1169, u_L_law_1170, u_L_law_1173, u_L_law_1174, u_L_law_1177, u_L_law_1180, u_L_law_1181, q.ob, a1, a2, a3, eq_self, if_true, xgo_some, xgo_none, xgoI_none, xcat_n, xcat_i, xcat_r, xcat_z, List.length_nil, List.length_cons, List.getD_cons_zero, List.getD_cons_succ, List.set_cons_zero, List.set_cons_succ, Nat.zero_le, Nat.reduceAdd, Nat.reduceLeDiff, Nat.reduceEqDiff, reduceIte]
theorem C_saved (hb : b < x) (hm : x + 139 ≤ m) (hmo : m + 10 ≤ o) (I : LI b x m o L xs h P) (l5 l6 l7 l8 : Option Value) : CR b x m o L xs h i (xf 178 1182 [some (.ref b), some (.ref x), some (.ref m), some (.ref o), some (.int (nI i)), l5, l6, l7, l8] [] h) := by
  obtain ⟨q, ⟨t, p⟩, k, ⟨g, ho⟩, hs⟩ := I
  obtain ⟨hl, ⟨d, l, w⟩, pr, us, e, e2, e9, eo⟩ := k.1
  have hR := rPr_ok pr
  have ha : 0 < P.1.2.2.1 := by rw [eo, ← nI_0]; exact nI_lt (by omega) (by omega)
  obtain ⟨hD, hS⟩ := fp_ok k.1
  have a1 := P_saved q hD
  obtain ⟨h2, a3, m2, f2⟩ := M_saved p w pr hD
  have q2 : isP h2 x P := isP_G q (xMk.fr f2 (Nat.le_refl _)) (by omega)
  have ee := fp_eq hS
  refine ⟨h2, P, some (.double (svX P.1)), none, some (.double (svX P.1)), none, ?_, ⟨q2, ⟨0, m2⟩, k, ⟨_, by rw [f2.2 o (by omega)]; exact ho⟩, by rw [f2.2 b (by omega)]; exact hs⟩, by rw [f2.1]; omega, by rw [f2.1]; omega⟩
  have pb := p.ob
  simp only [u_L_law_1182, u_L_law_1183, u_L_law_1186, u_L_law_1188, u_L_law_1189, u_L_law_1192, u_L_law_1194, u_L_law_1196, u_L_law_1198, u_L_law_1199, u_L_law_1202, u_L_law_1204, u_L_law_1206, u_L_law_1207, u_L_law_1210, u_L_law_1212, u_L_law_1214, u_L_law_1215, u_L_law_1218, u_L_law_1219, u_L_law_1220, q.ob, pb, a1, a3, ee, if_true, xcat_d, xgo_some, xgo_none, xgoI_none, xcat_n, xcat_i, xcat_r, xcat_z, List.length_nil, List.length_cons, List.getD_cons_zero, List.getD_cons_succ, List.set_cons_zero, List.set_cons_succ, Nat.zero_le, Nat.reduceAdd, Nat.reduceLeDiff, Nat.reduceEqDiff, reduceIte]
theorem C_digest (hb : b < x) (hm : x + 139 ≤ m) (hmo : m + 10 ≤ o) (I : LI b x m o L xs h P) (l5 l6 l7 l8 : Option Value) : CR b x m o L xs h i (xf 178 1223 [some (.ref b), some (.ref x), some (.ref m), some (.ref o), some (.int (nI i)), l5, l6, l7, l8] [] h) := by
  obtain ⟨q, ⟨t, p⟩, k, ⟨g, ho⟩, hs⟩ := I
  obtain ⟨hl, ⟨d, l, w⟩, pr, us, e, e2, e9, eo⟩ := k.1
  have hR := rPr_ok pr
  have ha : 0 < P.1.2.2.1 := by rw [eo, ← nI_0]; exact nI_lt (by omega) (by omega)
  obtain ⟨hD, hS⟩ := fp_ok k.1
  obtain ⟨B, B7, B8⟩ := fp_bits hS
  have k1 : okS (trX P.1 P.1.2.2.1) := by rw [eo]; exact ok_tr k.1 e2 e9
  obtain ⟨-, ⟨d1, l1, w1⟩, pr1, -⟩ := k1
  obtain ⟨h1, a1, q1, f1⟩ := P_digest q hR ha hD B7
  have m1 : isMP h1 m t P := isMP_fr p (fun a a1 a2 => f1.2 a (by omega))
  obtain ⟨h2, a3, m2, f2⟩ := M_digest m1 w pr eo (by omega) (by omega) w1 pr1 (ok_tr k.1 (Nat.le_refl _) (by decide)).1 hD B8
  have q2 : isP h2 x P := isP_G q1 (xMk.fr f2 (Nat.le_refl _)) (by omega)
  have pb := m1.ob
  have lc : lg_cmp (mxF 2749 (dgL P B)) (mxF 2749 (dgL P B)) = 0 := (lg_cmp_eq _ _).mpr rfl
  have c2 : h2.2 = h.2 := f2.1.trans f1.1
  refine ⟨h2, P, l5, l6, l7, l8, ?_, ⟨q2, ⟨0, m2⟩, k, ⟨_, by rw [f2.2 o (by omega), f1.2 o (by omega)]; exact ho⟩, by rw [f2.2 b (by omega), f1.2 b (by omega)]; exact hs⟩, by rw [c2]; omega, by rw [c2]; omega⟩
  simp only [u_L_law_1223, u_L_law_1224, u_L_law_1227, u_L_law_1228, u_L_law_1231, u_L_law_1232, u_L_law_1235, u_L_law_1236, q.ob, pb, a1, a3, lc, if_true, xgo_some, xgo_none, xgoI_none, xcat_n, xcat_i, xcat_r, xcat_z, List.length_nil, List.length_cons, List.getD_cons_zero, List.getD_cons_succ, List.set_cons_zero, List.set_cons_succ, Nat.zero_le, Nat.reduceAdd, Nat.reduceLeDiff, Nat.reduceEqDiff, reduceIte]
end LC
