/-! The model: its constructor. -/
section NJ
theorem k_arr {h h2 h3 : xH} {N k fld n : Nat} {fs : List Value} (hk : 1 ≤ k) (hn : h.2.1 = N + k) (c : h.1 N = some (.inr (8, fs))) (hl : fs.length = xN 8) (e2 : h2 = xnew h (.inl (0, n, .inl (fun _ => 0))) n) (e3 : h3 = xso h2 N fld (.ref (N + k))) :
    xob h2 N = (8, fs) ∧ h3.1 N = some (.inr (8, fs.set fld (.ref (N + k)))) ∧ h3.1 (N + k) = some (.inl (0, n, .inl (fun _ => 0))) ∧ h3.2.1 = N + (k + 1) ∧ xMk N 1 n h h3 ∧ ∀ a, a ≠ N → a < N + k → h3.1 a = h.1 a := by
  have g2 : xMk N 1 n h h2 := by rw [e2]; exact xMk_new _ (by omega)
  have g2' : xMk (N + k) 1 n h h2 := by rw [e2]; exact xMk_new _ (by omega)
  have c2 : h2.1 N = some (.inr (8, fs)) := by rw [g2'.2.2.2 N (by omega)]; exact c
  have a2 : h2.1 (N + k) = some (.inl (0, n, .inl (fun _ => 0))) := by rw [e2, ← hn]; exact new_at _ _ _
  have w3 : xFr N (N + 1) h2 h3 := by rw [e3]; exact xFr_so _ _ _ _
  refine ⟨ob_of c2 hl, by rw [e3]; exact so_at _ c2 hl, by rw [w3.2 _ (by omega)]; exact a2, by rw [w3.1, g2.1, hn]; omega, g2.tr (xMk.fr w3 (Nat.le_refl _)), fun a h1 h4 => ?_⟩
  rw [w3.2 a (by omega), g2'.2.2.2 a h4]
theorem rS_0 : rS (va_up (va_up (fun _ => 0) 113 2) 114 2) S0 := by
  refine ⟨rfl, Nat.zero_le _, fun i hi => absurd hi (Nat.not_lt_zero _), fun k k8 k24 => ?_, rfl, rfl, rfl, rfl⟩
  have e : S0.2.1.1 k = -1 := if_pos k24
  rw [e, if_pos rfl]
  refine ⟨?_, fun z => absurd rfl z⟩
  rw [va_up_ne _ _ (by omega), va_up_ne _ _ (by omega)]
theorem k_Mo {h : xH} {N : Nat} (hN : h.2.1 = N) (h0 : N ≠ 0) : ∃ h', xev 97 [.ref N] (xnew h (.inr (8, xdef 8)) 20) = some (.inl none, h') ∧ isMP h' N 0 P0 ∧ xMk N 10 1304 h h' := by
  obtain ⟨g0, e0⟩ : ∃ g0, g0 = xnew h (.inr (8, xdef 8)) 20 := ⟨_, rfl⟩
  have w0 : xMk N 1 20 h g0 := by rw [e0]; exact xMk_new _ (by omega)
  have c0 : g0.1 N = some (.inr (8, [.int 0, .null, .null, .null, .int 0, .null, .int 0, .null, .null, .null, .null, .null, .int 0, .int 0, .int 0, .int 0, .int 0, .int 0, .int 0, .long 0])) := by rw [e0, ← hN]; exact new_at _ _ _
  have n0 : g0.2.1 = N + 1 := by rw [w0.1, hN]
  obtain ⟨a1, ea1⟩ : ∃ a1, a1 = xnew g0 (.inl (0, 117, .inl (fun _ => 0))) 117 := ⟨_, rfl⟩
  obtain ⟨g1, e1⟩ : ∃ g1, g1 = xso a1 N 1 (.ref (N + 1)) := ⟨_, rfl⟩
  obtain ⟨o1, c1, d1, n1, w1, p1⟩ := k_arr (by decide) n0 c0 rfl ea1 e1
  replace c1 : g1.1 N = some (.inr (8, [.int 0, .ref (N + 1), .null, .null, .int 0, .null, .int 0, .null, .null, .null, .null, .null, .int 0, .int 0, .int 0, .int 0, .int 0, .int 0, .int 0, .long 0])) := c1
  obtain ⟨a2, ea2⟩ : ∃ a2, a2 = xnew g1 (.inl (0, 117, .inl (fun _ => 0))) 117 := ⟨_, rfl⟩
  obtain ⟨g2, e2⟩ : ∃ g2, g2 = xso a2 N 2 (.ref (N + 2)) := ⟨_, rfl⟩
  obtain ⟨o2, c2, d2, n2, w2, p2⟩ := k_arr (by decide) n1 c1 rfl ea2 e2
  replace c2 : g2.1 N = some (.inr (8, [.int 0, .ref (N + 1), .ref (N + 2), .null, .int 0, .null, .int 0, .null, .null, .null, .null, .null, .int 0, .int 0, .int 0, .int 0, .int 0, .int 0, .int 0, .long 0])) := c2
  obtain ⟨a3, ea3⟩ : ∃ a3, a3 = xnew g2 (.inl (0, 702, .inl (fun _ => 0))) 702 := ⟨_, rfl⟩
  obtain ⟨g3, e3⟩ : ∃ g3, g3 = xso a3 N 3 (.ref (N + 3)) := ⟨_, rfl⟩
  obtain ⟨o3, c3, d3, n3, w3, p3⟩ := k_arr (by decide) n2 c2 rfl ea3 e3
  replace c3 : g3.1 N = some (.inr (8, [.int 0, .ref (N + 1), .ref (N + 2), .ref (N + 3), .int 0, .null, .int 0, .null, .null, .null, .null, .null, .int 0, .int 0, .int 0, .int 0, .int 0, .int 0, .int 0, .long 0])) := c3
  obtain ⟨a4, ea4⟩ : ∃ a4, a4 = xnew g3 (.inl (0, 60, .inl (fun _ => 0))) 60 := ⟨_, rfl⟩
  obtain ⟨g4, e4⟩ : ∃ g4, g4 = xso a4 N 5 (.ref (N + 4)) := ⟨_, rfl⟩
  obtain ⟨o4, c4, d4, n4, w4, p4⟩ := k_arr (by decide) n3 c3 rfl ea4 e4
  replace c4 : g4.1 N = some (.inr (8, [.int 0, .ref (N + 1), .ref (N + 2), .ref (N + 3), .int 0, .ref (N + 4), .int 0, .null, .null, .null, .null, .null, .int 0, .int 0, .int 0, .int 0, .int 0, .int 0, .int 0, .long 0])) := c4
  obtain ⟨a5, ea5⟩ : ∃ a5, a5 = xnew g4 (.inl (0, 24, .inl (fun _ => 0))) 24 := ⟨_, rfl⟩
  obtain ⟨g5, e5⟩ : ∃ g5, g5 = xso a5 N 7 (.ref (N + 5)) := ⟨_, rfl⟩
  obtain ⟨o5, c5, d5, n5, w5, p5⟩ := k_arr (by decide) n4 c4 rfl ea5 e5
  replace c5 : g5.1 N = some (.inr (8, [.int 0, .ref (N + 1), .ref (N + 2), .ref (N + 3), .int 0, .ref (N + 4), .int 0, .ref (N + 5), .null, .null, .null, .null, .int 0, .int 0, .int 0, .int 0, .int 0, .int 0, .int 0, .long 0])) := c5
  obtain ⟨a6, ea6⟩ : ∃ a6, a6 = xnew g5 (.inl (0, 24, .inl (fun _ => 0))) 24 := ⟨_, rfl⟩
  obtain ⟨g6, e6⟩ : ∃ g6, g6 = xso a6 N 8 (.ref (N + 6)) := ⟨_, rfl⟩
  obtain ⟨o6, c6, d6, n6, w6, p6⟩ := k_arr (by decide) n5 c5 rfl ea6 e6
  replace c6 : g6.1 N = some (.inr (8, [.int 0, .ref (N + 1), .ref (N + 2), .ref (N + 3), .int 0, .ref (N + 4), .int 0, .ref (N + 5), .ref (N + 6), .null, .null, .null, .int 0, .int 0, .int 0, .int 0, .int 0, .int 0, .int 0, .long 0])) := c6
  obtain ⟨a7, ea7⟩ : ∃ a7, a7 = xnew g6 (.inl (0, 24, .inl (fun _ => 0))) 24 := ⟨_, rfl⟩
  obtain ⟨g7, e7⟩ : ∃ g7, g7 = xso a7 N 9 (.ref (N + 7)) := ⟨_, rfl⟩
  obtain ⟨o7, c7, d7, n7, w7, p7⟩ := k_arr (by decide) n6 c6 rfl ea7 e7
  replace c7 : g7.1 N = some (.inr (8, [.int 0, .ref (N + 1), .ref (N + 2), .ref (N + 3), .int 0, .ref (N + 4), .int 0, .ref (N + 5), .ref (N + 6), .ref (N + 7), .null, .null, .int 0, .int 0, .int 0, .int 0, .int 0, .int 0, .int 0, .long 0])) := c7
  obtain ⟨a8, ea8⟩ : ∃ a8, a8 = xnew g7 (.inl (0, 24, .inl (fun _ => 0))) 24 := ⟨_, rfl⟩
  obtain ⟨g8, e8⟩ : ∃ g8, g8 = xso a8 N 10 (.ref (N + 8)) := ⟨_, rfl⟩
  obtain ⟨o8, c8, d8, n8, w8, p8⟩ := k_arr (by decide) n7 c7 rfl ea8 e8
  replace c8 : g8.1 N = some (.inr (8, [.int 0, .ref (N + 1), .ref (N + 2), .ref (N + 3), .int 0, .ref (N + 4), .int 0, .ref (N + 5), .ref (N + 6), .ref (N + 7), .ref (N + 8), .null, .int 0, .int 0, .int 0, .int 0, .int 0, .int 0, .int 0, .long 0])) := c8
  obtain ⟨a9, ea9⟩ : ∃ a9, a9 = xnew g8 (.inl (0, 192, .inl (fun _ => 0))) 192 := ⟨_, rfl⟩
  obtain ⟨g9, e9⟩ : ∃ g9, g9 = xso a9 N 11 (.ref (N + 9)) := ⟨_, rfl⟩
  obtain ⟨o9, c9, d9, n9, w9, p9⟩ := k_arr (by decide) n8 c8 rfl ea9 e9
  replace c9 : g9.1 N = some (.inr (8, [.int 0, .ref (N + 1), .ref (N + 2), .ref (N + 3), .int 0, .ref (N + 4), .int 0, .ref (N + 5), .ref (N + 6), .ref (N + 7), .ref (N + 8), .ref (N + 9), .int 0, .int 0, .int 0, .int 0, .int 0, .int 0, .int 0, .long 0])) := c9
  have q : isMo g9 N (fun _ => 0) 0 (fun _ _ => 0) := by
    refine ⟨c9, fun k k1 k9 => ?_⟩
    match k, k1, k9 with
    | 1, _, _ => rw [p9 _ (by omega) (by omega), p8 _ (by omega) (by omega), p7 _ (by omega) (by omega), p6 _ (by omega) (by omega), p5 _ (by omega) (by omega), p4 _ (by omega) (by omega), p3 _ (by omega) (by omega), p2 _ (by omega) (by omega)]; exact d1
    | 2, _, _ => rw [p9 _ (by omega) (by omega), p8 _ (by omega) (by omega), p7 _ (by omega) (by omega), p6 _ (by omega) (by omega), p5 _ (by omega) (by omega), p4 _ (by omega) (by omega), p3 _ (by omega) (by omega)]; exact d2
    | 3, _, _ => rw [p9 _ (by omega) (by omega), p8 _ (by omega) (by omega), p7 _ (by omega) (by omega), p6 _ (by omega) (by omega), p5 _ (by omega) (by omega), p4 _ (by omega) (by omega)]; exact d3
    | 4, _, _ => rw [p9 _ (by omega) (by omega), p8 _ (by omega) (by omega), p7 _ (by omega) (by omega), p6 _ (by omega) (by omega), p5 _ (by omega) (by omega)]; exact d4
    | 5, _, _ => rw [p9 _ (by omega) (by omega), p8 _ (by omega) (by omega), p7 _ (by omega) (by omega), p6 _ (by omega) (by omega)]; exact d5
    | 6, _, _ => rw [p9 _ (by omega) (by omega), p8 _ (by omega) (by omega), p7 _ (by omega) (by omega)]; exact d6
    | 7, _, _ => rw [p9 _ (by omega) (by omega), p8 _ (by omega) (by omega)]; exact d7
    | 8, _, _ => rw [p9 _ (by omega) (by omega)]; exact d8
    | 9, _, _ => exact d9
    | k + 10, _, k9 => omega
  have q1 := mo_w q (k := 1) (by decide) (by decide) 113 2
  have q2 := mo_w q1 (k := 1) (by decide) (by decide) 114 2
  rw [va_up_self, va_up_up] at q2
  refine ⟨_, ?_, ⟨_, 0, _, q2, rfl, ?_, rfl, Nat.zero_le _, fun k hk => absurd hk (Nat.not_lt_zero _), rfl, Nat.zero_le _, fun i hi => absurd hi (Nat.not_lt_zero _)⟩, ?_⟩
  · have m0 : g0.2.1 ≠ 0 := by omega
    have m1 : g1.2.1 ≠ 0 := by omega
    have m2 : g2.2.1 ≠ 0 := by omega
    have m3 : g3.2.1 ≠ 0 := by omega
    have m4 : g4.2.1 ≠ 0 := by omega
    have m5 : g5.2.1 ≠ 0 := by omega
    have m6 : g6.2.1 ≠ 0 := by omega
    have m7 : g7.2.1 ≠ 0 := by omega
    have m8 : g8.2.1 ≠ 0 := by omega
    rw [e_X8_init, ← e0]
    simp only [u_X8_init_0, u_X8_init_1, u_X8_init_4, u_X8_init_5, u_X8_init_9, u_X8_init_12, u_X8_init_13, u_X8_init_17, u_X8_init_20, u_X8_init_21, u_X8_init_26, u_X8_init_29, u_X8_init_30, u_X8_init_34, u_X8_init_37, u_X8_init_38, u_X8_init_42, u_X8_init_45, u_X8_init_46, u_X8_init_50, u_X8_init_53, u_X8_init_54, u_X8_init_58, u_X8_init_61, u_X8_init_62, u_X8_init_66, u_X8_init_69, u_X8_init_70, u_X8_init_75, u_X8_init_78, u_X8_init_79, u_X8_init_82, u_X8_init_84, u_X8_init_85, u_X8_init_86, u_X8_init_87, u_X8_init_90, u_X8_init_92, u_X8_init_93, u_X8_init_94, (fun L st => u_X8_init_7 L 117 117 st g0 ⟨by decide, by decide, by decide⟩ m0), n0, ← ea1, o1, ← e1, (fun L st => u_X8_init_15 L 117 117 st g1 ⟨by decide, by decide, by decide⟩ m1), n1, ← ea2, o2, ← e2, (fun L st => u_X8_init_24 L 702 702 st g2 ⟨by decide, by decide, by decide⟩ m2), n2, ← ea3, o3, ← e3, (fun L st => u_X8_init_32 L 60 60 st g3 ⟨by decide, by decide, by decide⟩ m3), n3, ← ea4, o4, ← e4, (fun L st => u_X8_init_40 L 24 24 st g4 ⟨by decide, by decide, by decide⟩ m4), n4, ← ea5, o5, ← e5, (fun L st => u_X8_init_48 L 24 24 st g5 ⟨by decide, by decide, by decide⟩ m5), n5, ← ea6, o6, ← e6, (fun L st => u_X8_init_56 L 24 24 st g6 ⟨by decide, by decide, by decide⟩ m6), n6, ← ea7, o7, ← e7, (fun L st => u_X8_init_64 L 24 24 st g7 ⟨by decide, by decide, by decide⟩ m7), n7, ← ea8, o8, ← e8, (fun L st => u_X8_init_73 L 192 192 st g8 ⟨by decide, by decide, by decide⟩ m8), n8, ← ea9, o9, ← e9, q.ob, q.a1, q1.ob, q1.a1, x113, c113, x114, c114, xgo_some, xgo_none, xgoI_none, xcat_n, xcat_i, xcat_r, xcat_z, List.length_nil, List.length_cons, List.getD_cons_zero, List.getD_cons_succ, List.set_cons_zero, List.set_cons_succ, Nat.zero_le, Nat.reduceAdd, Nat.reduceLeDiff, Nat.reduceEqDiff, reduceIte]
  · rw [va_up_self]; exact rS_0
  · exact ((((((((((w0.tr w1).tr w2).tr w3).tr w4).tr w5).tr w6).tr w7).tr w8).tr w9).tr (xMk.fr (xFr_si _ _ _ _ _ (by decide)) (Nat.le_refl _))).tr (xMk.fr (xFr_si _ _ _ _ _ (by decide)) (Nat.le_refl _))
end NJ
