/-! The model: add, cut, name, nameAll. -/
section MZ
variable {h : xH} {m : Nat}
theorem MP_mk {h' : xH} {Z' g f : Nat → Int32} {D : Int64} {A : Nat → Nat → Int32} {X' : xS} {Hs' : List xS} {C : List Int32} {t : Int32} (q : isMo h' m Z' D (va_up (va_up A 3 f) 1 g)) (z0 : Z' 0 = t) (r : rS g X') (z4 : Z' 4 = nI Hs'.length) (h6 : Hs'.length ≤ 6) (w : svR f Hs'.reverse) (z6 : Z' 6 = nI C.length) (hC : C.length ≤ 60) (hT : ∀ i, i < C.length → A 4 i = gd C i) : isMP h' m t (X', Hs', C) :=
  ⟨Z', D, _, q, z0, by rw [va_up_self]; exact r, z4, h6, by rw [va_up_ne _ _ (show 3 ≠ 1 by decide), va_up_self]; exact w, z6, hC, fun i hi => by rw [va_up_ne _ _ (show 4 ≠ 1 by decide), va_up_ne _ _ (show 4 ≠ 3 by decide)]; exact hT i hi⟩
/-- refused: only thrown has changed -/
theorem MP_no {k : Int32} {Z : Nat → Int32} {D : Int64} {A : Nat → Nat → Int32} {P : pP} (q : isMo h m Z D A) (r : rS (A 1) P.1) (z4 : Z 4 = nI P.2.1.length) (h6 : P.2.1.length ≤ 6) (w : svR (A 3) P.2.1.reverse) (z6 : Z 6 = nI P.2.2.length) (hC : P.2.2.length ≤ 60) (hT : ∀ i, i < P.2.2.length → A 4 i = gd P.2.2 i) : isMP (xso h m 0 (.int k)) m k P :=
  ⟨_, D, A, mo_z0 q k, va_up_self _ _ _, r, by rw [va_up_ne _ _ (by decide)]; exact z4, h6, w, by rw [va_up_ne _ _ (by decide)]; exact z6, hC, hT⟩
def cdA (e : Nat) : Int32 := if e = 2 then 1 else 2
theorem rS_push {s : Nat → Int32} {L : List Int32} {T : xNs × Int32 × Int32 × Int32 × Int32} (r : rS s (L, T)) (hl : L.length < 64) (v : Int32) : rS (va_up (va_up s (1 + L.length) v) 0 (nI (L.length + 1))) (L ++ [v], T) := by
  have e : (L ++ [v]).length = L.length + 1 := by rw [List.length_append]; rfl
  refine rS_len r (by rw [va_up_self, e]) (by omega) (fun i hi => ?_) (fun i h1 h2 => ?_)
  · rw [e] at hi
    rw [va_up_ne _ _ (by omega)]
    by_cases h1 : i = L.length
    · rw [h1, va_up_self, gd_sn2]
    · rw [va_up_ne _ _ (by omega), gd_sn1 (by omega)]
      exact r.2.2.1 i (by simp only; omega)
  · rw [va_up_ne _ _ (by omega), va_up_ne _ _ (by omega)]
theorem M_add {t : Int32} {P : pP} (p : isMP h m t P) (v : Int32) : outM m P cdA h (xev 118 [.ref m, .int v] h) (sp_add P v) := by
  obtain ⟨⟨L, T⟩, Hs, C⟩ := P
  obtain ⟨Z, D, A, q, z0, r, z4, h6, w, z6, hC, hT⟩ := p
  simp only at r z4 h6 w z6 hC hT
  have hl := r.2.1
  have r1 := r.1
  simp only at hl r1
  have pp := m_isPart q r v
  simp only at pp
  unfold sp_add
  rw [e_X8_add]
  simp only
  cases e1 : hasP T.1.1 v with
  | false =>
    rw [e1] at pp
    rw [if_neg (by decide)]
    have ph := m_holds q 1
    rw [if_neg i10] at ph
    refine ⟨_, 0, ?_, MP_no q r z4 h6 w z6 hC hT, xFr_mo _ _ _ _⟩
    simp only [u_X8_add_0, u_X8_add_1, u_X8_add_2, u_X8_add_3, u_X8_add_6, u_X8_add_9, u_X8_add_10, u_X8_add_13, u_X8_add_14, u_X8_add_17, u_X8_add_18, u_X8_add_19, u_X8_add_21, u_X8_add_24, u_X8_add_25, u_X8_add_28, u_X8_add_29, u_X8_add_32, u_X8_add_35, u_X8_add_36, u_X8_add_37, u_X8_add_38, u_X8_add_41, u_X8_add_42, u_X8_add_45, u_X8_add_46, u_X8_add_47, u_X8_add_50, u_X8_add_51, u_X8_add_52, u_X8_add_53, u_X8_add_54, u_X8_add_55, u_X8_add_56, u_X8_add_59, u_X8_add_60, u_X8_add_61, u_X8_add_62, u_X8_add_63, u_X8_add_64, u_X8_add_65, u_X8_add_66, u_X8_add_69, u_X8_add_70, u_X8_add_71, q.ob, pp, ph, b32_f, if_true, xgo_some, xgo_none, xgoI_none, xcat_n, xcat_i, xcat_r, xcat_z, List.length_nil, List.length_cons, List.getD_cons_zero, List.getD_cons_succ, List.set_cons_zero, List.set_cons_succ, Nat.zero_le, Nat.reduceAdd, Nat.reduceLeDiff, Nat.reduceEqDiff, reduceIte]
    rfl
  | true =>
    rw [e1] at pp
    rw [if_pos rfl]
    by_cases h2 : L.length + 1 ≤ 64
    · have n64 : ¬ nI L.length = 64 := fun z => by
        have := (nI_eq (b := 64) (by omega) (by omega)).mp z
        omega
      rw [if_pos h2]
      have ph := m_holds q 0
      rw [if_pos rfl] at ph
      have q0 := mo_z0 q 0
      obtain ⟨h1, f, a1, a2, a3, a4⟩ := MP_save q0 r (by rw [va_up_ne _ _ (by decide)]; exact z4) h6 w
      have q1 := mo_w a2 (k := 1) (by decide) (by decide) (1 + L.length) v
      rw [va_up_ne _ _ (show 1 ≠ 3 by decide)] at q1
      have q2 := mo_w q1 (k := 1) (by decide) (by decide) 0 (nI (L.length + 1))
      rw [va_up_self, va_up_up] at q2
      have hx : xix (nI (1 + L.length)) 117 := xix_nI (by omega) (by decide)
      have e0 : va_up (A 1) (1 + L.length) v 0 = nI L.length := by rw [va_up_ne _ _ (by omega)]; exact r1
      refine ⟨_, ?_, MP_mk q2 (by rw [va_up_ne _ _ (by decide), va_up_self]) (rS_push r (by omega) v) (va_up_self _ _ _) (take6_le _) a3 (by rw [va_up_ne _ _ (by decide), va_up_ne _ _ (by decide)]; exact z6) hC hT, (((xFr_mo _ _ _ _).tr a4).tr (xFr_si _ _ _ _ _ (by decide))).tr (xFr_si _ _ _ _ _ (by decide))⟩
      simp only [u_X8_add_0, u_X8_add_1, u_X8_add_2, u_X8_add_3, u_X8_add_6, u_X8_add_9, u_X8_add_10, u_X8_add_13, u_X8_add_14, u_X8_add_17, u_X8_add_18, u_X8_add_19, u_X8_add_21, u_X8_add_24, u_X8_add_25, u_X8_add_28, u_X8_add_29, u_X8_add_32, u_X8_add_35, u_X8_add_36, u_X8_add_37, u_X8_add_38, u_X8_add_41, u_X8_add_42, u_X8_add_45, u_X8_add_46, u_X8_add_47, u_X8_add_50, u_X8_add_51, u_X8_add_52, u_X8_add_53, u_X8_add_54, u_X8_add_55, u_X8_add_56, u_X8_add_59, u_X8_add_60, u_X8_add_61, u_X8_add_62, u_X8_add_63, u_X8_add_64, u_X8_add_65, u_X8_add_66, u_X8_add_69, u_X8_add_70, u_X8_add_71, q.ob, q.a1, q0.ob, pp, ph, b32_t, i10, x0117, c00, r1, n64, a1, a2.ob, a2.a1, va_up_ne A f (show 1 ≠ 3 by decide), nI_s1, hx, nI_clamp (show 1 + L.length < 2 ^ 31 by omega), q1.ob, q1.a1, va_up_self, e0, nI_of1, q2.ob, q2.a1, if_true, if_false, xgo_some, xgo_none, xgoI_none, xcat_n, xcat_i, xcat_r, xcat_z, List.length_nil, List.length_cons, List.getD_cons_zero, List.getD_cons_succ, List.set_cons_zero, List.set_cons_succ, Nat.zero_le, Nat.reduceAdd, Nat.reduceLeDiff, Nat.reduceEqDiff, reduceIte]
    · have n64 : nI L.length = 64 := by rw [show L.length = 64 by omega]; rfl
      rw [if_neg h2]
      have ph := m_holds q 2
      rw [if_neg (by decide)] at ph
      refine ⟨_, 0, ?_, MP_no q r z4 h6 w z6 hC hT, xFr_mo _ _ _ _⟩
      simp only [u_X8_add_0, u_X8_add_1, u_X8_add_2, u_X8_add_3, u_X8_add_6, u_X8_add_9, u_X8_add_10, u_X8_add_13, u_X8_add_14, u_X8_add_17, u_X8_add_18, u_X8_add_19, u_X8_add_21, u_X8_add_24, u_X8_add_25, u_X8_add_28, u_X8_add_29, u_X8_add_32, u_X8_add_35, u_X8_add_36, u_X8_add_37, u_X8_add_38, u_X8_add_41, u_X8_add_42, u_X8_add_45, u_X8_add_46, u_X8_add_47, u_X8_add_50, u_X8_add_51, u_X8_add_52, u_X8_add_53, u_X8_add_54, u_X8_add_55, u_X8_add_56, u_X8_add_59, u_X8_add_60, u_X8_add_61, u_X8_add_62, u_X8_add_63, u_X8_add_64, u_X8_add_65, u_X8_add_66, u_X8_add_69, u_X8_add_70, u_X8_add_71, q.ob, q.a1, pp, ph, b32_t, i10, x0117, c00, r1, n64, if_true, if_false, xgo_some, xgo_none, xgoI_none, xcat_n, xcat_i, xcat_r, xcat_z, List.length_nil, List.length_cons, List.getD_cons_zero, List.getD_cons_succ, List.set_cons_zero, List.set_cons_succ, Nat.zero_le, Nat.reduceAdd, Nat.reduceLeDiff, Nat.reduceEqDiff, reduceIte]
      rfl
end MZ
