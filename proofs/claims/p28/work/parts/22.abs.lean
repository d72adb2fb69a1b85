/-! States as what they mean: the row, the names, the settings, the two counts. -/
abbrev xS : Type := List Int32 × xNs × Int32 × Int32 × Int32 × Int32
def zN (N : xNs) : Prop := ∀ i, 24 ≤ i → N.1 i = 0 ∧ N.2.1 i = 0 ∧ N.2.2.1 i = 0 ∧ N.2.2.2 i = 0
def isS (h : xH) (b : Nat) (X : xS) : Prop := zN X.2.1 ∧ ∃ n f se ti, seg f 0 n = X.1 ∧ se 0 = X.2.2.1 ∧ se 1 = X.2.2.2.1 ∧ isSt h b n f X.2.1.1 X.2.1.2.1 X.2.1.2.2.1 X.2.1.2.2.2 se X.2.2.2.2.1 X.2.2.2.2.2 ti
theorem isS.mk {h : xH} {b n : Nat} {f se ti : Nat → Int32} {N : xNs} {sp go : Int32} (z : zN N) (q : isSt h b n f N.1 N.2.1 N.2.2.1 N.2.2.2 se sp go ti) : isS h b (seg f 0 n, N, se 0, se 1, sp, go) := ⟨z, n, f, se, ti, rfl, rfl, rfl, q⟩
theorem isS_fr {h h' : xH} {lo hi b : Nat} {X : xS} (q : isS h b X) (a : xFr lo hi h h') (hc : b + 16 ≤ lo ∨ hi ≤ b) : isS h' b X := by
  obtain ⟨z, n, f, se, ti, e1, e2, e3, e4⟩ := q
  exact ⟨z, n, f, se, ti, e1, e2, e3, isSt_fr e4 a hc⟩
theorem isS.len {h : xH} {b : Nat} {X : xS} (q : isS h b X) : X.1.length ≤ 64 := by
  obtain ⟨z, n, f, se, ti, e1, e2, e3, e4⟩ := q
  rw [← e1, seg_len]
  exact e4.2.1.2.2
theorem zN_cpy {N M : xNs} (z : zN N) (w : zN M) : (cpy N.1 M.1, cpy N.2.1 M.2.1, cpy N.2.2.1 M.2.2.1, cpy N.2.2.2 M.2.2.2) = M := by
  have e : ∀ f g : Nat → Int32, (∀ i, 24 ≤ i → f i = 0) → (∀ i, 24 ≤ i → g i = 0) → cpy f g = g := by
    intro f g hf hg
    funext i
    unfold cpy
    by_cases hi : i < 24
    · rw [if_pos hi]
    · rw [if_neg hi, hf i (by omega), hg i (by omega)]
  rw [e _ _ (fun i hi => (z i hi).1) (fun i hi => (w i hi).1), e _ _ (fun i hi => (z i hi).2.1) (fun i hi => (w i hi).2.1), e _ _ (fun i hi => (z i hi).2.2.1) (fun i hi => (w i hi).2.2.1), e _ _ (fun i hi => (z i hi).2.2.2) (fun i hi => (w i hi).2.2.2)]
theorem c_copy {h : xH} {b d : Nat} {X Y : xS} (q : isS h b X) (qd : isS h d Y) (hd : d + 16 ≤ b ∨ b + 16 ≤ d) :
    ∃ h', xev 48 [.ref b, .ref d] h = some (.inl none, h') ∧ isS h' b Y ∧ xFr b (b + 16) h h' := by
  obtain ⟨z, n, f, se, ti, e1, e2, e3, e4⟩ := q
  obtain ⟨w, m, g, se2, ti2, f1, f2, f3, f4⟩ := qd
  obtain ⟨h', a1, a2, a3⟩ := m_State_copy e4 f4 hd
  refine ⟨h', a1, ?_, a3⟩
  have ez := zN_cpy z w
  have e5 := congrArg (fun z => z.1) ez
  have e6 := congrArg (fun z => z.2.1) ez
  have e7 := congrArg (fun z => z.2.2.1) ez
  have e8 := congrArg (fun z => z.2.2.2) ez
  simp only at e5 e6 e7 e8
  rw [e5, e6, e7, e8] at a2
  refine ⟨w, m, _, _, ti, ?_, ?_, ?_, a2⟩
  · rw [← f1]
    exact seg_cg m 0 (fun x _ hx => if_pos (by omega))
  · exact f2
  · exact f3
theorem zN_out {N : xNs} (z : zN N) {m : Nat} (hm : m < 24) : zN (nsOut N m) := by
  intro i hi
  obtain ⟨a, b, c, d⟩ := z i hi
  simp only [nsOut, va_up_ne _ _ (show i ≠ m by omega)]
  exact ⟨a, b, c, d⟩
theorem zN_fgIn (L : List Int32) (d : Nat) : ∀ (k m : Nat) (N : xNs), m + k ≤ 24 → zN N → zN (fgIn L d m k N) := by
  intro k
  induction k with
  | zero => intro m N _ z; exact z
  | succ k ih =>
    intro m N hm z
    rw [fgIn]
    refine ih (m + 1) _ (by omega) ?_
    unfold fgStep
    split
    · exact zN_out z (by omega)
    · exact z
theorem zN_fgOut (L : List Int32) : ∀ (d : Nat) (N : xNs), zN N → zN (fgOut L d N) := by
  intro d
  induction d with
  | zero => intro N z; exact z
  | succ d ih => intro N z; rw [fgOut]; exact ih _ (zN_fgIn L (d + 1) 16 8 N (by omega) z)
theorem c_forget {h : xH} {b : Nat} {L : List Int32} {N : xNs} {a r sp go : Int32} (q : isS h b (L, N, a, r, sp, go)) :
    ∃ h', xev 58 [.ref b] h = some (.inl none, h') ∧ isS h' b (L, fgOut L 16 N, a, r, sp, go) ∧ xFr b (b + 16) h h' := by
  obtain ⟨z, n, f, se, ti, e1, e2, e3, e4⟩ := q
  obtain ⟨h', a1, a2, a3⟩ := m_State_forget e4
  simp only at e1 e2 e3 a2
  rw [e1] at a2
  have zz := zN_fgOut L 16 N z
  revert a2 zz
  generalize fgOut L 16 N = M
  intro a2 zz
  exact ⟨h', a1, ⟨zz, n, f, se, ti, e1, e2, e3, a2⟩, a3⟩
theorem c_release {h : xH} {b : Nat} {L : List Int32} {N : xNs} {a r sp go : Int32} (q : isS h b (L, N, a, r, sp, go)) {v : Nat} (hv : v < 24) (e1 : N.1 v ≠ nI v) (e2 : N.2.1 v ≠ nI v) (hc : L.length + cntI L (nI v) ≤ 64) :
    ∃ h', xev 61 [.ref b, .int (nI v)] h = some (.inl none, h') ∧ isS h' b (rlI (nI v) (N.1 v) (N.2.1 v) L, nsOut N v, a, r, sp, go + 1) ∧ xFr b (b + 16) h h' := by
  obtain ⟨z, n, f, se, ti, g1, g2, g3, g4⟩ := q
  simp only at g1 g2 g3 g4 z
  rw [← g1, seg_len] at hc
  obtain ⟨h', m, g, a1, a2, a3, a4⟩ := m_State_release hv e1 e2 g4 hc
  rw [g1] at a3
  exact ⟨h', a1, ⟨zN_out z hv, m, g, se, ti, a3, g2, g3, a2⟩, a4⟩
