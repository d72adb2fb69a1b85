/-! The small machine's runs are the real machine's. -/
def xhq (q : xC ⊕ (xR × xH)) : xH := match q with
  | .inl c => c.2.2.2
  | .inr r => r.2
theorem xloc_mono {y n : Nat} {i : Instr} {L : xL} {st : List Value} {h : xH} {q : xC ⊕ (xR × xH)} (hl : xloc y i n L st h = some q) : h.2.2.1 ≤ (xhq q).2.2.1 ∧ h.2.2.2 ≤ (xhq q).2.2.2 := by
  cases i <;> simp only [xloc, xbr] at hl
  all_goals
    (repeat' split at hl)
    all_goals first
      | (cases hl; done)
      | (simp only [xnx, Option.some.injEq] at hl; subst hl; exact ⟨Nat.le_refl _, Nat.le_refl _⟩)
      | (simp only [xnx, Option.some.injEq] at hl; subst hl; exact ⟨Nat.le_add_right _ _, Nat.le_add_right _ _⟩)
      | (cases hl; exact ⟨Nat.le_refl _, Nat.le_refl _⟩)
      | (cases hl; exact ⟨Nat.le_add_right _ _, Nat.le_add_right _ _⟩)
theorem xloc_len {y n pc' : Nat} {i : Instr} {L L' : xL} {st st' : List Value} {h h' : xH} (hl : xloc y i n L st h = some (.inl (pc', L', st', h'))) : L'.length = L.length := by
  cases i <;> simp only [xloc, xbr] at hl
  all_goals
    (repeat' split at hl)
    all_goals first
      | (cases hl; done)
      | (obtain ⟨-, rfl, -, -⟩ := xnx_inj hl; rfl)
      | (obtain ⟨-, rfl, -, -⟩ := xnx_inj hl; exact xs1_len _ _ _)
      | (obtain ⟨-, rfl, -, -⟩ := xnx_inj hl; exact xs2_len _ _ _)
/-- what a method's run came to, as the real machine's contract has it -/
def xQ (G : xG) (r : xR) (h1 : xH) : Array Value → State → Outcome → State → Prop := fun _ st o t => ∃ v, r = .inl v ∧ o = .returned v ∧ xRp G t h1 t.heap ∧ va_F (xA G) st t
def xX (G : xG) (r : xR) (h1 : xH) : String → State → State → Prop := fun E st t => ∃ k, r = .inr k ∧ E = xec k ∧ xRp G t h1 t.heap ∧ va_F (xA G) st t
def xPc (G : xG) (a : List Value) (h : xH) : Array Value → State → Prop := fun v U => v = a.toArray ∧ xRp G U h U.heap ∧ xEn G U
theorem xPc_blind {G : xG} {a : List Value} {h : xH} : FrameBlind (xPc G a h) := by
  intro v U g mk ⟨h1, h2, h3⟩
  have hvm : U.vm.Alike (U.calling g mk v).vm := Vm.Alike.refl U.vm
  exact ⟨h1, xRp_moved hvm h2, xEn_moved h3 (State.WarmedH.refl U) (fun _ _ _ => rfl)⟩
def xEnd (G : xG) (y : Nat) (p : Program) (l : Launch) (e : Env) (R : Room) (s : State) (m : MethodId) (args : Array Value) (below : List Frame) (meth : Method) (c : Code) (Q : State → Prop) (c0 s0 : Nat) (r : xR × xH) : Prop :=
  ∀ (pc : Nat) (L : xL) (st : List Value) (h : xH) (i : Instr) (n : Nat) (ls : Array Slot) (H : Heap) (locs : List Loc) (cells slots : Nat), xop y pc = some (i, n) → xloc y i n L st h = some (.inr r) → xLr ls L → L.length = xml y → xRp G s h H → va_S (xA G) s.heap H locs → cells + c0 = h.2.2.1 → slots + s0 = h.2.2.2 →
    W p l e R s m args below meth c H locs cells slots Q (F0 m pc ls st)
theorem xop_ok {y pc n : Nat} {i : Instr} (h : xop y pc = some (i, n)) : ∃ i0 len, decode (xmb y) pc = .ok (i0, len) ∧ xtr y pc i0 len = some (i, n) := by
  unfold xop at h
  split at h
  · rename_i i0 len hd
    exact ⟨i0, len, hd, h⟩
  · cases h
theorem xfit_exc (e : Nat) (h : e < 3) : Bundle.fit (xec e) = true := by
  have key : ∀ e, e < 3 → Bundle.fit (xec e) = true := by decide +kernel
  exact key e h
theorem xfit_names : ∀ n ∈ xexn, Bundle.fit n = true := by decide +kernel
theorem xini_exc (e : Nat) (h : e < 3) : Cond.initialized (xec e) ∈ xgt := by
  have key : ∀ e, e < 3 → Cond.initialized (xec e) ∈ lw_tbl ∧ goodWord (Cond.initialized (xec e)) = true := by decide +kernel
  exact List.mem_filter.mpr (key e h)
/-- instructions by the kind of their step -/
def xkind (i : Instr) : Nat := match i with
  | .ireturn => 1
  | .lreturn => 2
  | .dreturn => 3
  | .return_ => 4
  | .new _ => 5
  | .invokevirtual _ => 6
  | .invokestatic _ => 7
  | .invokespecial _ => 8
  | _ => 0
theorem xtr_kind {y pc len n : Nat} {i i0 : Instr} (htr : xtr y pc i0 len = some (i, n)) : xkind i0 = xkind i := by
  cases i0 <;> simp only [xtr] at htr
  all_goals
    (repeat' split at htr)
    all_goals first
      | (cases htr; done)
      | (cases htr; rfl)
      | (obtain ⟨t, ht, e⟩ := Option.map_eq_some_iff.mp htr; cases e; rfl)
theorem xloc_kind {y n : Nat} {i : Instr} {L : xL} {st : List Value} {h : xH} {r : xR × xH} (hl : xloc y i n L st h = some (.inr r)) : 1 ≤ xkind i ∧ xkind i ≤ 5 := by
  cases i <;> simp only [xloc, xbr] at hl
  all_goals
    (repeat' split at hl)
    all_goals first
      | (cases hl; done)
      | exact ⟨by simp [xkind], by simp [xkind]⟩
theorem xca_kind {i : Instr} {st : List Value} {h : xH} {q : Nat × List Value × List Value} (hq : xca i st h = some q) : 6 ≤ xkind i := by
  unfold xca at hq
  split at hq
  · exact Nat.le_refl _
  · simp [xkind]
  · simp [xkind]
  · cases hq
/-- a body's last step: a return -/
theorem xend_ret {G : xG} {y : Nat} {p : Program} {l : Launch} {e : Env} {R : Room} {s : State} {m : MethodId} {args : Array Value} {below : List Frame} {meth : Method} {c : Code} {c0 s0 : Nat} (hC : xCx G y p l R s m args meth c)
    {pc len n : Nat} {i i0 : Instr} {L : xL} {st : List Value} {h : xH} {r : xR} {h' : xH} (hd : decode (xmb y) pc = .ok (i0, len)) (htr : xtr y pc i0 len = some (i, n)) (hl : xloc y i n L st h = some (.inr (r, h')))
    {mc ms : Nat} (hmc : mc + c0 = h'.2.2.1) (hms : ms + s0 = h'.2.2.2) (hb0 : c0 + R.cells = h'.2.2.1) (hb1 : s0 + R.slots = h'.2.2.2) {ls : Array Slot} {H : Heap} {locs : List Loc} {cells slots : Nat} (hL : xLr ls L) (hLen : L.length = xml y) (hR : xRp G s h H) (hS : va_S (xA G) s.heap H locs) (hc : cells + c0 = h.2.2.1) (hs : slots + s0 = h.2.2.2) :
    W p l e R s m args below meth c H locs cells slots (vx_MQ below (xQ G r h') (xX G r h') args s mc ms (xA G)) (F0 m pc ls st) := by
  obtain ⟨hx, hb, hml, hr, hlk, hown, hts, hEn, hst, hnm, hfr, hlo, htb⟩ := hC
  have fin : ∀ (v : Option Value) (t : State), r = .inl v → h' = h → t.heap = H → s.WarmedH t.vm → xQ G r h' args s (.returned v) t := by
    intro v t hr hh ht hW
    rw [hr, hh]
    exact ⟨v, rfl, rfl, by rw [ht]; exact xRp_moved hW.alike hR, hS.F ht⟩
  cases i0 with
  | ireturn =>
    obtain ⟨rfl, ee⟩ := xg_if htr
    cases ee
    simp only [xloc] at hl
    split at hl
    · obtain ⟨hn, ee⟩ := xg_if hl
      cases ee
      obtain ⟨ty, h1, h2⟩ := xnr_ok hn
      have e1 : cells = mc := by omega
      have e2 : slots = ms := by omega
      subst e1; subst e2
      exact vx_ret (W.zret hx hb (hr.trans h1) h2 (fun t ht hW => fin _ t rfl rfl ht hW) hS.2.2 hd hlk)
    · cases hl
  | lreturn =>
    obtain ⟨rfl, ee⟩ := xg_if htr
    cases ee
    simp only [xloc] at hl
    split at hl
    · obtain ⟨hn, ee⟩ := xg_if hl
      cases ee
      have e1 : cells = mc := by omega
      have e2 : slots = ms := by omega
      subst e1; subst e2
      exact vx_ret (W.lret hx hb (hr.trans hn) (fun t ht hW => fin _ t rfl rfl ht hW) hS.2.2 hd hlk)
    · cases hl
  | dreturn =>
    obtain ⟨rfl, ee⟩ := xg_if htr
    cases ee
    simp only [xloc] at hl
    split at hl
    · obtain ⟨hn, ee⟩ := xg_if hl
      cases ee
      have e1 : cells = mc := by omega
      have e2 : slots = ms := by omega
      subst e1; subst e2
      exact vx_ret (W.dret hx hb (hr.trans hn) (fun t ht hW => fin _ t rfl rfl ht hW) hS.2.2 hd hlk)
    · cases hl
  | return_ =>
    obtain ⟨rfl, ee⟩ := xg_if htr
    cases ee
    simp only [xloc] at hl
    split at hl
    · obtain ⟨hn, ee⟩ := xg_if hl
      cases ee
      have e1 : cells = mc := by omega
      have e2 : slots = ms := by omega
      subst e1; subst e2
      exact vx_ret (W.vret hx hb (hr.trans hn) (fun t ht hW => fin _ t rfl rfl ht hW) hS.2.2 hd hlk)
    · cases hl
  | new k =>
    obtain ⟨rfl, h1⟩ := xg_if2 htr
    split at h1
    · rename_i hpf
      cases h1
      obtain ⟨hw, hc9⟩ := xpf_ok hpf
      simp only [xloc] at hl
      rw [if_pos (by omega)] at hl
      obtain ⟨-, hl⟩ := xg_if2 hl
      cases hl
    · rename_i ek _ hpf
      obtain ⟨hth, ee⟩ := xg_if h1
      cases ee
      obtain ⟨hw, he3⟩ := xpf_ok hpf
      simp only [xloc] at hl
      rw [if_neg (by omega)] at hl
      obtain ⟨hst4, ee⟩ := xg_if hl
      rw [Nat.add_sub_cancel_left] at ee
      cases ee
      simp only [xthr, Bool.and_eq_true, decide_eq_true_eq] at hth
      obtain ⟨⟨⟨⟨⟨⟨⟨⟨ho7, -⟩, d3⟩, d4⟩, d6⟩, d9⟩, hh⟩, hf6⟩, hl90⟩ := hth
      split at d4
      · rename_i is hd4
        split at d4
        · rename_i hps
          rw [ho7] at hw hown
          obtain ⟨sa, hsa⟩ := hEn.2.2.2.1 _ _ _ hps
          obtain ⟨g1, g2⟩ := xthrow_ok _ he3
          have hlt : l.stackTraces = false := hst
          have hat : ∀ w ∈ vx_atS RX7 (xic ek) (xec ek) xexn, w.before args s = true := vx_hat (B := lw_tbl.filter xnw) (fun w hw => hts w (List.mem_filter.mpr ⟨g1 w hw, (List.mem_filter.mp hw).2⟩)) (fun w hw => List.mem_filter.mpr (g2 w hw)) (fun w hw => va_Nw.use (xnw_tabs (List.mem_filter.mp hw).2) (hEn.2.1 w (List.mem_filter.mp hw).1 (List.mem_filter.mp hw).2))
          have hot : ∀ w ∈ Cond.classLink RX7 k (xec ek) :: Cond.initialized (xec ek) :: vx_atS RX7 (xic ek) (xec ek) xexn, vx_ot w = true := by
            intro w hw
            rcases List.mem_cons.mp hw with rfl | hw
            · rfl
            rcases List.mem_cons.mp hw with rfl | hw
            · rfl
            unfold vx_ot
            by_cases hg : goodWord w = true
            · rw [hg, Bool.or_true]
            · have := g2 w (List.mem_filter.mpr ⟨hw, by simp [hg]⟩)
              rw [xnw_tabs this.2, Bool.true_or]
          refine vx_throwS (names := xexn) hx hb hlt hown (xfit_exc _ he3) xfit_names (hts _ hw) (hts _ (xini_exc _ he3)) hsa hat hot hEn.2.2.2.2.1 hEn.2.2.2.2.2.1 hS (by rw [hml, ← hLen]; exact hL.1) hd d3 hd4 d6 d9 (fun x hx => by rw [htb (Or.inl ho7), hh] at hx; exact nomatch hx) (by show 2 + 3 < _; omega) (by have := xcat_sum hst4; show _ + (13 * (2 + 1) + 43) ≤ _; omega) ?_ ?_ hlk ?_ hS.2.2 ?_ ?_
          · simp only [xdead] at hb0; omega
          · simp only [xdead] at hb1; omega
          · intro t hW hz hq
            refine ⟨_, rfl, rfl, ⟨fun a e he => xat_kept (xat_moved hW (hR.1 a e he)) (hq a (xat_lt (hR.1 a e he))), fun hn => absurd rfl hn, Nat.le_trans hR.2.2 hz⟩, Nat.le_trans hS.1 hz, fun q h1 h2 => (hq q (Nat.lt_of_lt_of_le h1 hS.1)).trans (hS.2.1 q h1 h2)⟩
          · simp only [xdead] at hmc; omega
          · simp only [xdead] at hms; omega
        · cases d4
      · cases d4
    · cases h1
  | _ =>
    have h9 := xloc_kind hl
    rw [← xtr_kind htr] at h9
    exact absurd h9 (by simp [xkind])
