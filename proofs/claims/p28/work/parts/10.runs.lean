/-! Every run of the small machine is a run of the real one. -/
theorem xret_out {sp : Bool} {y pc n : Nat} {L : xL} {rest : List Value} {r : xR} {h1 : xH} {q : xC ⊕ (xR × xH)} (hr : xret sp y pc n L rest (some (r, h1)) = some q) :
    (∃ v, r = .inl v ∧ q = .inl (n, L, v.toList ++ rest, h1)) ∨ (∃ e hp k, r = .inr e ∧ sp = false ∧ xhs y pc e (xmh y) = some (hp, k) ∧ q = .inl (hp, (xs1 L k .null).set k none, [], h1)) := by
  unfold xret at hr
  split at hr
  · rename_i v h he
    cases he
    cases hr
    exact Or.inl ⟨_, rfl, rfl⟩
  · rename_i h he
    cases he
    cases hr
    exact Or.inl ⟨_, rfl, rfl⟩
  · rename_i e h he
    cases he
    split at hr
    · rename_i hp k hx
      cases hr
      cases sp with
      | true => simp at hx
      | false => exact Or.inr ⟨_, _, _, rfl, rfl, by simpa using hx, rfl⟩
    · cases hr
  · rename_i he
    cases he
theorem xrun_mono : ∀ (k y pc : Nat) (L : xL) (st : List Value) (h : xH) (r : xR) (h' : xH), xrun k y pc L st h = some (r, h') → h.2.2.1 ≤ h'.2.2.1 ∧ h.2.2.2 ≤ h'.2.2.2 := by
  intro k
  induction k with
  | zero => intro y pc L st h r h' hr; simp [xrun] at hr
  | succ k ih =>
    intro y pc L st h r h' hr
    rw [xrun] at hr
    cases hs : xstep (fun z a h => xrun k z 0 (xent z a) [] h) y (xop y pc) pc L st h with
    | none => simp [hs] at hr
    | some q =>
      rw [hs] at hr
      have key : h.2.2.1 ≤ (xhq q).2.2.1 ∧ h.2.2.2 ≤ (xhq q).2.2.2 := by
        cases ho : xop y pc with
        | none => rw [ho] at hs; simp [xstep] at hs
        | some w =>
          obtain ⟨i, n⟩ := w
          rw [ho] at hs
          unfold xstep at hs
          cases ha : xca i st h with
          | none => simp only [ha] at hs; exact xloc_mono hs
          | some w =>
            obtain ⟨z, a, rest⟩ := w
            simp only [ha] at hs
            cases hz : xrun k z 0 (xent z a) [] h with
            | none => rw [hz] at hs; simp [xret] at hs
            | some v =>
              obtain ⟨r1, h1⟩ := v
              rw [hz] at hs
              have := ih _ _ _ _ _ _ _ hz
              rcases xret_out hs with ⟨v, -, rfl⟩ | ⟨e, hp, k, -, -, -, rfl⟩ <;> exact this
      cases q with
      | inl c =>
        obtain ⟨pc1, L1, st1, h1⟩ := c
        have := ih _ _ _ _ _ _ _ (show xrun k y pc1 L1 st1 h1 = some (r, h') from hr)
        exact ⟨Nat.le_trans key.1 this.1, Nat.le_trans key.2 this.2⟩
      | inr r1 =>
        cases (show some r1 = some (r, h') from hr)
        exact key
theorem xrm_ok {y z : Nat} (h : xrm y z = true) : xmf z + 1 ≤ xmf y ∧ 8 + (xml z + 11) + xmc z ≤ xmc y := by
  unfold xrm at h
  rw [Bool.and_eq_true] at h
  exact ⟨of_decide_eq_true h.1, of_decide_eq_true h.2⟩
theorem xcw_code {z : Nat} (h : xmh z = []) : xws z = .code (xmy z) (xmb z) (xml z) (xmr z) :: xgt := by
  unfold xws xcw
  rw [if_pos h]
theorem xcw_with {z : Nat} (h : ¬ xmh z = []) : xws z = .codeWith (xmy z) (xmb z) (xml z) (xmr z) (xmh z) :: xgt := by
  unfold xws xcw
  rw [if_neg h]
set_option maxHeartbeats 1000000 in
/-- ONE STEP that calls -/
theorem xcall_W {G : xG} {y : Nat} {p : Program} {l : Launch} {e : Env} {R : Room} {s : State} {m : MethodId} {args : Array Value} {below : List Frame} {meth : Method} {c : Code} {Q : State → Prop} {c0 s0 k : Nat} (hP : xP G l k) (hC : xCx G y p l R s m args meth c)
    {pc len n pc' z : Nat} {i i0 : Instr} {L L' : xL} {st st' a rest : List Value} {h h' : xH} (hd : decode (xmb y) pc = .ok (i0, len)) (htr : xtr y pc i0 len = some (i, n)) (hq : xca i st h = some (z, a, rest)) (hl : xret (xsp i) y pc n L rest (xrun k z 0 (xent z a) [] h) = some (.inl (pc', L', st', h')))
    (hbc : h'.2.2.1 ≤ c0 + R.cells) (hbs : h'.2.2.2 ≤ s0 + R.slots) {ls : Array Slot} {H : Heap} {locs : List Loc} {cells slots : Nat} (hL : xLr ls L) (hLen : L.length = xml y) (hR : xRp G s h H) (hS : va_S (xA G) s.heap H locs) (hc : cells + c0 = h.2.2.1) (hs : slots + s0 = h.2.2.2)
    (kk : ∀ (ls' : Array Slot) (H' : Heap) (locs' : List Loc) (cells' slots' : Nat), xLr ls' L' → xRp G s h' H' → va_S (xA G) s.heap H' locs' → cells' + c0 = h'.2.2.1 → slots' + s0 = h'.2.2.2 → W p l e R s m args below meth c H' locs' cells' slots' Q (F0 m pc' ls' st')) :
    W p l e R s m args below meth c H locs cells slots Q (F0 m pc ls st) := by
  obtain ⟨hx, hb, hml, hr, hlk, hown, hts, hEn, hst, hnm, hfr, hlo, htb⟩ := id hC
  cases hz : xrun k z 0 (xent z a) [] h with
  | none => rw [hz] at hl; simp [xret] at hl
  | some w =>
    obtain ⟨r, h1⟩ := w
    rw [hz] at hl
    obtain ⟨hm1, hm2⟩ := xrun_mono _ _ _ _ _ _ _ _ hz
    have hh1 : h' = h1 := by
      rcases xret_out hl with ⟨v, -, hv⟩ | ⟨e, hp, k, -, -, -, hv⟩ <;> (cases hv; rfl)
    subst hh1
    have hPc : ∀ U : State, U.heap = H → s.WarmedH U.vm → xPc G a h a.toArray U := fun U hU hW => ⟨rfl, by rw [hU]; exact xRp_moved hW.alike hR, xEn_moved hEn hW (fun q h1 h2 => by rw [hU]; exact hS.2.1 q h1 h2)⟩
    have hsize : ls.size = xml y := by rw [hL.1]; exact hLen
    have hf : cells + (h'.2.2.1 - h.2.2.1) ≤ R.cells ∧ slots + (h'.2.2.2 - h.2.2.2) ≤ R.slots := ⟨by omega, by omega⟩
    have k1 : n = pc + 3 → ∀ (v : Option Value) (H1 : Heap) (locs1 : List Loc), r = .inl v → xRp G s h' H1 → va_S (xA G) s.heap H1 locs1 → W p l e R s m args below meth c H1 locs1 (cells + (h'.2.2.1 - h.2.2.1)) (slots + (h'.2.2.2 - h.2.2.2)) Q (F0 m (pc + 3) ls (v.toList ++ rest)) := by
      intro hn v H1 locs1 hv hR1 hS1
      subst hn
      rcases xret_out hl with ⟨v', hv', he⟩ | ⟨e0, hp, k0, hv', -, -, -⟩
      · cases hv.symm.trans hv'
        cases he
        exact kk _ _ _ _ _ hL hR1 hS1 (by omega) (by omega)
      · cases hv.symm.trans hv'
    have k2 : ∀ (e0 : Nat) (H1 : Heap) (locs1 : List Loc) (q : Nat) (ce : Cell), r = .inr e0 → xRp G s h' H1 → va_S (xA G) s.heap H1 locs1 → H1[q]? = some ce → ce.vm = .none → s.vm.findClass (xec e0) = some ce.cls → vx_W p l e R s m args below meth c H1 locs1 (cells + (h'.2.2.1 - h.2.2.1)) (slots + (h'.2.2.2 - h.2.2.2)) Q (F0 m pc ls rest) q := by
      intro e0 H1 locs1 q ce hv hR1 hS1 hq1 hq2 hq3
      rcases xret_out hl with ⟨v', hv', -⟩ | ⟨e1, hp, k0, hv', -, hh, he⟩
      · cases hv.symm.trans hv'
      · cases hv.symm.trans hv'
        cases he
        exact x_caught hC hh hL hLen hq1 hq2 hq3 (fun ls' hl' => kk _ _ _ _ _ hl' hR1 hS1 (by omega) (by omega))
    unfold xca at hq
    split at hq
    · rename_i z0
      split at hq
      · rename_i b rest0 hdrop
        obtain ⟨⟨hrc, h4, hlen⟩, he⟩ := xg_if hq
        cases he
        obtain ⟨kx, bx, rfl, rfl, rfl, hpf, hrm, hhh⟩ := xtr_V htr
        obtain ⟨hw, hzc, hin, hsel⟩ := xpf_ok hpf
        obtain ⟨hr1, hr2⟩ := xrm_ok hrm
        obtain ⟨fs, hat⟩ := xrcv_at hR hrc
        have h9 : xmo z < 8 := by
          obtain ⟨-, r9, h9, -⟩ := hat
          exact (List.getElem?_eq_some_iff.mp h9).1
        have hrecv := va_recv (q0 := 0) hEn.1 (xP1o hat) (xcl_get h9) rfl
        have hM := xmet hP hz hzc hlen hst hm1 hm2
        have htk : (st.take (xna z)).length = xna z := by
          have hne : st.drop (xna z) ≠ [] := by rw [hdrop]; simp
          rw [List.length_take]
          have : ¬ st.length ≤ xna z := fun q => hne (List.drop_eq_nil_iff.mpr q)
          omega
        refine x_ran (vx_runV (C := (xmy z).cls) (As := (st.take (xna z)).reverse) (rest := rest) ⟨hx, hb, hml, hown, hts⟩ hM (cwV (xna z) hts (xgood ?_) (xcw_code hhh) rfl rfl ⟨rfl, hzc.2.2.2.2.1.1, hzc.2.2.2.2.1.2, hzc.2.2.2.2.2⟩ ⟨by show xmf z + 1 ≤ _; omega, by show 8 + (xml z + 11) + xmc z ≤ _; omega⟩) ⟨xPc_blind, by rw [hzc.2.2.1]; exact hrecv, hPc⟩ rfl (by rw [List.length_reverse, htk]) hsize ?_ (lv_room (by have := xcat_sum h4; omega)) hd hf) hS (k1 rfl) k2
        · intro w hw9
          unfold wsV at hw9
          rcases List.mem_append.mp hw9 with hw9 | hw9
          · simp only [List.mem_cons, List.not_mem_nil, or_false] at hw9
            rcases hw9 with rfl | rfl | rfl | rfl
            · exact hw
            · exact hin
            · exact hsel
            · exact hzc.2.1
          · exact xws_in hzc w hw9
        · show st = _
          rw [List.reverse_reverse, ← hdrop, List.take_append_drop]
      · cases hq
    · rename_i z0
      obtain ⟨⟨hz1, h4, hkl, hlen⟩, he⟩ := xg_if hq
      cases he
      obtain ⟨kx, bx, rfl, rfl, rfl, hpf, hrm⟩ := xtr_S hz1 htr
      obtain ⟨hw, hzc, hstt⟩ := xpf_ok hpf
      obtain ⟨hr1, hr2⟩ := xrm_ok hrm
      have hM := xmet hP hz hzc hlen hst hm1 hm2
      have htk : (st.take (xna z)).length = xna z := by rw [List.length_take]; omega
      have hdesc : ∀ sig, parseMethodDescriptor (xmy z).desc = some sig → xna z = sig.parameters.length := by
        intro sig hsig
        have := hzc.2.2.2.2.2
        rw [hsig] at this
        exact (Option.some.inj this).symm
      by_cases hhh : xmh z = []
      · refine x_ran (vx_runS (As := (st.take (xna z)).reverse) (rest := st.drop (xna z)) ⟨hx, hb, hml, hown, hts⟩ hM ⟨callB_of (xna z) hts (xgood (xws_in hzc)) (xcw_code hhh) rfl rfl (hts _ hzc.2.1) (hts _ hw) ⟨hzc.2.2.2.2.1.1, hzc.2.2.2.2.1.2, hzc.2.2.2.2.2⟩ ⟨by show xmf z + 1 ≤ _; omega, by show 8 + (xml z + 11) + xmc z ≤ _; omega⟩, hts _ hstt⟩ ⟨xPc_blind, hPc⟩ rfl (by rw [List.length_reverse, htk]) hsize ?_ (lv_room (by have := xcat_sum h4; omega)) hd hf) hS (k1 rfl) k2
        show st = _
        rw [List.reverse_reverse, List.take_append_drop]
      · have hcw : Cond.codeWith (xmy z) (xmb z) (xml z) (xmr z) (xmh z) ∈ xws z := by rw [xcw_with hhh]; exact List.mem_cons_self
        refine x_ran (vx_runSX (hh := xmh z) (As := (st.take (xna z)).reverse) (rest := st.drop (xna z)) ⟨hx, hb, hml, hown, hts⟩ hM ⟨⟨rfl, rfl, by show xmf z + 1 ≤ _; omega, by show 8 + (xml z + 11) + xmc z ≤ _; omega, pay_in hts (xgood (xws_in hzc)), hcw⟩, hts _ (xws_in hzc _ hcw), hts _ hzc.2.1, hzc.2.2.2.2.1, hdesc, hts _ hw, hts _ hstt⟩ ⟨xPc_blind, hPc⟩ rfl (by rw [List.length_reverse, htk]) hsize ?_ (lv_room (by have := xcat_sum h4; omega)) hd hf) hS (k1 rfl) k2
        show st = _
        rw [List.reverse_reverse, List.take_append_drop]
    · rename_i z0
      obtain ⟨hz1, hq⟩ := xg_if2 hq
      split at hq
      · rename_i b rest0 hdrop
        obtain ⟨⟨h4, hlen⟩, he⟩ := xg_if hq
        cases he
        obtain ⟨kx, bx, rfl, rfl, rfl, hpf, hrm⟩ := xtr_I hz1 htr
        obtain ⟨hr1, hr2⟩ := xrm_ok hrm
        have htk : (st.take (xna z)).length = xna z := by
          have hne : st.drop (xna z) ≠ [] := by rw [hdrop]; simp
          rw [List.length_take]
          have : ¬ st.length ≤ xna z := fun q => hne (List.drop_eq_nil_iff.mpr q)
          omega
        obtain ⟨v0, hv0⟩ : ∃ v, r = .inl v := by
          rcases xret_out hl with ⟨v, hv, -⟩ | ⟨e0, hp, k0, -, hsp, -, -⟩
          · exact ⟨v, hv⟩
          · cases hsp
        subst hv0
        have hst2 : st = (st.take (xna z)).reverse.reverse ++ .ref b :: rest := by rw [List.reverse_reverse, ← hdrop, List.take_append_drop]
        rcases hpf with hpf | hpf
        · obtain ⟨hw, hzc, hin, hnm1, hret, hhh⟩ := xpf_ok hpf
          have hM := xmet_plain (xmet hP hz hzc hlen hst hm1 hm2)
          have hcc := xcw_code hhh
          rw [hret] at hcc
          exact x_ranv (va_runI (bytes := xmb z) (maxL := xml z) (b := b) (As := (st.take (xna z)).reverse) (rest := rest) ⟨hx, hb, hml, hown, hts⟩ hM (cwI (xna z) hts (xgood (xws_in hzc)) hcc rfl rfl (hts _ hzc.2.1) (hts _ hw) (hts _ hin) hnm1 ⟨hzc.2.2.2.2.1.1, hzc.2.2.2.2.1.2, hzc.2.2.2.2.2⟩ ⟨by show xmf z + 1 ≤ _; omega, by show 8 + (xml z + 11) + xmc z ≤ _; omega⟩) ⟨xPc_blind, hPc⟩ rfl (by rw [List.length_reverse, htk]) hsize hst2 (lv_room (by have := xcat_sum h4; omega)) hd hf) hS (k1 rfl)
        · obtain ⟨hw, hzc, hin, hnm1, hret, hhh⟩ := xpf_ok hpf
          have hM := xmet_plain (xmet hP hz hzc hlen hst hm1 hm2)
          have hcc := xcw_code hhh
          rw [hret] at hcc
          exact x_ranv (va_runIN (host := "PairNames") (bytes := xmb z) (maxL := xml z) (b := b) (As := (st.take (xna z)).reverse) (rest := rest) ⟨hx, hb, hml, hown, hts⟩ hM ⟨va_cnB (xna z) hts (xgood (xws_in hzc)) hcc rfl rfl (hEn.2.1 _ hw rfl) (hts _ hzc.2.1) ⟨hzc.2.2.2.2.1.1, hzc.2.2.2.2.1.2, hzc.2.2.2.2.2⟩ ⟨by show xmf z + 1 ≤ _; omega, by show 8 + (xml z + 11) + xmc z ≤ _; omega⟩, hnm1, hts _ hin⟩ ⟨xPc_blind, hPc⟩ rfl (by rw [List.length_reverse, htk]) hsize hst2 (lv_room (by have := xcat_sum h4; omega)) hd hf) hS (k1 rfl)
      · cases hq
    · cases hq
/-- THE SOUNDNESS -/
theorem xP_all (G : xG) (l : Launch) : ∀ k : Nat, xP G l k := by
  intro k
  induction k with
  | zero => intro y pc L st h r h' hr; simp [xrun] at hr
  | succ k ih =>
    intro y pc L st h r h' hr p e R s m args below meth c Q c0 s0 hC hE hbc hbs ls H locs cells slots hL hLen hR hS hc hs
    rw [xrun] at hr
    cases ho : xop y pc with
    | none => rw [ho] at hr; simp [xstep] at hr
    | some w =>
      obtain ⟨i, n⟩ := w
      obtain ⟨i0, len, hd, htr⟩ := xop_ok ho
      rw [ho] at hr
      unfold xstep at hr
      cases ha : xca i st h with
      | none =>
        simp only [ha] at hr
        cases hl : xloc y i n L st h with
        | none => simp [hl] at hr
        | some q =>
          rw [hl] at hr
          cases q with
          | inl c1 =>
            obtain ⟨pc1, L1, st1, h1⟩ := c1
            have hr : xrun k y pc1 L1 st1 h1 = some (r, h') := hr
            obtain ⟨hm1, hm2⟩ := xrun_mono _ _ _ _ _ _ _ _ hr
            exact xloc_W hC hd htr hl (by omega) (by omega) hL hLen hR hS hc hs (fun ls' H' locs' cells' slots' g1 g2 g3 g4 g5 => ih y pc1 L1 st1 h1 r h' hr p e R s m args below meth c Q c0 s0 hC hE hbc hbs ls' H' locs' cells' slots' g1 ((xloc_len hl).trans hLen) g2 g3 g4 g5)
          | inr r1 =>
            cases (show some r1 = some (r, h') from hr)
            exact hE pc L st h i n ls H locs cells slots ho hl hL hLen hR hS hc hs
      | some w =>
        obtain ⟨z, a, rest⟩ := w
        simp only [ha] at hr
        cases hl : xret (xsp i) y pc n L rest (xrun k z 0 (xent z a) [] h) with
        | none => simp [hl] at hr
        | some q =>
          rw [hl] at hr
          cases q with
          | inl c1 =>
            obtain ⟨pc1, L1, st1, h1⟩ := c1
            have hr : xrun k y pc1 L1 st1 h1 = some (r, h') := hr
            obtain ⟨hm1, hm2⟩ := xrun_mono _ _ _ _ _ _ _ _ hr
            have hlen1 : L1.length = xml y := by
              cases hz : xrun k z 0 (xent z a) [] h with
              | none => rw [hz] at hl; simp [xret] at hl
              | some w =>
                obtain ⟨r2, h2⟩ := w
                rw [hz] at hl
                rcases xret_out hl with ⟨v, -, hv⟩ | ⟨e0, hp, k0, -, -, -, hv⟩
                · cases hv; exact hLen
                · cases hv; rw [List.length_set, xs1_len]; exact hLen
            exact xcall_W ih hC hd htr ha hl (by omega) (by omega) hL hLen hR hS hc hs (fun ls' H' locs' cells' slots' g1 g2 g3 g4 g5 => ih y pc1 L1 st1 h1 r h' hr p e R s m args below meth c Q c0 s0 hC hE hbc hbs ls' H' locs' cells' slots' g1 hlen1 g2 g3 g4 g5)
          | inr r1 =>
            exfalso
            cases hz : xrun k z 0 (xent z a) [] h with
            | none => rw [hz] at hl; simp [xret] at hl
            | some w =>
              obtain ⟨r2, h2⟩ := w
              rw [hz] at hl
              rcases xret_out hl with ⟨v, -, hv⟩ | ⟨e0, hp, k0, -, -, -, hv⟩ <;> cases hv
