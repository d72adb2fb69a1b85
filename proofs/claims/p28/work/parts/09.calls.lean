/-! Calls, and the whole of a run. -/
theorem xtr_V {y pc len n z : Nat} {i0 : Instr} (htr : xtr y pc i0 len = some (.invokevirtual z, n)) : ∃ k b, i0 = .invokevirtual k ∧ len = 3 ∧ n = pc + 3 ∧ xpf (xmo y) k = some (2, z, b) ∧ xrm y z = true ∧ xmh z = [] := by
  have hk := xtr_kind htr
  cases i0 with
  | invokevirtual k =>
    obtain ⟨rfl, h1⟩ := xg_if2 htr
    split at h1
    · rename_i hpf
      obtain ⟨⟨h2, h3, -⟩, e⟩ := xg_if h1
      cases e
      exact ⟨k, _, rfl, rfl, rfl, hpf, h2, h3⟩
    · cases h1
  | _ => exact absurd hk (by simp [xkind])
theorem xtr_S {y pc len n z : Nat} {i0 : Instr} (hz : z < 1000) (htr : xtr y pc i0 len = some (.invokestatic z, n)) : ∃ k b, i0 = .invokestatic k ∧ len = 3 ∧ n = pc + 3 ∧ xpf (xmo y) k = some (3, z, b) ∧ xrm y z = true := by
  have hk := xtr_kind htr
  cases i0 with
  | invokestatic k =>
    obtain ⟨rfl, h1⟩ := xg_if2 htr
    split at h1
    · rename_i hpf
      obtain ⟨⟨h2, -⟩, e⟩ := xg_if h1
      cases e
      exact ⟨k, _, rfl, rfl, rfl, hpf, h2⟩
    · obtain ⟨-, e⟩ := xg_if h1
      cases e
      omega
    · obtain ⟨-, e⟩ := xg_if h1
      cases e
      omega
    · cases h1
  | _ => exact absurd hk (by simp [xkind])
theorem xtr_I {y pc len n z : Nat} {i0 : Instr} (hz : z < 1000) (htr : xtr y pc i0 len = some (.invokespecial z, n)) : ∃ k b, i0 = .invokespecial k ∧ len = 3 ∧ n = pc + 3 ∧ (xpf (xmo y) k = some (4, z, b) ∨ xpf (xmo y) k = some (5, z, b)) ∧ xrm y z = true := by
  have hk := xtr_kind htr
  cases i0 with
  | invokespecial k =>
    obtain ⟨rfl, h1⟩ := xg_if2 htr
    split at h1
    · rename_i hpf
      obtain ⟨⟨h2, -⟩, e⟩ := xg_if h1
      cases e
      exact ⟨k, _, rfl, rfl, rfl, Or.inl hpf, h2⟩
    · rename_i hpf
      obtain ⟨⟨h2, -⟩, e⟩ := xg_if h1
      cases e
      exact ⟨k, _, rfl, rfl, rfl, Or.inr hpf, h2⟩
    · obtain ⟨-, e⟩ := xg_if h1
      cases e
      omega
    · cases h1
  | _ => exact absurd hk (by simp [xkind])
/-- the claim of a run of k steps: from any frame that holds the picture -/
def xP (G : xG) (l : Launch) (k : Nat) : Prop :=
  ∀ (y pc : Nat) (L : xL) (st : List Value) (h : xH) (r : xR) (h' : xH), xrun k y pc L st h = some (r, h') →
  ∀ (p : Program) (e : Env) (R : Room) (s : State) (m : MethodId) (args : Array Value) (below : List Frame) (meth : Method) (c : Code) (Q : State → Prop) (c0 s0 : Nat), xCx G y p l R s m args meth c → xEnd G y p l e R s m args below meth c Q c0 s0 (r, h') → h'.2.2.1 ≤ c0 + R.cells → h'.2.2.2 ≤ s0 + R.slots →
  ∀ (ls : Array Slot) (H : Heap) (locs : List Loc) (cells slots : Nat), xLr ls L → L.length = xml y → xRp G s h H → va_S (xA G) s.heap H locs → cells + c0 = h.2.2.1 → slots + s0 = h.2.2.2 →
    W p l e R s m args below meth c H locs cells slots Q (F0 m pc ls st)
def xws (z : Nat) : List Cond := xcw z :: xgt
def xrmm (z mc ms : Nat) : Room := { frames := xmf z, cells := mc, slots := ms, locals := xmc z }
theorem xcx_body {G : xG} {z : Nat} {l : Launch} {p : Program} {e : Env} {s s₁ : State} {m : MethodId} {args : Array Value} {below : List Frame} {meth : Method} {c : Code} {rm : Room} (hlt : l.stackTraces = false) (hz : xokc z) (hrm : rm.frames = xmf z ∧ rm.locals = xmc z)
    (B : BodyLoose p l (xmy z) (headSpec (xws z) rm) (xmb z) (xml z) (xmr z) e s m args below meth c s₁) (hml : c.maxLocals = xml z) (htb : c.exceptionTable.toList = tableOf (xmh z)) (hEn : xEn G s) : xCx G z p l (headSpec (xws z) rm).room s m args meth c := by
  have hts := atoms_spec (ws := xws z) B.pre
  refine ⟨B.exec, B.bytes, hml, B.returns, B.notSynchronized, ?_, fun w hw => hts w (List.mem_cons_of_mem _ hw), hEn, hlt, fun hq => (name_of_methodNamed B.named B.method).1.trans hq, Nat.le_of_eq hrm.1.symm, Nat.le_of_eq hrm.2.symm, fun _ => htb⟩
  rw [← hz.2.2.1]
  exact findClass_of_methodNamed B.named
theorem xmet_body {G : xG} {l : Launch} {k z : Nat} {a : List Value} {h h1 : xH} {r : xR} (hP : xP G l k) (hr : xrun k z 0 (xent z a) [] h = some (r, h1)) (hz : xokc z) (hlen : (xargs a).length ≤ xml z) (hlt : l.stackTraces = false) (hm1 : h.2.2.1 ≤ h1.2.2.1) (hm2 : h.2.2.2 ≤ h1.2.2.2)
    {p : Program} {e : Env} {s s₁ : State} {m : MethodId} {args : Array Value} {below : List Frame} {meth : Method} {c : Code}
    (B : BodyLoose p l (xmy z) (headSpec (xws z) (xrmm z (h1.2.2.1 - h.2.2.1) (h1.2.2.2 - h.2.2.2))) (xmb z) (xml z) (xmr z) e s m args below meth c s₁) (hml : c.maxLocals = xml z) (htb : c.exceptionTable.toList = tableOf (xmh z)) (hp : xPc G a h args s) :
    W p l e (headSpec (xws z) (xrmm z (h1.2.2.1 - h.2.2.1) (h1.2.2.2 - h.2.2.2))).room s m args below meth c s.heap [] 0 0 (vx_MQ below (xQ G r h1) (xX G r h1) args s (h1.2.2.1 - h.2.2.1) (h1.2.2.2 - h.2.2.2) (xA G)) (entryFrame m args (xml z)) := by
  obtain ⟨rfl, hR, hEn⟩ := hp
  have hC := xcx_body (G := G) hlt hz ⟨rfl, rfl⟩ B hml htb hEn
  rw [lg_entry_eq]
  refine hP z 0 _ _ _ _ _ hr p e _ s m _ below meth c _ h.2.2.1 h.2.2.2 hC ?_ (by show _ ≤ _ + (h1.2.2.1 - h.2.2.1); omega) (by show _ ≤ _ + (h1.2.2.2 - h.2.2.2); omega) _ _ _ _ _ (xLr_ent hlen) (xent_len hlen) hR va_S.rf (by omega) (by omega)
  intro pc1 L1 st1 h2 i n ls H1 locs cells slots ho hl hL hLen hR1 hS hc hs
  obtain ⟨i0, len, hd, htr⟩ := xop_ok ho
  exact xend_ret hC hd htr hl (by omega) (by omega) (by show h.2.2.1 + (h1.2.2.1 - h.2.2.1) = _; omega) (by show h.2.2.2 + (h1.2.2.2 - h.2.2.2) = _; omega) hL hLen hR1 hS hc hs
/-- a callee's contract out of its run -/
theorem xmet {G : xG} {l : Launch} {k z : Nat} {a : List Value} {h h1 : xH} {r : xR} (hP : xP G l k) (hr : xrun k z 0 (xent z a) [] h = some (r, h1)) (hz : xokc z) (hlen : (xargs a).length ≤ xml z) (hlt : l.stackTraces = false) (hm1 : h.2.2.1 ≤ h1.2.2.1) (hm2 : h.2.2.2 ≤ h1.2.2.2) :
    vx_Met l (xmy z) (xws z) (xrmm z (h1.2.2.1 - h.2.2.1) (h1.2.2.2 - h.2.2.2)) (xPc G a h) (xQ G r h1) (xX G r h1) (h1.2.2.1 - h.2.2.1) (h1.2.2.2 - h.2.2.2) (xA G) := by
  by_cases hh : xmh z = []
  · refine vx_ofW (cc := xmb z) (maxL := xml z) (ret := xmr z) (ws' := xgt) hz.2.2.2.1 (by unfold xws xcw; rw [if_pos hh]) ?_
    intro p e s m args below meth c s₁ B hml htab hp
    refine xmet_body hP hr hz hlen hlt hm1 hm2 B hml ?_ hp
    rw [hh]
    cases ht : c.exceptionTable.toList with
    | nil => rfl
    | cons x t => exact (htab x (by rw [ht]; exact List.mem_cons_self)).elim
  · refine vx_ofWH (cc := xmb z) (maxL := xml z) (ret := xmr z) (hh := xmh z) (ws' := xgt) hz.2.2.2.1 (by unfold xws xcw; rw [if_neg hh]) ?_
    intro p e s m args below meth c s₁ B hml hp
    refine xmet_body hP hr hz hlen hlt hm1 hm2 B hml ?_ hp
    refine vx_table (x := xmy z) (hh := xmh z) (bytes := xmb z) (maxL' := xml z) (ret' := xmr z) B ?_
    have := atoms_spec (ws := xws z) B.pre (xcw z) List.mem_cons_self
    unfold xcw at this
    rw [if_neg hh] at this
    exact this
theorem xmet_plain {G : xG} {l : Launch} {z mc ms : Nat} {Pc : Array Value → State → Prop} {h1 : xH} {v : Option Value} {rm : Room} {ws : List Cond} (hM : vx_Met l (xmy z) ws rm Pc (xQ G (.inl v) h1) (xX G (.inl v) h1) mc ms (xA G)) : Met l (xmy z) ws rm Pc (xQ G (.inl v) h1) mc ms (xA G) := by
  intro p e h1 h2 h3 s m args below h4 h5 h6 h7
  obtain ⟨n, o, g1, g2, g3, g4⟩ := hM p e h1 h2 h3 s m args below h4 h5 h6 h7
  refine ⟨n, o, g1, g2, g3, ?_⟩
  rcases g4 with g4 | ⟨q, -, E, ce, L, ⟨k, hk, -⟩, -⟩
  · exact g4
  · cases hk
theorem xgood {ws : List Cond} (h : ∀ w ∈ ws, w ∈ xgt) : GoodIn xgt ws := fun w hw => ⟨h w hw, good_of_word (xgt_good (h w hw))⟩
theorem xws_in {z : Nat} (hz : xokc z) : ∀ w ∈ xws z, w ∈ xgt := fun w hw => (List.mem_cons.mp hw).elim (fun e => e ▸ hz.1) id
section CALLS
variable {G : xG} {p : Program} {l : Launch} {e : Env} {R : Room} {s : State} {m : MethodId} {args : Array Value} {below : List Frame} {meth : Method} {c : Code} {H : Heap} {locs : List Loc} {cells slots : Nat} {Q : State → Prop}
/-- behind a call -/
theorem x_ran {pc mc ms : Nat} {ls : Array Slot} {st0 rest : List Value} {a : Array Value} {r : xR} {h1 : xH} (hr : vx_Run p l e R s m args below meth c H locs cells slots mc ms (F0 m pc ls st0) rest (xQ G r h1 a) (xX G r h1) (xA G)) (hS : va_S (xA G) s.heap H locs)
    (kk : ∀ (v : Option Value) (H1 : Heap) (locs1 : List Loc), r = .inl v → xRp G s h1 H1 → va_S (xA G) s.heap H1 locs1 → W p l e R s m args below meth c H1 locs1 (cells + mc) (slots + ms) Q (F0 m (pc + 3) ls (v.toList ++ rest)))
    (kx : ∀ (k : Nat) (H1 : Heap) (locs1 : List Loc) (q : Nat) (ce : Cell), r = .inr k → xRp G s h1 H1 → va_S (xA G) s.heap H1 locs1 → H1[q]? = some ce → ce.vm = .none → s.vm.findClass (xec k) = some ce.cls → vx_W p l e R s m args below meth c H1 locs1 (cells + mc) (slots + ms) Q (F0 m pc ls rest) q) :
    W p l e R s m args below meth c H locs cells slots Q (F0 m pc ls st0) := by
  intro T hT X
  rcases hr T hT X with ⟨v, st₀, t, T', L, h0, X', hL, e1, e2, ⟨v', hv, hv2, hRp, hF⟩, st⟩ | ⟨q, st₀, t, T', L, E, ce, h0, X', hL, e1, e2, ⟨k, hk, hE, hRp, hF⟩, hce, hcv, hcl, st⟩
  · cases hv2
    obtain ⟨-, -, k3⟩ := vx_keep h0 e1 hS (fun _ _ z => z) (fun _ z => z) hL hF
    have hvm : s.vm.Alike t.vm := by rw [← e2]; exact X'.warmed.alike
    obtain ⟨t2, a1, b1⟩ := kk v T'.heap (locs ++ L) hv (by rw [e1]; exact xRp_moved hvm.symm hRp) k3 T' rfl X'
    exact ⟨t2, st t2 a1, b1⟩
  · obtain ⟨-, -, k3⟩ := vx_keep h0 e1 hS (fun _ _ z => z) (fun _ z => z) hL hF
    have hvm : s.vm.Alike t.vm := by rw [← e2]; exact X'.warmed.alike
    obtain ⟨t2, a1, b1⟩ := kx k T'.heap (locs ++ L) q ce hk (by rw [e1]; exact xRp_moved hvm.symm hRp) k3 (by rw [e1]; exact hce) hcv (by rw [← hE]; exact hcl) T' rfl X'
    exact ⟨t2, st.trans a1, b1⟩
theorem x_ranv {pc mc ms : Nat} {ls : Array Slot} {st0 rest : List Value} {a : Array Value} {v0 : Option Value} {h1 : xH} (hr : va_Run p l e R s m args below meth c H locs cells slots mc ms (F0 m pc ls st0) rest (xQ G (.inl v0) h1 a) (xA G)) (hS : va_S (xA G) s.heap H locs)
    (kk : ∀ (v : Option Value) (H1 : Heap) (locs1 : List Loc), (.inl v0 : xR) = .inl v → xRp G s h1 H1 → va_S (xA G) s.heap H1 locs1 → W p l e R s m args below meth c H1 locs1 (cells + mc) (slots + ms) Q (F0 m (pc + 3) ls (v.toList ++ rest))) :
    W p l e R s m args below meth c H locs cells slots Q (F0 m pc ls st0) :=
  x_ran (r := .inl v0) (h1 := h1) (fun T hT X => Or.inl (hr T hT X)) hS kk (fun k _ _ _ _ hk => by cases hk)
/-- a handler found by the numbers is the table's -/
theorem xhs_split {y pc e np k : Nat} : ∀ (hh : List (Nat × Nat × Nat × Nat)), xhs y pc e hh = some (np, k) → ∃ (pre suf : List (Nat × Nat × Nat × Nat)) (s t hp ct b : Nat), hh = pre ++ (s, t, hp, ct) :: suf ∧ (s ≤ pc ∧ pc < t) ∧ ct ≠ 0 ∧ xpf (xmo y) ct = some (8, e, b) ∧ ((∃ k' : Fin 4, decode (xmb y) hp = .ok (.astore_n k', 1) ∧ k = k'.val ∧ np = hp + 1) ∨ (decode (xmb y) hp = .ok (.astore k, 2) ∧ np = hp + 2)) ∧ k < xml y ∧
    ∀ q ∈ pre, ¬ (q.1 ≤ pc ∧ pc < q.2.1) ∨ (q.2.2.2 ≠ 0 ∧ ∃ e' b', xpf (xmo y) q.2.2.2 = some (8, e', b') ∧ e' ≠ e) := by
  intro hh
  induction hh with
  | nil => intro h; cases h
  | cons q r ih =>
    intro h
    obtain ⟨s, t, hp0, ct⟩ := q
    unfold xhs at h
    split at h
    · rename_i hcov
      split at h
      · cases h
      · rename_i hct
        split at h
        · rename_i e' b' hpf
          split at h
          · rename_i hee
            split at h
            · rename_i k' hd
              obtain ⟨hlt, he⟩ := xg_if h
              cases he
              exact ⟨[], r, s, t, hp0, ct, _, rfl, hcov, hct, by rw [← hee]; exact hpf, Or.inl ⟨k', hd, rfl, rfl⟩, hlt, fun q hq => nomatch hq⟩
            · rename_i k' hd
              obtain ⟨hlt, he⟩ := xg_if h
              cases he
              exact ⟨[], r, s, t, hp0, ct, _, rfl, hcov, hct, by rw [← hee]; exact hpf, Or.inr ⟨hd, rfl⟩, hlt, fun q hq => nomatch hq⟩
            · cases h
          · rename_i hee
            obtain ⟨pre, suf, s1, t1, hp1, ct1, b1, h1, h2, h3, h4, h5, h7, h8⟩ := ih h
            refine ⟨(s, t, hp0, ct) :: pre, suf, s1, t1, hp1, ct1, b1, by rw [h1]; rfl, h2, h3, h4, h5, h7, fun q hq => ?_⟩
            rcases List.mem_cons.mp hq with rfl | hq
            · exact Or.inr ⟨hct, e', _, hpf, hee⟩
            · exact h8 q hq
        · cases h
    · rename_i hcov
      obtain ⟨pre, suf, s1, t1, hp1, ct1, b1, h1, h2, h3, h4, h5, h7, h8⟩ := ih h
      refine ⟨(s, t, hp0, ct) :: pre, suf, s1, t1, hp1, ct1, b1, by rw [h1]; rfl, h2, h3, h4, h5, h7, fun q hq => ?_⟩
      rcases List.mem_cons.mp hq with rfl | hq
      · exact Or.inl hcov
      · exact h8 q hq
theorem xcast_in (e : Nat) (h : e < 3) : Cond.castable (xec e) (xec e) ∈ lw_tbl := by
  have key : ∀ e, e < 3 → Cond.castable (xec e) (xec e) ∈ lw_tbl := by decide +kernel
  exact key e h
/-- the handler takes it -/
theorem x_caught {y : Nat} (hC : xCx G y p l R s m args meth c) {pc e0 np k : Nat} (hh : xhs y pc e0 (xmh y) = some (np, k)) {ls : Array Slot} {rest : List Value} {L : xL} (hL : xLr ls L) (hLen : L.length = xml y) {q : Nat} {ce : Cell} (hq : H[q]? = some ce) (hv : ce.vm = .none) (hcl : s.vm.findClass (xec e0) = some ce.cls)
    (kk : ∀ ls' : Array Slot, xLr ls' ((xs1 L k .null).set k none) → W p l e R s m args below meth c H locs cells slots Q (F0 m np ls' [])) : vx_W p l e R s m args below meth c H locs cells slots Q (F0 m pc ls rest) q := by
  obtain ⟨hx, hb, hml, hr, hlk, hown, hts, hEn, hst, hnm, hfr, hlo, htb⟩ := hC
  obtain ⟨pre, suf, s1, t1, hp, ct, b, h1, h2, h3, h4, h5, h7, h8⟩ := xhs_split _ hh
  obtain ⟨hw, he3⟩ := xpf_ok h4
  refine vx_catch (name := xec e0) hown (tableOf pre) ⟨s1, t1, hp, ct⟩ (tableOf suf) (by rw [htb (Or.inr (by rw [h1]; simp)), h1]; simp [tableOf]) ?_ (by simp [covers, h2]) h3 (hts _ hw) (va_Nw.use rfl (hEn.2.1 _ (xcast_in _ he3) rfl)) hq hv hcl ?_
  · intro z hz
    obtain ⟨w, hw1, rfl⟩ := List.mem_map.mp hz
    rcases h8 w hw1 with h9 | ⟨h9, e', b', h10, h11⟩
    · refine Or.inl ?_
      have : (decide (w.1 ≤ pc) && decide (pc < w.2.1)) = false := by
        by_cases a1 : w.1 ≤ pc
        · have : ¬ pc < w.2.1 := fun q => h9 ⟨a1, q⟩
          simp [this]
        · simp [a1]
      exact this
    · obtain ⟨hw9, he9⟩ := xpf_ok h10
      rw [hEn.2.2.1 y] at h1
      have h0 := congrArg List.length h1
      simp only [List.length_nil, List.length_append, List.length_cons] at h0
      omega
  · have fin : ∀ ls' : Array Slot, lv_has ls' L.length ((k, .ref q) :: (xpairs L).filter (fun q => !(q.1 == k) && !(q.1 + 1 == k && q.2.category == 2))) → xLr ls' ((xs1 L k .null).set k none) := by
      intro ls' hl'
      have := xLr_drop (xLr_s1 hl')
      rw [xs1_any L _ _ .null] at this
      exact this
    rcases h5 with ⟨k', h5, rfl, rfl⟩ | ⟨h5, rfl⟩
    · exact lv_astore_n hx hb h5 rfl (xLr_has hL) (by rw [hLen]; exact h7) rfl (fun ls' hl' => kk ls' (fin ls' hl'))
    · exact lv_astore hx hb h5 (xLr_has hL) (by rw [hLen]; exact h7) rfl (fun ls' hl' => kk ls' (fin ls' hl'))
end CALLS
