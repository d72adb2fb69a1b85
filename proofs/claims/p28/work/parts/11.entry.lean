/-! THE CLAIM OUT OF ONE WALK OF THE LAW'S BODY. Your part is whole_start (and what it stands on); all else here is the same for every law, but numbers. -/
def R_law : String := "PairNamesLaw"
def lw_P (b : Addr) (xs : List Int32) (args : Array Value) (s : State) : Prop := args = #[.ref b] ∧ s.IntsAt b xs ∧ xs.length ≤ 260 ∧ (Jvm.Cond.and given_1 narrow_1).before args s = true
def lw_Q (_ : Array Value) (s : State) (o : Outcome) (t : State) : Prop := o = .returned (some (.int 1)) ∧ Framed s o t [] 600172 7300668
def lw_Z (below : List Frame) (a : Array Value) (s : State) : State → Prop := fun t => ∃ o, t.status = .running ∧ Ended t below o ∧ lw_Q a s o t
/-- the law's own end, with 1 on the stack, nothing written that was there before, its room as the claim has it -/
theorem lw_ret {p : Program} {l : Launch} {e : Env} {s : State} {m : MethodId} {below : List Frame} {meth : Method} {c : Code} {b : Nat} (hx : p.tables.exec = Jvm.exec) (hb : c.code = code) (hr : meth.sig.returnType = ret) (hlocks : meth.locks = false) {pc : Nat} {H : Heap} {ls : Array Slot} (hdg : decode code pc = .ok (.ireturn, 1)) : W p l e room_1 s m #[Value.ref b] below meth c H [] 600172 7300668 (lw_Z below #[Value.ref b] s) (F0 m pc ls [.int 1]) := by
  intro T hT X
  obtain ⟨fs, hret, hrun, hended, hW, hframe⟩ := X.leave (v := some (.int 1)) (hlocks := hlocks) (fun h => by rw [hr] at h; cases h)
  have hmeth' : T.vm.method? m = some meth := X.method'
  refine ⟨T.setFrames fs, ?_, .returned (some (.int 1)), hrun, hended, rfl, ⟨_, rfl⟩, hW, hframe⟩
  jvm_step X.here [X.here.top, hx, hb, hdg, hmeth', hr, ret, narrow_b1]
  (try refine ⟨rfl, ?_⟩); (try refine ⟨rfl, ?_⟩)
  first | (intro acts; rw [hret _ acts rfl rfl rfl]) | rw [hret _ _ rfl rfl rfl]
  exact Steps.refl _
/-- what holds at the law's entry: the machine, the code, the tables' words (any of lw_tbl by 'hts w (by decide +kernel)'), the script of L ints xs at the cell b, what the Statement gives of the start (any of its parts by flat_of_before) -/
def lw_At (p : Program) (s : State) (m : MethodId) (meth : Method) (c : Code) (b L : Nat) (xs : Nat → Int32) : Prop :=
  p.tables.exec = Jvm.exec ∧ c.code = code ∧ meth.sig.returnType = ret ∧ c.maxLocals = 6 ∧ s.vm.findClass R_law = some m.cls ∧ (∀ w ∈ lw_tbl, w.before #[Value.ref b] s = true) ∧ va_X b L xs s s.heap ∧ b < s.heap.size ∧ meth.locks = false ∧ (Jvm.Cond.and given_1 narrow_1).before #[Value.ref b] s = true
/-! The claim out of one run of the law. -/
def xh0 (b N0 L : Nat) (xs : Nat → Int32) : xH := (fun a => if a = b then some (.inl (3, L, .inl xs)) else none, N0, 0, 0)
theorem xar_of {s : State} {args : Array Value} {ty : FieldType} (h : (Cond.arrayClass ty).before args s = true) (hty : ∀ C, ty ≠ .object C) : ∃ cA, ArrOfT s cA ty ∧ va_RA s cA ty := by
  obtain ⟨c, k, comp, h1, h2, h3⟩ := Cond.arrayClass_spec h
  refine ⟨c, fun n z => ⟨fun q hq => (by cases hq), k, h2, comp, h3⟩, ?_⟩
  cases ty with
  | object C => exact absurd rfl (hty C)
  | _ => exact h1
theorem xaq_of {s : State} {args : Array Value} {C : String} (h : (Cond.arrayOver (.object C)).before args s = true) : ∃ cA, ArrOfT s cA (.object C) ∧ va_RA s cA (.object C) := by
  obtain ⟨comp, c, k, h1, h2, h3, h4, h5⟩ := Cond.arrayOver_spec h
  exact ⟨c, fun n z => ⟨fun q hq => (by cases hq), k, h3, comp, h4⟩, k, comp, h3, h4, h1, h5⟩
def xflat : List Cond := flatC (Jvm.Cond.and given_1 narrow_1)
def xstrw : List Cond := (xpl_7.filter (fun q => q.2.1 == 11)).map (fun q => Cond.exactly (.string RX7 q.1) "java/lang/String")
set_option maxRecDepth 100000 in
theorem xstr_in : ∀ w ∈ xstrw, w ∈ xflat := by decide +kernel
set_option maxRecDepth 100000 in
theorem xsta_in : Cond.isRef (.static Bundle.tN "UNASSIGNED_STACK" Bundle.steD) ∈ xflat ∧ Cond.isRef (.static Bundle.tN "SUPPRESSED_SENTINEL" Bundle.listD) ∈ xflat := by decide +kernel
theorem xlays_in : Cond.laysStatic Bundle.tN "UNASSIGNED_STACK" Bundle.steD ∈ lw_tbl ∧ Cond.laysStatic Bundle.tN "SUPPRESSED_SENTINEL" Bundle.listD ∈ lw_tbl ∧ Cond.initialized Bundle.tN ∈ lw_tbl ∧ Cond.arrayOver (.object "PairNames$State") ∈ lw_tbl := by decide +kernel
/-- the tables at the law's entry -/
theorem xEn_start {s : State} {b : Nat} (hts : ∀ w ∈ lw_tbl, w.before #[Value.ref b] s = true) (hgv : (Jvm.Cond.and given_1 narrow_1).before #[Value.ref b] s = true) (L : Nat) (xs : Nat → Int32) : ∃ (D : va_G) (dA : Nat → ClassId), xEn (D, dA, s.heap.size, b, L, xs) s := by
  have htg : ∀ w ∈ xgt, w.before #[Value.ref b] s = true := fun w hw => hts w (xgt_tbl hw)
  have hfl : ∀ w ∈ xflat, w.before #[Value.ref b] s = true := flat_of_before _ hgv
  have hk : ∀ ci, ∃ (cC : ClassId) (iS : Nat → Nat), ci < 8 → u_Kn s (xcn ci) (xT ci) (xN ci) cC iS := by
    intro ci
    by_cases h : ci < 8
    · obtain ⟨cC, iS, h1⟩ := u_known (n := xN ci) htg (xlay_in h) (htg _ (xinst_in h))
      exact ⟨cC, iS, fun _ => h1⟩
    · exact ⟨0, fun _ => 0, fun q => absurd q h⟩
  obtain ⟨a0, h0⟩ := xar_of (htg _ xarr_int) (fun C q => by cases q)
  obtain ⟨a1, h1⟩ := xar_of (htg _ xarr_int) (fun C q => by cases q)
  obtain ⟨a2, h2⟩ := xaq_of (hts _ xlays_in.2.2.2)
  refine ⟨(fun k => Classical.choose (hk k), fun k => Classical.choose (Classical.choose_spec (hk k))), fun k => if k = 0 then a0 else if k = 1 then a1 else a2, ⟨?_, ?_⟩, ?_, ?_, ?_, ?_, ?_, va_AO.of (hts _ xlays_in.2.2.2)⟩
  · intro ci q hq
    have h9 : ci < 8 := (List.getElem?_eq_some_iff.mp hq).1
    rw [xcl_get h9] at hq
    cases hq
    exact Classical.choose_spec (Classical.choose_spec (hk ci)) h9
  · intro k q hq
    match k, hq with
    | 0, hq => cases hq; exact h0
    | 1, hq => cases hq; exact h1
    | 2, hq => cases hq; exact h2
    | k + 3, hq => simp [xtys] at hq
  · exact fun w hw hn => va_Nw.of (xnw_tabs hn) (hts w hw)
  · exact xmh_nil
  · intro i k a hpf
    have hw := xpf_ok hpf
    have hex : Cond.exactly (.string RX7 i) "java/lang/String" ∈ xflat := by
      refine xstr_in _ (List.mem_map.mpr ⟨(i, 11, k, a), List.mem_filter.mpr ⟨?_, rfl⟩, rfl⟩)
      unfold xpf at hpf
      obtain ⟨q, hq, he⟩ := Option.map_eq_some_iff.mp hpf
      have g1 := List.mem_of_find?_eq_some hq
      have g2 := List.find?_some hq
      obtain ⟨i', r⟩ := q
      have e1 : i' = i := by simpa using g2
      have e2 : r = (11, k, a) := he
      rw [e1, e2] at g1
      exact g1
    obtain ⟨sa, c, cell, kk, e1, -⟩ := Cond.exactly_spec (hfl _ hex)
    exact ⟨sa, vk_R.of (hts _ hw) e1⟩
  · exact vx_Zqof (hts _ xlays_in.1) (hts _ xlays_in.2.2.1) (hfl _ xsta_in.1) (fun a ha => Nat.not_le.mpr ha)
  · exact vx_Zqof (hts _ xlays_in.2.1) (hts _ xlays_in.2.2.1) (hfl _ xsta_in.2) (fun a ha => Nat.not_le.mpr ha)
/-- the law's run, as the claim wants it -/
def xLawRuns : Prop := ∀ (b N0 L : Nat) (xs : Nat → Int32), L ≤ 260 → b < N0 → ∃ h' : xH, xf 101 0 (xent 101 [.ref b]) [] (xh0 b N0 L xs) = some (.inl (some (.int 1)), h') ∧ h'.2.2.1 ≤ 600172 ∧ h'.2.2.2 ≤ 7300668
theorem x_start (hlaw : xLawRuns) {p : Program} {e : Env} {s : State} {m : MethodId} {below : List Frame} {meth : Method} {c : Code} (l : Launch) (hflags : l.flags = flags0) {b L : Nat} {xs : Nat → Int32} (hL : L ≤ 260) (C0 : lw_At p s m meth c b L xs) : W p l e room_1 s m #[Value.ref b] below meth c s.heap [] 0 0 (lw_Z below #[Value.ref b] s) (entryFrame m ([Value.ref b] : List Value).toArray 6) := by
  obtain ⟨hx, hb, hr, hml, hown, hts, hX, hbl, hlocks, hgv⟩ := id C0
  obtain ⟨D, dA, hEn⟩ := xEn_start hts hgv L xs
  obtain ⟨h', hrun, hb1, hb2⟩ := hlaw b s.heap.size L xs hL hbl
  obtain ⟨k, hk⟩ := xf_runs hrun
  have hlt : l.stackTraces = false := by unfold Launch.stackTraces; rw [hflags]; decide
  have hC : xCx (D, dA, s.heap.size, b, L, xs) 101 p l room_1 s m #[Value.ref b] meth c := ⟨hx, hb, hml, hr, hlocks, hown, fun w hw => hts w (xgt_tbl hw), hEn, hlt, fun q => absurd q (by decide), Nat.le_refl _, Nat.le_refl _, fun q => by rcases q with q | q <;> exact absurd q (by decide)⟩
  rw [lg_entry_eq]
  have hlen : (xargs [.ref b]).length ≤ xml 101 := by show 1 ≤ 6; decide
  refine xP_all (D, dA, s.heap.size, b, L, xs) l k 101 0 _ _ _ _ _ hk p e room_1 s m _ below meth c _ 0 0 hC ?_ (by show _ ≤ 0 + 600172; omega) (by show _ ≤ 0 + 7300668; omega) _ _ _ _ _ (xLr_ent hlen) (xent_len hlen) ⟨?_, fun _ => rfl, Nat.le_refl _⟩ va_S.rf rfl rfl
  · intro pc1 L1 st1 h1 i n ls H1 locs cells slots ho hl hL1 hLen hR1 hS hc hs
    obtain ⟨i0, len, hd, htr⟩ := xop_ok ho
    have hkd := xloc_kind hl
    have hkt := xtr_kind htr
    have hi : i = .ireturn ∧ st1 = [.int 1] ∧ h1 = h' := by
      cases i <;> simp only [xloc, xbr] at hl
      all_goals
        (repeat' split at hl)
        all_goals first
          | (cases hl; done)
          | (cases hl; exact ⟨rfl, rfl, rfl⟩)
    obtain ⟨rfl, rfl, rfl⟩ := hi
    cases i0 with
    | ireturn =>
      obtain ⟨rfl, -⟩ := xg_if htr
      have hc1 : cells ≤ 600172 := by omega
      have hs1 : slots ≤ 7300668 := by omega
      exact va_forget hS.2.2 (W.widen hc1 hs1 (lw_ret hx hb hr hlocks hd))
    | _ => exact absurd hkt (by simp [xkind])
  · intro a ee he
    unfold xh0 at he
    simp only at he
    split at he
    · rename_i hab
      cases he
      subst hab
      exact ⟨rfl, rfl, hX⟩
    · cases he
