/-! One step of the small machine is one of the real one. Arms written by gen_step.py. -/
/-- what holds of a frame all through: the machine, the code, the tables' words, the room -/
def xCx (G : xG) (y : Nat) (p : Program) (l : Launch) (R : Room) (s : State) (m : MethodId) (args : Array Value) (meth : Method) (c : Code) : Prop :=
  p.tables.exec = Jvm.exec ∧ c.code = xmb y ∧ c.maxLocals = xml y ∧ meth.sig.returnType = xmr y ∧ meth.locks = false ∧ s.vm.findClass (xcn (xmo y)) = some m.cls ∧ (∀ w ∈ xgt, w.before args s = true) ∧ xEn G s ∧ l.stackTraces = false ∧ ((xmy y).name = "<init>" → meth.name = "<init>") ∧ xmf y ≤ R.frames ∧ xmc y ≤ R.locals ∧ (xmo y = 7 ∨ xmh y ≠ [] → c.exceptionTable.toList = tableOf (xmh y))
theorem xnn_ok {x : UInt64} (h : xnn x = true) : vf_n64 x := by
  unfold vf_n64
  exact of_decide_eq_true h
theorem xin_of {i : Int32} {m : Nat} (hn : ¬ i < 0) (hlt : i.toNatClampNeg < m) : vp_in i m := fun q => q.elim hn (fun q => absurd hlt (Nat.not_lt.mpr q))
theorem xdiv {ci k : Nat} (h : k < xN ci) : (64 * ci + k) / 64 = ci := by
  have : xN ci ≤ 20 := by unfold xN; split <;> decide
  omega
theorem xmod {ci k : Nat} (h : k < xN ci) : (64 * ci + k) % 64 = k := by
  have : xN ci ≤ 20 := by unfold xN; split <;> decide
  omega
theorem xcat_sum : ∀ {st : List Value} {k : Nat}, st.length ≤ k → (st.map fun v => v.category).sum ≤ 2 * k := by
  intro st
  induction st with
  | nil => intro k _; simp
  | cons v vs ih =>
    intro k hk
    simp only [List.length_cons] at hk
    have h1 := ih (k := k - 1) (by omega)
    have h2 : v.category ≤ 2 := by cases v <;> simp [Value.category]
    simp only [List.map_cons, List.sum_cons]
    omega
theorem xP1 {G : xG} {s : State} {a k : Nat} {x : vp_A} {H : Heap} (h : xat G s a (.inl (k, x)) H) (hk : k ≠ 3 := by decide) : va_P G.1 vwCl [(a, .inl (G.2.1 k, x))] H := by
  unfold xat at h
  simp only [hk, if_false] at h
  intro j q hq
  cases j with
  | zero => simp at hq; subst hq; exact h.2.2
  | succ j => simp at hq
theorem xP1o {G : xG} {s : State} {a ci : Nat} {fs : List Value} {H : Heap} (h : xat G s a (.inr (ci, fs)) H) : va_P G.1 vwCl [(a, .inr (ci, fs))] H := by
  intro j q hq
  cases j with
  | zero => simp at hq; subst hq; exact h.2
  | succ j => simp at hq
theorem xat_A {G : xG} {s : State} {a : Nat} {e : xE} {H : Heap} (h : xat G s a e H) (hk : (match e with
  | .inl (k, _) => decide (k = 3)
  | .inr _ => false) = false := by rfl) : xA G a := by
  cases e with
  | inl x =>
    obtain ⟨k, x⟩ := x
    unfold xat at h
    have : k ≠ 3 := fun q => by simp [q] at hk
    simp only [this, if_false] at h
    exact h.2.1
  | inr o => exact h.1
theorem xS_new {A : Nat → Prop} {H0 H H1 : Heap} {locs : List Loc} (h : va_S A H0 H locs) (z : H1.size = H.size + 1) (oq : ∀ q : Nat, q < H.size → H1[q]? = H[q]?) : va_S A H0 H1 locs :=
  ⟨Nat.le_trans h.1 (by omega), fun x h1 h2 => (oq x (Nat.lt_of_lt_of_le h1 h.1)).trans (h.2.1 x h1 h2), h.2.2⟩
theorem xrcv_at {G : xG} {s : State} {h : xH} {H : Heap} {b c : Nat} (hR : xRp G s h H) (hq : xrcv h b c = true) : ∃ fs, xat G s b (.inr (c, fs)) H := by
  unfold xrcv at hq
  split at hq
  · rename_i d fs hb
    rw [beq_iff_eq] at hq
    subst hq
    exact ⟨fs, hR.1 _ _ hb⟩
  · cases hq
theorem xfin_ok {y ci k : Nat} {nm : String} (hnm : (xmy y).name = "<init>" → nm = "<init>") (h : xfin y ci k = true) : (xT ci k).2.2.2 = false ∨ ((xT ci k).2.2.2 = true ∧ nm = "<init>" ∧ (xT ci k).1 = xcn (xmo y)) := by
  unfold xfin at h
  cases hf : (xT ci k).2.2.2 with
  | false => exact Or.inl rfl
  | true =>
    simp only [hf, Bool.or_eq_true, Bool.and_eq_true, beq_iff_eq] at h
    rcases h with h | h
    · cases h
    · exact Or.inr ⟨rfl, hnm h.1, h.2⟩
theorem xarr_int : Cond.arrayClass (newarray.typeOf .int) ∈ xgt := List.mem_filter.mpr ⟨by decide +kernel, by decide +kernel⟩
theorem xmath_maxS : Cond.static Lib.Math.max.name ∈ xgt := List.mem_filter.mpr ⟨by decide +kernel, by decide +kernel⟩
theorem xmath_minS : Cond.static Lib.Math.min.name ∈ xgt := List.mem_filter.mpr ⟨by decide +kernel, by decide +kernel⟩
theorem xmath_ini : Cond.initialized "java/lang/Math" ∈ xgt := List.mem_filter.mpr ⟨by decide +kernel, by decide +kernel⟩
theorem xmath_maxC : Cond.code Lib.Math.max.name Lib.Math.max.code 2 (some .int) ∈ xgt := List.mem_filter.mpr ⟨by decide +kernel, by decide +kernel⟩
theorem xmath_minC : Cond.code Lib.Math.min.name Lib.Math.min.code 2 (some .int) ∈ xgt := List.mem_filter.mpr ⟨by decide +kernel, by decide +kernel⟩
theorem xobj_I : Cond.instanceMethod objectInit ∈ xgt := List.mem_filter.mpr ⟨by decide +kernel, by decide +kernel⟩
theorem xobj_C : Cond.code objectInit ⟨#[0xb1]⟩ 1 none ∈ xgt := List.mem_filter.mpr ⟨by decide +kernel, by decide +kernel⟩
section ROWS
variable {G : xG} {p : Program} {l : Launch} {e : Env} {R : Room} {s : State} {m : MethodId} {args : Array Value} {below : List Frame} {meth : Method} {c : Code} {H : Heap} {locs : List Loc} {cells slots : Nat} {Q : State → Prop}
variable {cc : ByteArray} {pc : Nat} {ls : Array Slot} {rest : List Value} {a : Nat}
theorem xtk {L L' : xL} {st st' : List Value} {h h' : xH} {n1 n2 pc' c0 s0 : Nat} {b : Bool} (hl : xbr b (xnx n1 L st h) (xnx n2 L st h) = some (.inl (pc', L', st', h')))
    (kk : ∀ (ls' : Array Slot) (H' : Heap) (locs' : List Loc) (cells' slots' : Nat), xLr ls' L' → xRp G s h' H' → va_S (xA G) s.heap H' locs' → cells' + c0 = h'.2.2.1 → slots' + s0 = h'.2.2.2 → W p l e R s m args below meth c H' locs' cells' slots' Q (F0 m pc' ls' st'))
    (hL : xLr ls L) (hR : xRp G s h H) (hS : va_S (xA G) s.heap H locs) (hc : cells + c0 = h.2.2.1) (hs : slots + s0 = h.2.2.2) : W p l e R s m args below meth c H locs cells slots Q (F0 m (if b = true then n1 else n2) ls st) := by
  unfold xbr at hl
  cases b with
  | true =>
    obtain ⟨rfl, rfl, rfl, rfl⟩ := xnx_inj hl
    exact kk _ _ _ _ _ hL hR hS hc hs
  | false =>
    obtain ⟨rfl, rfl, rfl, rfl⟩ := xnx_inj (show xnx n2 L st h = _ from hl)
    exact kk _ _ _ _ _ hL hR hS hc hs
theorem x_iaload (hx : p.tables.exec = Jvm.exec) (hb : c.code = cc) (hK : va_K G.1 vwCl (xtys G) s) {k n : Nat} {f : Nat → Int32} (hk : k = 0 ∨ k = 3) (ha : xat G s a (.inl (k, n, .inl f)) H) {i : Int32} (hi : ¬ i < 0 ∧ i.toNatClampNeg < n) (hd : decode cc pc = .ok (.iaload, 1))
    (kk : W p l e R s m args below meth c H locs cells slots Q (F0 m (pc + 1) ls (.int (f i.toNatClampNeg) :: rest))) : W p l e R s m args below meth c H locs cells slots Q (F0 m pc ls (.int i :: .ref a :: rest)) := by
  rcases hk with rfl | rfl
  · exact va_iald hx hb hK (xP1 ha) 0 0 rfl rfl (xin_of hi.1 hi.2) hd kk
  · simp only [xat, if_true] at ha
    obtain ⟨rfl, h2, scr, h3, h4, h5, h6, h7⟩ := ha
    obtain ⟨rfl, h8⟩ := Prod.mk.inj h2
    cases h8
    exact W.iald (v := .int _) hx hb h3 h4 h5 (by rw [h6]; exact xin_of hi.1 hi.2) (h7 _ hi.2) rfl rfl hd kk
theorem x_alen (hx : p.tables.exec = Jvm.exec) (hb : c.code = cc) (hK : va_K G.1 vwCl (xtys G) s) {k n : Nat} {x : (Nat → Int32) ⊕ (Nat → Int64) ⊕ (Nat → UInt32) ⊕ (Nat → UInt64) ⊕ (Nat → Option Nat)} (ha : xat G s a (.inl (k, n, x)) H) (hd : decode cc pc = .ok (.arraylength, 1))
    (kk : W p l e R s m args below meth c H locs cells slots Q (F0 m (pc + 1) ls (.int (Int32.ofNat n) :: rest))) : W p l e R s m args below meth c H locs cells slots Q (F0 m pc ls (.ref a :: rest)) := by
  by_cases hk : k = 3
  · subst hk
    simp only [xat, if_true] at ha
    obtain ⟨rfl, h2, scr, h3, h4, h5, h6, h7⟩ := ha
    obtain ⟨rfl, h8⟩ := Prod.mk.inj h2
    exact W.alen (n := Int32.ofNat _) hx hb h3 h4 (by rw [h6] <;> rfl) rfl rfl hd kk
  · have hP := xP1 ha hk
    unfold xat at ha
    simp only [hk, if_false] at ha
    match k, ha.1, hP with
    | 0, _, hP => exact va_alen hx hb hK hP 0 0 rfl rfl rfl hd kk
    | 1, _, hP => exact va_alen hx hb hK hP 0 1 rfl rfl rfl hd kk
    | 2, _, hP => exact va_alen hx hb hK hP 0 2 rfl rfl rfl hd kk
theorem x_iastore (hx : p.tables.exec = Jvm.exec) (hb : c.code = cc) (hK : va_K G.1 vwCl (xtys G) s) {n : Nat} {f : Nat → Int32} (ha : xat G s a (.inl (0, n, .inl f)) H) {i v : Int32} (hi : ¬ i < 0 ∧ i.toNatClampNeg < n) (hd : decode cc pc = .ok (.iastore, 1))
    (kk : ∀ H1 : Heap, H1.size = H.size → xat G s a (.inl (0, n, .inl (va_up f i.toNatClampNeg v))) H1 → (∀ q : Nat, q ≠ a → H1[q]? = H[q]?) → W p l e R s m args below meth c H1 (locs ++ [⟨a, i.toNatClampNeg⟩]) cells slots Q (F0 m (pc + 1) ls rest)) : W p l e R s m args below meth c H locs cells slots Q (F0 m pc ls (.int v :: .int i :: .ref a :: rest)) := by
  obtain ⟨h1, h2, h3⟩ : 0 < 3 ∧ G.2.2.1 ≤ a ∧ H[a]? = some (vp_cell (G.2.1 0) (n, .inl f)) := ha
  refine W.iast hx hb h3 ((hK.2 0 _ rfl).1 n (fun j => .int (f j))) (fun q => by cases q) (by show ¬ (i < 0 ∨ (arrV _ _ _).slots.size ≤ _); rw [arrV_size]; exact xin_of hi.1 hi.2) rfl rfl hd fun H1 ee z oq => ?_
  refine kk H1 z ⟨h1, h2, ?_⟩ oq
  rw [ee, vp_cell_i, vp_cell_i, arrV_store]
  congr 2
  funext q
  by_cases hq : q = i.toNatClampNeg
  · subst hq
    simp [updV, va_up]
  · simp [updV, va_up, hq]
theorem x_aastore (hx : p.tables.exec = Jvm.exec) (hb : c.code = cc) (hK : va_K G.1 vwCl (xtys G) s) {n v : Nat} {f : Nat → Option Nat} (ha : xat G s a (.inl (2, n, .inr (.inr (.inr (.inr f))))) H) (hv : ∃ fs, xat G s v (.inr (6, fs)) H) {i : Int32} (hi : ¬ i < 0 ∧ i.toNatClampNeg < n) (hd : decode cc pc = .ok (.aastore, 1))
    (kk : ∀ H1 : Heap, H1.size = H.size → xat G s a (.inl (2, n, .inr (.inr (.inr (.inr (va_up f i.toNatClampNeg (some v))))))) H1 → (∀ q : Nat, q ≠ a → H1[q]? = H[q]?) → W p l e R s m args below meth c H1 (locs ++ [⟨a, i.toNatClampNeg⟩]) cells slots Q (F0 m (pc + 1) ls rest)) : W p l e R s m args below meth c H locs cells slots Q (F0 m pc ls (.ref v :: .int i :: .ref a :: rest)) := by
  obtain ⟨fs, hv1, r', hr', cellV, g1, g2, g3, -⟩ := hv
  obtain ⟨h1, h2, h3⟩ : 2 < 3 ∧ G.2.2.1 ≤ a ∧ H[a]? = some (vp_cell (G.2.1 2) (n, .inr (.inr (.inr (.inr f))))) := ha
  have hcls := (hK.1 6 (xcn 6, xT 6, xN 6) rfl).2
  obtain ⟨kA, comp, k1, k2, k3, -⟩ := (hK.2 2 _ rfl).2
  have hcomp : comp = G.1.1 6 := Option.some.inj (k3.symm.trans hcls.1)
  subst hcomp
  obtain ⟨kC, hkC, -⟩ := hcls.2
  refine W.aast hx hb h3 (fun q h => by cases h) (fun h => by cases h) k1 k2 rfl hkC ⟨hi.1, by show _ < (arrV _ _ _).slots.size; rw [arrV_size]; exact hi.2⟩ g1 (fun q h => by rw [g3] at h; cases h) (by rw [g2]; exact hkC) (by rw [g2]; exact va_assign hcls) rfl rfl hd fun H1 ee z oq => ?_
  refine kk H1 z ⟨h1, h2, ?_⟩ oq
  rw [ee, vp_cell_q, vp_cell_q, arrV_store]
  congr 2
  funext q
  by_cases hq : q = i.toNatClampNeg
  · subst hq
    simp [updV, va_up, va_rf]
  · simp [updV, va_up, hq]
theorem x_put (hx : p.tables.exec = Jvm.exec) (hb : c.code = cc) (hts : ∀ w ∈ xgt, w.before args s = true) {ci k index : Nat} {own : String} (hc9 : ci < 8) (hown : s.vm.findClass own = some m.cls) (hK : va_K G.1 vwCl (xtys G) s) {fs : List Value} (ha : xat G s a (.inr (ci, fs)) H) (hk : k < xN ci)
    (hw : ((Cond.fieldLink own index (xT ci k).1 (xT ci k).2.1 (xT ci k).2.2.1).before args s = true ∧ ((xT ci k).2.2.2 = false ∨ ((xT ci k).2.2.2 = true ∧ meth.name = "<init>" ∧ (xT ci k).1 = own))) ∨ ((Cond.fieldLinkNest own index (xT ci k).1 (xT ci k).2.1 (xT ci k).2.2.1 "PairNames").before args s = true ∧ (xT ci k).2.2.2 = false))
    {v : Value} (hfit : xfit (xty ci k) v = true) (hl : k < fs.length) (hd : decode cc pc = .ok (.putfield index, 3))
    (kk : ∀ H1 : Heap, H1.size = H.size → xat G s a (.inr (ci, fs.set k v)) H1 → (∀ q : Nat, q ≠ a → H1[q]? = H[q]?) → W p l e R s m args below meth c H1 (locs ++ [⟨a, G.1.2 ci k⟩]) cells slots Q (F0 m (pc + 3) ls rest)) : W p l e R s m args below meth c H locs cells slots Q (F0 m pc ls (v :: .ref a :: rest)) := by
  have hin := xlay_in hc9
  have hc := xcl_get hc9
  have hap := va_apart (own := own) hts hin (xty ci) (xty_ok hc9) (xnm_ok hc9) hK hc
  obtain ⟨hA, r, h1, cell, q1, q2, q3, q4⟩ := ha
  have hr : r = (xcn ci, xT ci, xN ci) := Option.some.inj (h1.symm.trans hc)
  subst hr
  obtain ⟨hS, hfc, kC, hkC, hkind⟩ := hK.1 ci _ hc
  obtain ⟨cf, kf, fi, f, hi, hsl⟩ := hS k hk
  have hlay := hts _ (hin _ (u_in_lay hk))
  unfold u_lay at hlay
  have hst := (u_facts hfc hkC (u_lays hts hin hk) hi).1
  obtain ⟨hn, hf⟩ := xfit_ok hfit
  have fin : ∀ H' : Heap, H'[a]? = some (cell.setSlot f.slot v) → H'.size = H.size → (∀ q, q ≠ a → H'[q]? = H[q]?) → W p l e R s m args below meth c H' (locs ++ [⟨a, f.slot⟩]) cells slots Q (F0 m (pc + 3) ls rest) := by
    intro H' e1 e2 e3
    rw [hsl] at e1 ⊢
    exact kk H' e2 ⟨hA, _, hc, t_OB.to (V := updV (vp_V fs) k v) ⟨_, e1, q2, q3, t_set q4 hap hk v⟩ (fun j _ => vp_updV_set hl v j)⟩ e3
  rcases hw with ⟨hlink, hfin | ⟨hfin, hin2, hdecl⟩⟩ | ⟨hlink, hfin⟩
  · rw [if_neg (by rw [hfin]; decide)] at hlay
    have h6 := u_store hfc hkC hkind hlay hi (xty_ok hc9 k hk) hn hf
    exact W.putK hx hb (f := f) ⟨hown, hlink, ⟨_, _, _, hi⟩, hst⟩ (by rw [q2]; exact h6) q1 q3 (by rw [hsl]; exact k2_hasslot (q4 k hk)) rfl rfl hd fin
  · rw [if_pos hfin] at hlay
    have hcf : m.cls = cf := by
      obtain ⟨_, _, c', _, _, _, -, -, hf', -, -, -, hown2, -⟩ := Cond.laysFinal_spec hlay
      have e1 : c' = cf := by have := hi.symm.trans hf'; simp at this; exact this.1.symm
      rw [hdecl] at hown2
      rw [← e1]; exact Option.some.inj (hown.symm.trans hown2)
    have h6 := u_fits hfc hkC hkind (Or.inr hlay) hi (xty_ok hc9 k hk) hn hf
    exact W.putFinK hx hb hown hlink hi hst hcf hin2 (by rw [q2]; exact h6) q1 q3 (by rw [hsl]; exact k2_hasslot (q4 k hk)) rfl rfl hd fin
  · rw [if_neg (by rw [hfin]; decide)] at hlay
    have h6 := u_store hfc hkC hkind hlay hi (xty_ok hc9 k hk) hn hf
    exact va_WputK hx hb (f := f) hown hlink hi hst (by rw [q2]; exact h6) q1 q3 (by rw [hsl]; exact k2_hasslot (q4 k hk)) rfl rfl hd fin
theorem x_newa (hx : p.tables.exec = Jvm.exec) (hb : c.code = cc) (hK : va_K G.1 vwCl (xtys G) s) {atype : ArrayType} (hat : atype = .int) (harr : (Cond.arrayClass (newarray.typeOf .int)).before args s = true) {n : Int32} {N : Nat} (hN : n.toNatClampNeg = N) (hd : decode cc pc = .ok (.newarray atype, 2)) (hn : ¬ n < 0) (hle : N ≤ 1000) (hcells : cells + 1 ≤ R.cells) (hslots : slots + N ≤ R.slots)
    (kk : ∀ H1 : Heap, (G.2.2.1 ≤ H.size → xat G s H.size (.inl (0, N, .inl (fun _ => 0))) H1) → H1.size = H.size + 1 → (∀ q : Nat, q < H.size → H1[q]? = H[q]?) → W p l e R s m args below meth c H1 locs (cells + 1) (slots + N) Q (F0 m (pc + 2) ls (.ref H.size :: rest))) : W p l e R s m args below meth c H locs cells slots Q (F0 m pc ls (.int n :: rest)) := by
  subst hat
  refine va_newaK hx hb harr rfl hd rfl hn hN (by simp only [newarray.typeOf, componentBytes]; omega) hcells hslots rfl fun H1 cA e1 z1 o1 hAr hNm => ?_
  refine kk H1 (fun hA => ⟨by decide, hA, ?_⟩) z1 o1
  have h9 : s.vm.findClass ("[" ++ (FieldType.int).toString) = some (G.2.1 0) := (hK.2 0 _ rfl).2
  have hcA : cA = G.2.1 0 := Option.some.inj (hNm.symm.trans h9)
  rw [← hcA]
  exact e1
theorem x_newq (hx : p.tables.exec = Jvm.exec) (hb : c.code = cc) (hK : va_K G.1 vwCl (xtys G) s) {own : String} {index : Nat} (hown : s.vm.findClass own = some m.cls) (hclink : (Cond.classLink own index (xcn 6)).before args s = true) (hAO : va_AO "PairNames$State" s) (hA : G.2.2.1 ≤ H.size) {n : Int32} (hd : decode cc pc = .ok (.anewarray index, 3)) (hn : ¬ n < 0) (hle : n.toNatClampNeg ≤ 1000) (hcells : cells + 1 ≤ R.cells) (hslots : slots + n.toNatClampNeg ≤ R.slots)
    (kk : ∀ H1 : Heap, xat G s H.size (.inl (2, n.toNatClampNeg, .inr (.inr (.inr (.inr (fun _ => none)))))) H1 → H1.size = H.size + 1 → (∀ q : Nat, q < H.size → H1[q]? = H[q]?) → W p l e R s m args below meth c H1 locs (cells + 1) (slots + n.toNatClampNeg) Q (F0 m (pc + 3) ls (.ref H.size :: rest))) : W p l e R s m args below meth c H locs cells slots Q (F0 m pc ls (.int n :: rest)) := by
  refine W.anew hx hb hown (C := "PairNames$State") hclink (va_AO.use hAO) rfl hd rfl hn (by omega) hcells hslots fun cA kA comp f1 f2 f3 f4 => ?_
  generalize hH1 : H.push ({ cls := cA, slots := Array.replicate n.toNatClampNeg .null, vm := .none } : Cell) = H1
  have z1 : H1.size = H.size + 1 := by rw [← hH1, Array.size_push]
  have e1 : H1[H.size]? = some (arrV cA n.toNatClampNeg (fun _ => .null)) := by rw [← hH1, Array.getElem?_push_size, ← arrV_new]
  have o1 : ∀ q : Nat, q < H.size → H1[q]? = H[q]? := fun q hq => by rw [← hH1, Array.getElem?_push, if_neg (Nat.ne_of_lt hq)]
  refine kk H1 ⟨by decide, hA, ?_⟩ z1 o1
  obtain ⟨kA', comp', g1, g2, g3, g4⟩ := (hK.2 2 _ rfl).2
  have hcA : cA = G.2.1 2 := Option.some.inj (f1.symm.trans g4)
  rw [← hcA, vp_cell_q]
  exact e1
theorem x_new (hx : p.tables.exec = Jvm.exec) (hb : c.code = cc) (hts : ∀ w ∈ xgt, w.before args s = true) {ci index : Nat} {own : String} (hc9 : ci < 8) (hown : s.vm.findClass own = some m.cls) (hK : va_K G.1 vwCl (xtys G) s) (hcl : (Cond.classLink own index (xcn ci)).before args s = true) (hA : G.2.2.1 ≤ H.size) (hd : decode cc pc = .ok (.new index, 3)) (hcells : cells + 1 ≤ R.cells) (hslots : slots + xN ci ≤ R.slots)
    (kk : ∀ H1 : Heap, xat G s H.size (.inr (ci, xdef ci)) H1 → H1.size = H.size + 1 → (∀ q : Nat, q < H.size → H1[q]? = H[q]?) → W p l e R s m args below meth c H1 locs (cells + 1) (slots + xN ci) Q (F0 m (pc + 3) ls (.ref H.size :: rest))) : W p l e R s m args below meth c H locs cells slots Q (F0 m pc ls rest) := by
  have hc := xcl_get hc9
  have hKn := hK.1 ci _ hc
  refine W.newcK hx hb hown hcl (hts _ (xinst_in hc9)) (hts _ (xini_in hc9)) rfl hd hcells hslots hKn.2.1 rfl fun H1 kC hkC e1 z1 o1 => ?_
  refine kk H1 ⟨hA, _, hc, (u_born (xty ci) hts (xlay_in hc9) hKn hkC e1 (xty_ok hc9)).to (fun j hj => ?_)⟩ z1 o1
  have hj2 : j < xN ci := hj
  simp [vp_V, xdef, hj2]
end ROWS
set_option maxHeartbeats 4000000 in
/-- ONE STEP that calls nothing: if what comes behind it goes well, so does the step -/
theorem xloc_W {G : xG} {y : Nat} {p : Program} {l : Launch} {e : Env} {R : Room} {s : State} {m : MethodId} {args : Array Value} {below : List Frame} {meth : Method} {c : Code} {Q : State → Prop} {c0 s0 : Nat} (hC : xCx G y p l R s m args meth c)
    {pc len n pc' : Nat} {i i0 : Instr} {L L' : xL} {st st' : List Value} {h h' : xH} (hd : decode (xmb y) pc = .ok (i0, len)) (htr : xtr y pc i0 len = some (i, n)) (hl : xloc y i n L st h = some (.inl (pc', L', st', h')))
    (hbc : h'.2.2.1 ≤ c0 + R.cells) (hbs : h'.2.2.2 ≤ s0 + R.slots) {ls : Array Slot} {H : Heap} {locs : List Loc} {cells slots : Nat} (hL : xLr ls L) (hLen : L.length = xml y) (hR : xRp G s h H) (hS : va_S (xA G) s.heap H locs) (hc : cells + c0 = h.2.2.1) (hs : slots + s0 = h.2.2.2)
    (kk : ∀ (ls' : Array Slot) (H' : Heap) (locs' : List Loc) (cells' slots' : Nat), xLr ls' L' → xRp G s h' H' → va_S (xA G) s.heap H' locs' → cells' + c0 = h'.2.2.1 → slots' + s0 = h'.2.2.2 → W p l e R s m args below meth c H' locs' cells' slots' Q (F0 m pc' ls' st')) :
    W p l e R s m args below meth c H locs cells slots Q (F0 m pc ls st) := by
  obtain ⟨hx, hb, hml, hr, hlk, hown, hts, hEn, hst, hnm, hfr, hlo, htb⟩ := hC
  have hK := hEn.1
  have hNw := hEn.2.1
  have hAO := hEn.2.2.2.2.2.2
  cases i0 with
  | iload_n k =>
    obtain ⟨rfl, e⟩ := xg_if htr
    cases e
    simp only [xloc] at hl
    split at hl
    · rename_i hLx
      obtain ⟨rfl, rfl, rfl, rfl⟩ := xnx_inj hl
      exact lv_iload_n hx hb hd rfl (hL.2.2 _ _ hLx) (kk _ _ _ _ _ hL hR hS hc hs)
    · cases hl
  | iload k =>
    obtain ⟨rfl, e⟩ := xg_if htr
    cases e
    simp only [xloc] at hl
    split at hl
    · rename_i hLx
      obtain ⟨rfl, rfl, rfl, rfl⟩ := xnx_inj hl
      exact lv_iload hx hb hd (hL.2.2 _ _ hLx) (kk _ _ _ _ _ hL hR hS hc hs)
    · cases hl
  | lload_n k =>
    obtain ⟨rfl, e⟩ := xg_if htr
    cases e
    simp only [xloc] at hl
    split at hl
    · rename_i hLx
      obtain ⟨rfl, rfl, rfl, rfl⟩ := xnx_inj hl
      exact lv_lload_n hx hb hd rfl (hL.2.2 _ _ hLx) (kk _ _ _ _ _ hL hR hS hc hs)
    · cases hl
  | lload k =>
    obtain ⟨rfl, e⟩ := xg_if htr
    cases e
    simp only [xloc] at hl
    split at hl
    · rename_i hLx
      obtain ⟨rfl, rfl, rfl, rfl⟩ := xnx_inj hl
      exact lv_lload hx hb hd (hL.2.2 _ _ hLx) (kk _ _ _ _ _ hL hR hS hc hs)
    · cases hl
  | dload_n k =>
    obtain ⟨rfl, e⟩ := xg_if htr
    cases e
    simp only [xloc] at hl
    split at hl
    · rename_i hLx
      obtain ⟨rfl, rfl, rfl, rfl⟩ := xnx_inj hl
      exact lv_dload_n hx hb hd rfl (hL.2.2 _ _ hLx) (kk _ _ _ _ _ hL hR hS hc hs)
    · cases hl
  | dload k =>
    obtain ⟨rfl, e⟩ := xg_if htr
    cases e
    simp only [xloc] at hl
    split at hl
    · rename_i hLx
      obtain ⟨rfl, rfl, rfl, rfl⟩ := xnx_inj hl
      exact lv_dload hx hb hd (hL.2.2 _ _ hLx) (kk _ _ _ _ _ hL hR hS hc hs)
    · cases hl
  | aload_n k =>
    obtain ⟨rfl, e⟩ := xg_if htr
    cases e
    simp only [xloc] at hl
    split at hl
    · rename_i hLx
      obtain ⟨rfl, rfl, rfl, rfl⟩ := xnx_inj hl
      exact lv_aload_n hx hb hd rfl (hL.2.2 _ _ hLx) (kk _ _ _ _ _ hL hR hS hc hs)
    · rename_i hLx
      obtain ⟨rfl, rfl, rfl, rfl⟩ := xnx_inj hl
      exact lv_aload_nN hx hb hd rfl (hL.2.2 _ _ hLx) (kk _ _ _ _ _ hL hR hS hc hs)
    · cases hl
  | aload k =>
    obtain ⟨rfl, e⟩ := xg_if htr
    cases e
    simp only [xloc] at hl
    split at hl
    · rename_i hLx
      obtain ⟨rfl, rfl, rfl, rfl⟩ := xnx_inj hl
      exact lv_aload hx hb hd (hL.2.2 _ _ hLx) (kk _ _ _ _ _ hL hR hS hc hs)
    · rename_i hLx
      obtain ⟨rfl, rfl, rfl, rfl⟩ := xnx_inj hl
      exact lv_aloadN hx hb hd (hL.2.2 _ _ hLx) (kk _ _ _ _ _ hL hR hS hc hs)
    · cases hl
  | istore_n k =>
    obtain ⟨rfl, e⟩ := xg_if htr
    cases e
    simp only [xloc] at hl
    split at hl
    · obtain ⟨hk, hl⟩ := xg_if2 hl
      obtain ⟨rfl, rfl, rfl, rfl⟩ := xnx_inj hl
      exact lv_istore_n hx hb hd rfl (xLr_has hL) hk rfl (fun ls' hl' => kk _ _ _ _ _ (xLr_s1 hl') hR hS hc hs)
    · cases hl
  | istore k =>
    obtain ⟨rfl, e⟩ := xg_if htr
    cases e
    simp only [xloc] at hl
    split at hl
    · obtain ⟨hk, hl⟩ := xg_if2 hl
      obtain ⟨rfl, rfl, rfl, rfl⟩ := xnx_inj hl
      exact lv_istore hx hb hd (xLr_has hL) hk rfl (fun ls' hl' => kk _ _ _ _ _ (xLr_s1 hl') hR hS hc hs)
    · cases hl
  | lstore_n k =>
    obtain ⟨rfl, e⟩ := xg_if htr
    cases e
    simp only [xloc] at hl
    split at hl
    · obtain ⟨hk, hl⟩ := xg_if2 hl
      obtain ⟨rfl, rfl, rfl, rfl⟩ := xnx_inj hl
      exact lv_lstore_n hx hb hd rfl (xLr_has hL) hk rfl (fun ls' hl' => kk _ _ _ _ _ (xLr_s2 hl') hR hS hc hs)
    · cases hl
  | lstore k =>
    obtain ⟨rfl, e⟩ := xg_if htr
    cases e
    simp only [xloc] at hl
    split at hl
    · obtain ⟨hk, hl⟩ := xg_if2 hl
      obtain ⟨rfl, rfl, rfl, rfl⟩ := xnx_inj hl
      exact lv_lstore hx hb hd (xLr_has hL) hk rfl (fun ls' hl' => kk _ _ _ _ _ (xLr_s2 hl') hR hS hc hs)
    · cases hl
  | dstore_n k =>
    obtain ⟨rfl, e⟩ := xg_if htr
    cases e
    simp only [xloc] at hl
    split at hl
    · obtain ⟨hk, hl⟩ := xg_if2 hl
      obtain ⟨rfl, rfl, rfl, rfl⟩ := xnx_inj hl
      exact lv_dstore_n hx hb hd rfl (xLr_has hL) hk rfl (fun ls' hl' => kk _ _ _ _ _ (xLr_s2 hl') hR hS hc hs)
    · cases hl
  | dstore k =>
    obtain ⟨rfl, e⟩ := xg_if htr
    cases e
    simp only [xloc] at hl
    split at hl
    · obtain ⟨hk, hl⟩ := xg_if2 hl
      obtain ⟨rfl, rfl, rfl, rfl⟩ := xnx_inj hl
      exact lv_dstore hx hb hd (xLr_has hL) hk rfl (fun ls' hl' => kk _ _ _ _ _ (xLr_s2 hl') hR hS hc hs)
    · cases hl
  | astore_n k =>
    obtain ⟨rfl, e⟩ := xg_if htr
    cases e
    simp only [xloc] at hl
    split at hl
    · obtain ⟨hk, hl⟩ := xg_if2 hl
      obtain ⟨rfl, rfl, rfl, rfl⟩ := xnx_inj hl
      exact lv_astore_n hx hb hd rfl (xLr_has hL) hk rfl (fun ls' hl' => kk _ _ _ _ _ (xLr_s1 hl') hR hS hc hs)
    · obtain ⟨hk, hl⟩ := xg_if2 hl
      obtain ⟨rfl, rfl, rfl, rfl⟩ := xnx_inj hl
      exact lv_astore_nN hx hb hd rfl (xLr_has hL) hk rfl (fun ls' hl' => kk _ _ _ _ _ (xLr_s1 hl') hR hS hc hs)
    · cases hl
  | astore k =>
    obtain ⟨rfl, e⟩ := xg_if htr
    cases e
    simp only [xloc] at hl
    split at hl
    · obtain ⟨hk, hl⟩ := xg_if2 hl
      obtain ⟨rfl, rfl, rfl, rfl⟩ := xnx_inj hl
      exact lv_astore hx hb hd (xLr_has hL) hk rfl (fun ls' hl' => kk _ _ _ _ _ (xLr_s1 hl') hR hS hc hs)
    · obtain ⟨hk, hl⟩ := xg_if2 hl
      obtain ⟨rfl, rfl, rfl, rfl⟩ := xnx_inj hl
      exact lv_astoreN hx hb hd (xLr_has hL) hk rfl (fun ls' hl' => kk _ _ _ _ _ (xLr_s1 hl') hR hS hc hs)
    · cases hl
  | iconst k =>
    obtain ⟨rfl, e⟩ := xg_if htr
    cases e
    simp only [xloc] at hl
    obtain ⟨rfl, rfl, rfl, rfl⟩ := xnx_inj hl
    exact lv_iconst hx hb hd rfl (kk _ _ _ _ _ hL hR hS hc hs)
  | bipush k =>
    obtain ⟨⟨rfl, hv⟩, e⟩ := xg_if htr
    cases e
    simp only [xloc] at hl
    obtain ⟨rfl, rfl, rfl, rfl⟩ := xnx_inj hl
    exact lv_bipush hx hb hd hv (kk _ _ _ _ _ hL hR hS hc hs)
  | sipush k =>
    obtain ⟨⟨rfl, hv⟩, e⟩ := xg_if htr
    cases e
    simp only [xloc] at hl
    obtain ⟨rfl, rfl, rfl, rfl⟩ := xnx_inj hl
    exact lv_sipush hx hb hd hv (kk _ _ _ _ _ hL hR hS hc hs)
  | lconst k =>
    obtain ⟨rfl, e⟩ := xg_if htr
    cases e
    simp only [xloc] at hl
    obtain ⟨rfl, rfl, rfl, rfl⟩ := xnx_inj hl
    exact lv_lconst hx hb hd rfl (kk _ _ _ _ _ hL hR hS hc hs)
  | dconst k =>
    obtain ⟨rfl, e⟩ := xg_if htr
    cases e
    simp only [xloc] at hl
    obtain ⟨rfl, rfl, rfl, rfl⟩ := xnx_inj hl
    match k, hd, kk with
    | 0, hd, kk => exact lv_dconst0 hx hb hd (kk _ _ _ _ _ hL hR hS hc hs)
    | 1, hd, kk => exact lv_dconst1 hx hb hd (kk _ _ _ _ _ hL hR hS hc hs)
  | ldc2_w k =>
    obtain ⟨rfl, h1⟩ := xg_if2 htr
    split at h1
    · rename_i hpf
      cases h1
      simp only [xloc] at hl
      rw [if_pos (by omega), Nat.mul_div_cancel_left _ (by omega)] at hl
      obtain ⟨rfl, rfl, rfl, rfl⟩ := xnx_inj hl
      exact lv_ldc2 hx hb hown (hts _ (xpf_ok hpf)) hd (kk _ _ _ _ _ hL hR hS hc hs)
    · rename_i hpf
      cases h1
      simp only [xloc] at hl
      rw [if_neg (by omega)] at hl
      obtain ⟨rfl, rfl, rfl, rfl⟩ := xnx_inj hl
      rename_i _ k0 _
      rw [show (2 * k0 + 1) / 2 = k0 by omega] at kk
      exact lv_ldc2d hx hb hown (hts _ (xpf_ok hpf)) hd (kk _ _ _ _ _ hL hR hS hc hs)
    · cases h1
  | ldc k =>
    obtain ⟨rfl, h1⟩ := xg_if2 htr
    split at h1
    · rename_i hpf
      cases h1
      simp only [xloc] at hl
      obtain ⟨rfl, rfl, rfl, rfl⟩ := xnx_inj hl
      exact lv_ldc hx hb hown (hts _ (xpf_ok hpf)) hd (kk _ _ _ _ _ hL hR hS hc hs)
    · cases h1
  | irem =>
    obtain ⟨rfl, e⟩ := xg_if htr
    cases e
    simp only [xloc] at hl
    split at hl
    · obtain ⟨hn, hl⟩ := xg_if2 hl
      obtain ⟨rfl, rfl, rfl, rfl⟩ := xnx_inj hl
      exact lv_irem hx hb hd hn (kk _ _ _ _ _ hL hR hS hc hs)
    · cases hl
  | aconst_null =>
    obtain ⟨rfl, e⟩ := xg_if htr
    cases e
    simp only [xloc] at hl
    obtain ⟨rfl, rfl, rfl, rfl⟩ := xnx_inj hl
    exact lv_null hx hb hd (kk _ _ _ _ _ hL hR hS hc hs)
  | iadd =>
    obtain ⟨rfl, e⟩ := xg_if htr
    cases e
    simp only [xloc] at hl
    split at hl
    · obtain ⟨rfl, rfl, rfl, rfl⟩ := xnx_inj hl
      exact lv_iadd hx hb hd (kk _ _ _ _ _ hL hR hS hc hs)
    · cases hl
  | isub =>
    obtain ⟨rfl, e⟩ := xg_if htr
    cases e
    simp only [xloc] at hl
    split at hl
    · obtain ⟨rfl, rfl, rfl, rfl⟩ := xnx_inj hl
      exact lv_isub hx hb hd (kk _ _ _ _ _ hL hR hS hc hs)
    · cases hl
  | imul =>
    obtain ⟨rfl, e⟩ := xg_if htr
    cases e
    simp only [xloc] at hl
    split at hl
    · obtain ⟨rfl, rfl, rfl, rfl⟩ := xnx_inj hl
      exact lv_imul hx hb hd (kk _ _ _ _ _ hL hR hS hc hs)
    · cases hl
  | iand =>
    obtain ⟨rfl, e⟩ := xg_if htr
    cases e
    simp only [xloc] at hl
    split at hl
    · obtain ⟨rfl, rfl, rfl, rfl⟩ := xnx_inj hl
      exact lv_iand hx hb hd (kk _ _ _ _ _ hL hR hS hc hs)
    · cases hl
  | ior =>
    obtain ⟨rfl, e⟩ := xg_if htr
    cases e
    simp only [xloc] at hl
    split at hl
    · obtain ⟨rfl, rfl, rfl, rfl⟩ := xnx_inj hl
      exact lv_ior hx hb hd (kk _ _ _ _ _ hL hR hS hc hs)
    · cases hl
  | ixor =>
    obtain ⟨rfl, e⟩ := xg_if htr
    cases e
    simp only [xloc] at hl
    split at hl
    · obtain ⟨rfl, rfl, rfl, rfl⟩ := xnx_inj hl
      exact lv_ixor hx hb hd (kk _ _ _ _ _ hL hR hS hc hs)
    · cases hl
  | ishl =>
    obtain ⟨rfl, e⟩ := xg_if htr
    cases e
    simp only [xloc] at hl
    split at hl
    · obtain ⟨rfl, rfl, rfl, rfl⟩ := xnx_inj hl
      exact lv_ishl hx hb hd (kk _ _ _ _ _ hL hR hS hc hs)
    · cases hl
  | ishr =>
    obtain ⟨rfl, e⟩ := xg_if htr
    cases e
    simp only [xloc] at hl
    split at hl
    · obtain ⟨rfl, rfl, rfl, rfl⟩ := xnx_inj hl
      exact lv_ishr hx hb hd (kk _ _ _ _ _ hL hR hS hc hs)
    · cases hl
  | ladd =>
    obtain ⟨rfl, e⟩ := xg_if htr
    cases e
    simp only [xloc] at hl
    split at hl
    · obtain ⟨rfl, rfl, rfl, rfl⟩ := xnx_inj hl
      exact lv_ladd hx hb hd (kk _ _ _ _ _ hL hR hS hc hs)
    · cases hl
  | lsub =>
    obtain ⟨rfl, e⟩ := xg_if htr
    cases e
    simp only [xloc] at hl
    split at hl
    · obtain ⟨rfl, rfl, rfl, rfl⟩ := xnx_inj hl
      exact lv_lsub hx hb hd (kk _ _ _ _ _ hL hR hS hc hs)
    · cases hl
  | lmul =>
    obtain ⟨rfl, e⟩ := xg_if htr
    cases e
    simp only [xloc] at hl
    split at hl
    · obtain ⟨rfl, rfl, rfl, rfl⟩ := xnx_inj hl
      exact lv_lmul hx hb hd (kk _ _ _ _ _ hL hR hS hc hs)
    · cases hl
  | lor =>
    obtain ⟨rfl, e⟩ := xg_if htr
    cases e
    simp only [xloc] at hl
    split at hl
    · obtain ⟨rfl, rfl, rfl, rfl⟩ := xnx_inj hl
      exact lv_lor hx hb hd (kk _ _ _ _ _ hL hR hS hc hs)
    · cases hl
  | lshl =>
    obtain ⟨rfl, e⟩ := xg_if htr
    cases e
    simp only [xloc] at hl
    split at hl
    · obtain ⟨rfl, rfl, rfl, rfl⟩ := xnx_inj hl
      exact lv_lshl hx hb hd rfl (kk _ _ _ _ _ hL hR hS hc hs)
    · cases hl
  | lcmp =>
    obtain ⟨rfl, e⟩ := xg_if htr
    cases e
    simp only [xloc] at hl
    split at hl
    · obtain ⟨rfl, rfl, rfl, rfl⟩ := xnx_inj hl
      exact W.lcmp hx hb hd (kk _ _ _ _ _ hL hR hS hc hs)
    · cases hl
  | dmul =>
    obtain ⟨rfl, e⟩ := xg_if htr
    cases e
    simp only [xloc] at hl
    split at hl
    · obtain ⟨hn, hl⟩ := xg_if2 hl
      obtain ⟨rfl, rfl, rfl, rfl⟩ := xnx_inj hl
      exact lv_dmul hx hb hd (xnn_ok hn) (kk _ _ _ _ _ hL hR hS hc hs)
    · cases hl
  | dsub =>
    obtain ⟨rfl, e⟩ := xg_if htr
    cases e
    simp only [xloc] at hl
    split at hl
    · obtain ⟨hn, hl⟩ := xg_if2 hl
      obtain ⟨rfl, rfl, rfl, rfl⟩ := xnx_inj hl
      exact lv_dsub hx hb hd (xnn_ok hn) (kk _ _ _ _ _ hL hR hS hc hs)
    · cases hl
  | ddiv =>
    obtain ⟨rfl, e⟩ := xg_if htr
    cases e
    simp only [xloc] at hl
    split at hl
    · obtain ⟨hn, hl⟩ := xg_if2 hl
      obtain ⟨rfl, rfl, rfl, rfl⟩ := xnx_inj hl
      exact lv_ddiv hx hb hd (xnn_ok hn) (kk _ _ _ _ _ hL hR hS hc hs)
    · cases hl
  | dneg =>
    obtain ⟨rfl, e⟩ := xg_if htr
    cases e
    simp only [xloc] at hl
    split at hl
    · obtain ⟨rfl, rfl, rfl, rfl⟩ := xnx_inj hl
      exact lv_dneg hx hb hd (kk _ _ _ _ _ hL hR hS hc hs)
    · cases hl
  | i2d =>
    obtain ⟨rfl, e⟩ := xg_if htr
    cases e
    simp only [xloc] at hl
    split at hl
    · obtain ⟨rfl, rfl, rfl, rfl⟩ := xnx_inj hl
      exact lv_i2d hx hb hd (kk _ _ _ _ _ hL hR hS hc hs)
    · cases hl
  | l2d =>
    obtain ⟨rfl, e⟩ := xg_if htr
    cases e
    simp only [xloc] at hl
    split at hl
    · obtain ⟨rfl, rfl, rfl, rfl⟩ := xnx_inj hl
      exact lv_l2d hx hb hd (kk _ _ _ _ _ hL hR hS hc hs)
    · cases hl
  | d2l =>
    obtain ⟨rfl, e⟩ := xg_if htr
    cases e
    simp only [xloc] at hl
    split at hl
    · obtain ⟨rfl, rfl, rfl, rfl⟩ := xnx_inj hl
      exact lv_d2l hx hb hd (kk _ _ _ _ _ hL hR hS hc hs)
    · cases hl
  | dcmp o =>
    obtain ⟨rfl, e⟩ := xg_if htr
    cases e
    simp only [xloc] at hl
    split at hl
    · obtain ⟨rfl, rfl, rfl, rfl⟩ := xnx_inj hl
      exact lv_dcmp hx hb hd (kk _ _ _ _ _ hL hR hS hc hs)
    · cases hl
  | i2l =>
    obtain ⟨rfl, e⟩ := xg_if htr
    cases e
    simp only [xloc] at hl
    split at hl
    · obtain ⟨rfl, rfl, rfl, rfl⟩ := xnx_inj hl
      exact lv_i2l hx hb hd rfl (kk _ _ _ _ _ hL hR hS hc hs)
    · cases hl
  | dup =>
    obtain ⟨rfl, e⟩ := xg_if htr
    cases e
    simp only [xloc] at hl
    split at hl
    · obtain ⟨hn, hl⟩ := xg_if2 hl
      obtain ⟨rfl, rfl, rfl, rfl⟩ := xnx_inj hl
      exact lv_dup hx hb hd hn (kk _ _ _ _ _ hL hR hS hc hs)
    · cases hl
  | pop =>
    obtain ⟨rfl, e⟩ := xg_if htr
    cases e
    simp only [xloc] at hl
    split at hl
    · obtain ⟨hn, hl⟩ := xg_if2 hl
      obtain ⟨rfl, rfl, rfl, rfl⟩ := xnx_inj hl
      exact lv_pop hx hb hd hn (kk _ _ _ _ _ hL hR hS hc hs)
    · cases hl
  | dup2 =>
    obtain ⟨rfl, e⟩ := xg_if htr
    cases e
    simp only [xloc] at hl
    split at hl
    · obtain ⟨⟨hn, hn2⟩, hl⟩ := xg_if2 hl
      obtain ⟨rfl, rfl, rfl, rfl⟩ := xnx_inj hl
      exact lv_dup2_11 hx hb hd hn hn2 (kk _ _ _ _ _ hL hR hS hc hs)
    · cases hl
  | iinc k o =>
    obtain ⟨rfl, e⟩ := xg_if htr
    cases e
    simp only [xloc] at hl
    split at hl
    · rename_i hLx
      obtain ⟨rfl, rfl, rfl, rfl⟩ := xnx_inj hl
      obtain ⟨j, hj⟩ := List.getElem?_of_mem (xpairs_of hLx)
      exact lv_iinc hx hb hd (xLr_has hL) hj rfl (List.getElem?_eq_some_iff.mp hLx).1 rfl (fun ls' hl' => kk _ _ _ _ _ (xLr_s1 hl') hR hS hc hs)
    · cases hl
  | goto off =>
    obtain ⟨rfl, h1⟩ := xg_if2 htr
    obtain ⟨t, ht, e⟩ := Option.map_eq_some_iff.mp h1
    cases e
    simp only [xloc] at hl
    obtain ⟨rfl, rfl, rfl, rfl⟩ := xnx_inj hl
    exact lv_goto hx hb hd (xtg_ok ht) (kk _ _ _ _ _ hL hR hS hc hs)
  | if_icmp o off =>
    obtain ⟨rfl, h1⟩ := xg_if2 htr
    obtain ⟨t, ht, e⟩ := Option.map_eq_some_iff.mp h1
    cases e
    simp only [xloc] at hl
    split at hl
    · rename_i x2 x1 rest
      cases o with
      | eq =>
        exact lv_icmp_eq hx hb hd (xtg_ok ht) (fun hq => by rw [show xcmp .eq x1 x2 = true from decide_eq_true hq] at hl; exact xtk hl kk hL hR hS hc hs) (fun hq => by rw [show xcmp .eq x1 x2 = false from decide_eq_false hq] at hl; exact xtk hl kk hL hR hS hc hs)
      | ne =>
        exact lv_icmp_ne hx hb hd (xtg_ok ht) (fun hq => by rw [show xcmp .ne x1 x2 = true from decide_eq_true hq] at hl; exact xtk hl kk hL hR hS hc hs) (fun hq => by rw [show xcmp .ne x1 x2 = false from decide_eq_false (not_not_intro hq)] at hl; exact xtk hl kk hL hR hS hc hs)
      | lt =>
        exact lv_icmp_lt hx hb hd (xtg_ok ht) (fun hq => by rw [show xcmp .lt x1 x2 = true from decide_eq_true hq] at hl; exact xtk hl kk hL hR hS hc hs) (fun hq => by rw [show xcmp .lt x1 x2 = false from decide_eq_false hq] at hl; exact xtk hl kk hL hR hS hc hs)
      | ge =>
        exact lv_icmp_ge hx hb hd (xtg_ok ht) (fun hq => by rw [show xcmp .ge x1 x2 = true from decide_eq_true hq] at hl; exact xtk hl kk hL hR hS hc hs) (fun hq => by rw [show xcmp .ge x1 x2 = false from decide_eq_false hq] at hl; exact xtk hl kk hL hR hS hc hs)
      | gt =>
        exact lv_icmp_gt hx hb hd (xtg_ok ht) (fun hq => by rw [show xcmp .gt x1 x2 = true from decide_eq_true hq] at hl; exact xtk hl kk hL hR hS hc hs) (fun hq => by rw [show xcmp .gt x1 x2 = false from decide_eq_false hq] at hl; exact xtk hl kk hL hR hS hc hs)
      | le =>
        exact lv_icmp_le hx hb hd (xtg_ok ht) (fun hq => by rw [show xcmp .le x1 x2 = true from decide_eq_true hq] at hl; exact xtk hl kk hL hR hS hc hs) (fun hq => by rw [show xcmp .le x1 x2 = false from decide_eq_false hq] at hl; exact xtk hl kk hL hR hS hc hs)
    · cases hl
  | ifCond o off =>
    obtain ⟨rfl, h1⟩ := xg_if2 htr
    obtain ⟨t, ht, e⟩ := Option.map_eq_some_iff.mp h1
    cases e
    simp only [xloc] at hl
    split at hl
    · rename_i x1 rest
      cases o with
      | eq =>
        exact lv_if_eq hx hb hd (xtg_ok ht) (fun hq => by rw [show xcmp .eq x1 0 = true from decide_eq_true hq] at hl; exact xtk hl kk hL hR hS hc hs) (fun hq => by rw [show xcmp .eq x1 0 = false from decide_eq_false hq] at hl; exact xtk hl kk hL hR hS hc hs)
      | ne =>
        exact lv_if_ne hx hb hd (xtg_ok ht) (fun hq => by rw [show xcmp .ne x1 0 = true from decide_eq_true hq] at hl; exact xtk hl kk hL hR hS hc hs) (fun hq => by rw [show xcmp .ne x1 0 = false from decide_eq_false (not_not_intro hq)] at hl; exact xtk hl kk hL hR hS hc hs)
      | lt =>
        exact lv_if_lt hx hb hd (xtg_ok ht) (fun hq => by rw [show xcmp .lt x1 0 = true from decide_eq_true hq] at hl; exact xtk hl kk hL hR hS hc hs) (fun hq => by rw [show xcmp .lt x1 0 = false from decide_eq_false hq] at hl; exact xtk hl kk hL hR hS hc hs)
      | ge =>
        exact lv_if_ge hx hb hd (xtg_ok ht) (fun hq => by rw [show xcmp .ge x1 0 = true from decide_eq_true hq] at hl; exact xtk hl kk hL hR hS hc hs) (fun hq => by rw [show xcmp .ge x1 0 = false from decide_eq_false hq] at hl; exact xtk hl kk hL hR hS hc hs)
      | gt =>
        exact lv_if_gt hx hb hd (xtg_ok ht) (fun hq => by rw [show xcmp .gt x1 0 = true from decide_eq_true hq] at hl; exact xtk hl kk hL hR hS hc hs) (fun hq => by rw [show xcmp .gt x1 0 = false from decide_eq_false hq] at hl; exact xtk hl kk hL hR hS hc hs)
      | le =>
        exact lv_if_le hx hb hd (xtg_ok ht) (fun hq => by rw [show xcmp .le x1 0 = true from decide_eq_true hq] at hl; exact xtk hl kk hL hR hS hc hs) (fun hq => by rw [show xcmp .le x1 0 = false from decide_eq_false hq] at hl; exact xtk hl kk hL hR hS hc hs)
    · cases hl
  | ifnull off =>
    obtain ⟨rfl, h1⟩ := xg_if2 htr
    obtain ⟨t, ht, e⟩ := Option.map_eq_some_iff.mp h1
    cases e
    simp only [xloc] at hl
    split at hl
    · obtain ⟨rfl, rfl, rfl, rfl⟩ := xnx_inj hl
      exact lv_ifnullN hx hb hd (xtg_ok ht) (kk _ _ _ _ _ hL hR hS hc hs)
    · obtain ⟨rfl, rfl, rfl, rfl⟩ := xnx_inj hl
      exact lv_ifnull hx hb hd (kk _ _ _ _ _ hL hR hS hc hs)
    · cases hl
  | tableswitch d lo hi offs =>
    obtain ⟨⟨h1, h2⟩, e⟩ := xg_if htr
    cases e
    simp only [xloc] at hl
    split at hl
    · split at hl
      · rename_i hq
        obtain ⟨rfl, rfl, rfl, rfl⟩ := xnx_inj hl
        exact lv_tableOut hx hb hd hq (by omega) (kk _ _ _ _ _ hL hR hS hc hs)
      · rename_i hq
        split at hl
        · rename_i ho
          obtain ⟨rfl, rfl, rfl, rfl⟩ := xnx_inj hl
          rw [Array.getElem?_map] at ho
          obtain ⟨off, ho1, ho2⟩ := Option.map_eq_some_iff.mp ho
          subst ho2
          have h3 : 0 ≤ (pc : Int) + off := by
            have hm := Array.mem_of_getElem? ho1
            have h4 := Array.all_eq_true_iff_forall_mem.mp h2 off hm
            exact of_decide_eq_true h4
          exact lv_tableIn hx hb hd (fun q => hq (Or.inl q)) (fun q => hq (Or.inr q)) ho1 (by omega) (kk _ _ _ _ _ hL hR hS hc hs)
        · cases hl
    · cases hl
  | iaload =>
    obtain ⟨rfl, e⟩ := xg_if htr
    cases e
    simp only [xloc] at hl
    split at hl
    · split at hl
      · rename_i hcell
        obtain ⟨⟨hk, hn, hlt⟩, hl⟩ := xg_if2 hl
        obtain ⟨rfl, rfl, rfl, rfl⟩ := xnx_inj hl
        exact x_iaload hx hb hK hk (hR.1 _ _ hcell) ⟨hn, hlt⟩ hd (kk _ _ _ _ _ hL hR hS hc hs)
      · cases hl
    · cases hl
  | aaload =>
    obtain ⟨rfl, e⟩ := xg_if htr
    cases e
    simp only [xloc] at hl
    split at hl
    · split at hl
      · rename_i hcell
        obtain ⟨⟨hn, hlt⟩, hl⟩ := xg_if2 hl
        obtain ⟨rfl, rfl, rfl, rfl⟩ := xnx_inj hl
        exact va_aldq hx hb hK (xP1 (hR.1 _ _ hcell)) 0 2 rfl rfl (xin_of hn hlt) hd (kk _ _ _ _ _ hL hR hS hc hs)
      · cases hl
    · cases hl
  | iastore =>
    obtain ⟨rfl, e⟩ := xg_if htr
    cases e
    simp only [xloc] at hl
    split at hl
    · split at hl
      · rename_i hcell
        obtain ⟨⟨hn, hlt⟩, hl⟩ := xg_if2 hl
        obtain ⟨rfl, rfl, rfl, rfl⟩ := xnx_inj hl
        exact x_iastore hx hb hK (hR.1 _ _ hcell) ⟨hn, hlt⟩ hd (fun H1 z he oq => kk _ _ _ _ _ hL (xRp_put hR he z oq) (hS.put z oq (xat_A (hR.1 _ _ hcell))) hc hs)
      · cases hl
    · cases hl
  | aastore =>
    obtain ⟨rfl, e⟩ := xg_if htr
    cases e
    simp only [xloc] at hl
    split at hl
    · split at hl
      · rename_i hcell
        obtain ⟨⟨hrc, hn, hlt⟩, hl⟩ := xg_if2 hl
        obtain ⟨rfl, rfl, rfl, rfl⟩ := xnx_inj hl
        exact x_aastore hx hb hK (hR.1 _ _ hcell) (xrcv_at hR hrc) ⟨hn, hlt⟩ hd (fun H1 z he oq => kk _ _ _ _ _ hL (xRp_put hR he z oq) (hS.put z oq (xat_A (hR.1 _ _ hcell))) hc hs)
      · cases hl
    · cases hl
  | arraylength =>
    obtain ⟨rfl, e⟩ := xg_if htr
    cases e
    simp only [xloc] at hl
    split at hl
    · split at hl
      · rename_i hcell
        obtain ⟨rfl, rfl, rfl, rfl⟩ := xnx_inj hl
        exact x_alen hx hb hK (hR.1 _ _ hcell) hd (kk _ _ _ _ _ hL hR hS hc hs)
      · cases hl
    · cases hl
  | newarray t =>
    obtain ⟨rfl, e⟩ := xg_if htr
    cases e
    simp only [xloc] at hl
    split at hl
    · obtain ⟨⟨hn0, hn, hle⟩, hl⟩ := xg_if2 hl
      have hz := hR.2.1 hn0
      split at hl
      · obtain ⟨rfl, rfl, rfl, rfl⟩ := xnx_inj hl
        refine x_newa hx hb hK rfl (hts _ xarr_int) rfl hd hn hle (by simp only [xnew] at hbc; omega) (by simp only [xnew] at hbs; omega) (fun H1 he z oq => ?_)
        rw [hz]
        exact kk _ _ _ _ _ hL (xRp_new hR hn0 (he hR.2.2) z oq) (xS_new hS z oq) (by simp only [xnew]; omega) (by simp only [xnew]; omega)
      · cases hl
    · cases hl
  | anewarray k =>
    obtain ⟨⟨rfl, hpf⟩, e⟩ := xg_if htr
    cases e
    simp only [xloc] at hl
    split at hl
    · obtain ⟨⟨hn0, hn, hle⟩, hl⟩ := xg_if2 hl
      have hz := hR.2.1 hn0
      obtain ⟨rfl, rfl, rfl, rfl⟩ := xnx_inj hl
      refine x_newq hx hb hK hown (hts _ (xpf_ok hpf).1) hAO hR.2.2 hd hn hle (by simp only [xnew] at hbc; omega) (by simp only [xnew] at hbs; omega) (fun H1 he z oq => ?_)
      rw [hz]
      exact kk _ _ _ _ _ hL (xRp_new hR hn0 he z oq) (xS_new hS z oq) (by simp only [xnew]; omega) (by simp only [xnew]; omega)
    · cases hl
  | getfield k =>
    obtain ⟨rfl, h1⟩ := xg_if2 htr
    split at h1
    · rename_i hpf
      cases h1
      obtain ⟨hw, hkN, hc9⟩ := xpf_ok hpf
      simp only [xloc] at hl
      split at hl
      · split at hl
        · rename_i hcell
          split at hl
          · rename_i hci
            subst hci
            split at hl
            · rename_i hv
              rw [xdiv hkN] at hcell
              rw [xmod hkN] at hv
              obtain ⟨rfl, rfl, rfl, rfl⟩ := xnx_inj hl
              exact va_get hx hb hts (xlay_in hc9) hown hK (xP1o (hR.1 _ _ hcell)) 0 rfl (xcl_get hc9) _ hkN (hts _ hw) (fun _ q => q) hv hd (kk _ _ _ _ _ hL hR hS hc hs)
            · cases hl
          · cases hl
        · cases hl
      · cases hl
    · rename_i hpf
      cases h1
      obtain ⟨hw, hkN, hc9⟩ := xpf_ok hpf
      simp only [xloc] at hl
      split at hl
      · split at hl
        · rename_i hcell
          split at hl
          · rename_i hci
            subst hci
            split at hl
            · rename_i hv
              rw [xdiv hkN] at hcell
              rw [xmod hkN] at hv
              obtain ⟨rfl, rfl, rfl, rfl⟩ := xnx_inj hl
              exact va_getN hx hb hts (xlay_in hc9) hown hK (xP1o (hR.1 _ _ hcell)) 0 rfl (xcl_get hc9) _ hkN (va_Nw.use rfl (hNw _ hw rfl)) (fun _ q => q) hv hd (kk _ _ _ _ _ hL hR hS hc hs)
            · cases hl
          · cases hl
        · cases hl
      · cases hl
    · cases h1
  | putfield k =>
    obtain ⟨rfl, h1⟩ := xg_if2 htr
    split at h1
    · rename_i hpf
      obtain ⟨hfin, e⟩ := xg_if h1
      cases e
      obtain ⟨hw, hkN, hc9⟩ := xpf_ok hpf
      simp only [xloc] at hl
      split at hl
      · split at hl
        · rename_i hcell
          obtain ⟨⟨hci, hlt, hfit⟩, hl⟩ := xg_if2 hl
          subst hci
          rw [xdiv hkN, xmod hkN] at hfit
          rw [xmod hkN] at hlt
          obtain ⟨rfl, rfl, rfl, rfl⟩ := xnx_inj hl
          rw [xmod hkN, xdiv hkN] at kk
          rw [xdiv hkN] at hcell
          exact x_put hx hb hts hc9 hown hK (hR.1 _ _ hcell) hkN (Or.inl ⟨hts _ hw, xfin_ok hnm hfin⟩) hfit hlt hd (fun H1 z he oq => kk _ _ _ _ _ hL (xRp_put hR he z oq) (hS.put z oq (xat_A (hR.1 _ _ hcell))) hc hs)
        · cases hl
      · cases hl
    · rename_i hpf
      obtain ⟨hfin, e⟩ := xg_if h1
      cases e
      obtain ⟨hw, hkN, hc9⟩ := xpf_ok hpf
      simp only [xloc] at hl
      split at hl
      · split at hl
        · rename_i hcell
          obtain ⟨⟨hci, hlt, hfit⟩, hl⟩ := xg_if2 hl
          subst hci
          rw [xdiv hkN, xmod hkN] at hfit
          rw [xmod hkN] at hlt
          obtain ⟨rfl, rfl, rfl, rfl⟩ := xnx_inj hl
          rw [xmod hkN, xdiv hkN] at kk
          rw [xdiv hkN] at hcell
          exact x_put hx hb hts hc9 hown hK (hR.1 _ _ hcell) hkN (Or.inr ⟨va_Nw.use rfl (hNw _ hw rfl), hfin⟩) hfit hlt hd (fun H1 z he oq => kk _ _ _ _ _ hL (xRp_put hR he z oq) (hS.put z oq (xat_A (hR.1 _ _ hcell))) hc hs)
        · cases hl
      · cases hl
    · cases h1
  | new k =>
    obtain ⟨rfl, h1⟩ := xg_if2 htr
    split at h1
    · rename_i hpf
      cases h1
      obtain ⟨hw, hc9⟩ := xpf_ok hpf
      simp only [xloc] at hl
      rw [if_pos (by omega)] at hl
      obtain ⟨hn0, hl⟩ := xg_if2 hl
      have hz := hR.2.1 hn0
      obtain ⟨rfl, rfl, rfl, rfl⟩ := xnx_inj hl
      refine x_new hx hb hts hc9 hown hK (hts _ hw) hR.2.2 hd (by simp only [xnew] at hbc; omega) (by simp only [xnew] at hbs; omega) (fun H1 he z oq => ?_)
      rw [hz]
      exact kk _ _ _ _ _ hL (xRp_new hR hn0 he z oq) (xS_new hS z oq) (by simp only [xnew]; omega) (by simp only [xnew]; omega)
    · obtain ⟨-, e⟩ := xg_if h1
      cases e
      simp only [xloc] at hl
      rw [if_neg (by omega)] at hl
      obtain ⟨-, hl⟩ := xg_if hl
      cases hl
    · cases h1
  | invokevirtual k =>
    obtain ⟨rfl, h1⟩ := xg_if2 htr
    split at h1
    · obtain ⟨-, e⟩ := xg_if h1
      cases e
      simp only [xloc] at hl
      cases hl
    · cases h1
  | invokestatic k =>
    obtain ⟨rfl, h1⟩ := xg_if2 htr
    split at h1
    · obtain ⟨⟨-, hz⟩, e⟩ := xg_if h1
      cases e
      simp only [xloc] at hl
      split at hl
      · obtain ⟨-, hl⟩ := xg_if2 hl
        rw [if_neg (by omega), if_neg (by omega)] at hl
        cases hl
      · cases hl
    · rename_i hpf
      obtain ⟨⟨hf1, hf2⟩, e⟩ := xg_if h1
      cases e
      simp only [xloc] at hl
      split at hl
      · obtain ⟨hst4, hl⟩ := xg_if2 hl
        rw [if_pos trivial] at hl
        obtain ⟨rfl, rfl, rfl, rfl⟩ := xnx_inj hl
        exact va_mmax hx hb (by rw [hml, ← hLen]; exact hL.1.symm) hown (hts _ (xpf_ok hpf)) (hts _ xmath_maxS) (hts _ xmath_ini) (hts _ xmath_maxC) (by omega) (by have := xcat_sum hst4; omega) (by omega) (by omega) hd (kk _ _ _ _ _ hL hR hS hc hs)
      · cases hl
    · rename_i hpf
      obtain ⟨⟨hf1, hf2⟩, e⟩ := xg_if h1
      cases e
      simp only [xloc] at hl
      split at hl
      · obtain ⟨hst4, hl⟩ := xg_if2 hl
        rw [if_neg (by decide), if_pos trivial] at hl
        obtain ⟨rfl, rfl, rfl, rfl⟩ := xnx_inj hl
        exact va_mmin hx hb (by rw [hml, ← hLen]; exact hL.1.symm) hown (hts _ (xpf_ok hpf)) (hts _ xmath_minS) (hts _ xmath_ini) (hts _ xmath_minC) (by omega) (by have := xcat_sum hst4; omega) (by omega) (by omega) hd (kk _ _ _ _ _ hL hR hS hc hs)
      · cases hl
    · cases h1
  | invokespecial k =>
    obtain ⟨rfl, h1⟩ := xg_if2 htr
    split at h1
    · obtain ⟨⟨-, hz⟩, e⟩ := xg_if h1
      cases e
      simp only [xloc] at hl
      split at hl
      · obtain ⟨⟨hz1, -⟩, -⟩ := xg_if2 hl
        omega
      · cases hl
    · obtain ⟨⟨-, hz⟩, e⟩ := xg_if h1
      cases e
      simp only [xloc] at hl
      split at hl
      · obtain ⟨⟨hz1, -⟩, -⟩ := xg_if2 hl
        omega
      · cases hl
    · rename_i hpf
      obtain ⟨⟨hf1, hf2⟩, e⟩ := xg_if h1
      cases e
      simp only [xloc] at hl
      split at hl
      · obtain ⟨⟨-, hst4⟩, hl⟩ := xg_if2 hl
        obtain ⟨rfl, rfl, rfl, rfl⟩ := xnx_inj hl
        exact W.objInit hx hb hown (hts _ (xpf_ok hpf)) (hts _ xobj_I) (hts _ xobj_C) rfl (by show ls.size = _; rw [hml, ← hLen]; exact hL.1) rfl hd (by omega) (by have := xcat_sum hst4; simp only [JFrame.monitorRoom]; omega) (kk _ _ _ _ _ hL hR hS hc hs)
      · cases hl
    · cases h1
  | ireturn =>
    obtain ⟨rfl, e⟩ := xg_if htr
    cases e
    simp only [xloc] at hl
    split at hl
    · obtain ⟨-, hl⟩ := xg_if hl
      cases hl
    · cases hl
  | lreturn =>
    obtain ⟨rfl, e⟩ := xg_if htr
    cases e
    simp only [xloc] at hl
    split at hl
    · obtain ⟨-, hl⟩ := xg_if hl
      cases hl
    · cases hl
  | dreturn =>
    obtain ⟨rfl, e⟩ := xg_if htr
    cases e
    simp only [xloc] at hl
    split at hl
    · obtain ⟨-, hl⟩ := xg_if hl
      cases hl
    · cases hl
  | return_ =>
    obtain ⟨rfl, e⟩ := xg_if htr
    cases e
    simp only [xloc] at hl
    split at hl
    · obtain ⟨-, hl⟩ := xg_if hl
      cases hl
    · cases hl
  | _ =>
    cases htr
