/-! What stays so at every place of a run: the tables, the statics, the texts. -/
theorem xcl_get {ci : Nat} (h : ci < 8) : vwCl[ci]? = some (xcn ci, xT ci, xN ci) := by
  match ci, h with
  | 0, _ => rfl
  | 1, _ => rfl
  | 2, _ => rfl
  | 3, _ => rfl
  | 4, _ => rfl
  | 5, _ => rfl
  | 6, _ => rfl
  | 7, _ => rfl
theorem xlay_in {ci : Nat} (h : ci < 8) : ∀ w ∈ u_ws (xcn ci) (xT ci) (xN ci), w ∈ xgt := by
  have key : ∀ c, c < 8 → ∀ w ∈ u_ws (xcn c) (xT c) (xN c), w ∈ lw_tbl ∧ goodWord w = true := by decide +kernel
  exact fun w hw => List.mem_filter.mpr (key ci h w hw)
theorem xinst_in {ci : Nat} (h : ci < 8) : Cond.instantiable (xcn ci) (xN ci) ∈ xgt := by
  have key : ∀ c, c < 8 → Cond.instantiable (xcn c) (xN c) ∈ lw_tbl ∧ goodWord (Cond.instantiable (xcn c) (xN c)) = true := by decide +kernel
  exact List.mem_filter.mpr (key ci h)
theorem xini_in {ci : Nat} (h : ci < 8) : Cond.initialized (xcn ci) ∈ xgt := by
  have key : ∀ c, c < 8 → Cond.initialized (xcn c) ∈ lw_tbl ∧ goodWord (Cond.initialized (xcn c)) = true := by decide +kernel
  exact List.mem_filter.mpr (key ci h)
theorem xty_ok {ci : Nat} (h : ci < 8) : ∀ k, k < xN ci → parseFieldDescriptor (xT ci k).2.2.1 = some (xty ci k) := by
  have key : ∀ c, c < 8 → ∀ k, k < xN c → parseFieldDescriptor (xT c k).2.2.1 = some (xty c k) := by decide +kernel
  exact key ci h
theorem xnm_ok {ci : Nat} (h : ci < 8) : ∀ a, a < xN ci → ∀ b, b < xN ci → a ≠ b → (xT ci a).2.1 ≠ (xT ci b).2.1 := by
  have key : ∀ c, c < 8 → ∀ a, a < xN c → ∀ b, b < xN c → a ≠ b → (xT c a).2.1 ≠ (xT c b).2.1 := by decide +kernel
  exact key ci h
/-- words that aren't good ones, but stay so -/
def xnw (w : Cond) : Bool := match w with
  | .fieldLinkNest .. => true
  | .methodLinkNest .. => true
  | .castable .. => true
  | .declares .. => true
  | _ => false
theorem xnw_warm {w : Cond} (h : xnw w = true) {s U : State} (hW : s.WarmedH U.vm) (hZ : va_Nw w s) : va_Nw w U := by
  cases w with
  | fieldLinkNest a b c d e f => exact va_Nw.warmF hW hZ
  | methodLinkNest a b c d => exact va_Nw.warmM hW hZ
  | castable a b => exact va_Nw.warmC hW hZ
  | declares a => exact va_Nw.warmD hW hZ
  | _ => cases h
theorem xnw_tabs {w : Cond} (h : xnw w = true) : w.onTables = true := by
  cases w with
  | fieldLinkNest a b c d e f => rfl
  | methodLinkNest a b c d => rfl
  | castable a b => rfl
  | declares a => rfl
  | _ => cases h
def xexn : List String := ["java/lang/RuntimeException", "java/lang/Exception"]
def xtys (G : xG) : List (ClassId × FieldType) := [(G.2.1 0, .int), (G.2.1 1, .int), (G.2.1 2, .object "PairNames$State")]
/-- no method here catches anything -/
theorem xmh_of {L : List xMt} (h : ∀ q ∈ L, q.2.2.2.2.1 = []) (i : Nat) : ((L[i]?).getD xmd).2.2.2.2.1 = [] := by
  cases e : L[i]? with
  | none => rfl
  | some q => exact h q (List.mem_of_getElem? e)
theorem xmh_nil (y : Nat) : xmh y = [] := by
  unfold xmh xm
  refine xmh_of ?_ _
  split
  · exact (by decide +kernel : ∀ q ∈ xmt_0, q.2.2.2.2.1 = [])
  · exact (by decide +kernel : ∀ q ∈ xmt_1, q.2.2.2.2.1 = [])
  · exact (by decide +kernel : ∀ q ∈ xmt_2, q.2.2.2.2.1 = [])
  · exact (by decide +kernel : ∀ q ∈ xmt_3, q.2.2.2.2.1 = [])
  · exact fun q h => nomatch h
/-- the tables and the statics, as every place of a run has them -/
def xEn (G : xG) (s : State) : Prop := va_K G.1 vwCl (xtys G) s ∧ (∀ w ∈ lw_tbl, xnw w = true → va_Nw w s) ∧ (∀ y, xmh y = []) ∧ (∀ i k a, xpf 7 i = some (11, k, a) → ∃ sa, vk_R RX7 i ((xss[k]?).getD "") sa s) ∧
  vx_Zq Bundle.tN "UNASSIGNED_STACK" Bundle.steD (xA G) s s.heap ∧ vx_Zq Bundle.tN "SUPPRESSED_SENTINEL" Bundle.listD (xA G) s s.heap ∧ va_AO "PairNames$State" s
theorem xEn_moved {G : xG} {s U : State} (h : xEn G s) (hW : s.WarmedH U.vm) (hq : ∀ a : Nat, a < s.heap.size → ¬ xA G a → U.heap[a]? = s.heap[a]?) : xEn G U := by
  obtain ⟨h1, h2, h3, h4, h5, h6, h7⟩ := h
  refine ⟨va_K.moved hW.alike h1, fun w hw hn => xnw_warm hn hW (h2 w hw hn), h3, fun i k a hi => ?_, vx_Zq.moved hW.alike (h5.kept hq), vx_Zq.moved hW.alike (h6.kept hq), va_AO.moved hW.alike h7⟩
  obtain ⟨sa, hsa⟩ := h4 i k a hi
  exact ⟨sa, vk_R.warm hW hsa⟩
/-- the words of a throw -/
theorem xthrow_ok (e : Nat) (h : e < 3) : (∀ w ∈ (vx_atS RX7 (xic e) (xec e) xexn).filter goodWord, w ∈ lw_tbl) ∧ (∀ w ∈ (vx_atS RX7 (xic e) (xec e) xexn).filter (fun w => !goodWord w), w ∈ lw_tbl ∧ xnw w = true) := by
  have key : ∀ e, e < 3 → (∀ w ∈ (vx_atS RX7 (xic e) (xec e) xexn).filter goodWord, w ∈ lw_tbl) ∧ (∀ w ∈ (vx_atS RX7 (xic e) (xec e) xexn).filter (fun w => !goodWord w), w ∈ lw_tbl ∧ xnw w = true) := by decide +kernel
  exact key e h
theorem xfit_ok {ty : FieldType} {v : Value} (h : xfit ty v = true) : narrow ty v = v ∧ fits ty v = true := by
  cases ty <;> cases v <;> first | (exact ⟨rfl, rfl⟩) | (simp [xfit] at h; done) | skip
  all_goals
    simp only [xfit, Bool.or_eq_true, beq_iff_eq] at h
    rcases h with h | h <;> subst h <;> exact ⟨by decide, by decide⟩
theorem xnr_ok {y : Nat} {x : Int32} (h : xnr (xmr y) x = true) : ∃ ty, xmr y = some ty ∧ narrow ty (.int x) = .int x := by
  unfold xnr at h
  split at h
  · rename_i he
    exact ⟨_, he, rfl⟩
  · rename_i he
    refine ⟨_, he, ?_⟩
    simp only [Bool.or_eq_true, beq_iff_eq] at h
    rcases h with h | h <;> subst h <;> decide
  · cases h
