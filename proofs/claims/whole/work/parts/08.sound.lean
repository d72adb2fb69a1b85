/-! The small machine's runs are the real machine's. -/
def xhq (q : xC ⊕ (xR × xH)) : xH := match q with
  | .inl c => c.2.2.2
  | .inr r => r.2
theorem xloc_mono {y n : Nat} {i : Instr} {L : xL} {st : List Value} {h : xH} {q : xC ⊕ (xR × xH)} (hl : xloc y i n L st h = some q) : h.2.2.1 ≤ (xhq q).2.2.1 ∧ h.2.2.2 ≤ (xhq q).2.2.2 := by
  cases i <;> simp only [xloc, xbr] at hl
  all_goals
    (repeat' split at hl)
    all_goals first
      | (cases hl; done)
      | (simp only [xnx, Option.some.injEq] at hl; subst hl; exact ⟨Nat.le_refl _, Nat.le_refl _⟩)
      | (simp only [xnx, Option.some.injEq] at hl; subst hl; exact ⟨Nat.le_add_right _ _, Nat.le_add_right _ _⟩)
      | (cases hl; exact ⟨Nat.le_refl _, Nat.le_refl _⟩)
      | (cases hl; exact ⟨Nat.le_add_right _ _, Nat.le_add_right _ _⟩)
theorem xloc_len {y n pc' : Nat} {i : Instr} {L L' : xL} {st st' : List Value} {h h' : xH} (hl : xloc y i n L st h = some (.inl (pc', L', st', h'))) : L'.length = L.length := by
  cases i <;> simp only [xloc, xbr] at hl
  all_goals
    (repeat' split at hl)
    all_goals first
      | (cases hl; done)
      | (obtain ⟨-, rfl, -, -⟩ := xnx_inj hl; rfl)
      | (obtain ⟨-, rfl, -, -⟩ := xnx_inj hl; exact xs1_len _ _ _)
      | (obtain ⟨-, rfl, -, -⟩ := xnx_inj hl; exact xs2_len _ _ _)
/-- what a method's run came to, as the real machine's contract has it -/
def xQ (G : xG) (r : xR) (h1 : xH) : Array Value → State → Outcome → State → Prop := fun _ st o t => ∃ v, r = .inl v ∧ o = .returned v ∧ xRp G t h1 t.heap ∧ va_F (xA G) st t
def xX (G : xG) (r : xR) (h1 : xH) : String → State → State → Prop := fun E st t => ∃ k, r = .inr k ∧ E = xec k ∧ xRp G t h1 t.heap ∧ va_F (xA G) st t
def xPc (G : xG) (a : List Value) (h : xH) : Array Value → State → Prop := fun v U => v = a.toArray ∧ xRp G U h U.heap ∧ xEn G U
theorem xPc_blind {G : xG} {a : List Value} {h : xH} : FrameBlind (xPc G a h) := by
  intro v U g mk ⟨h1, h2, h3⟩
  have hvm : U.vm.Alike (U.calling g mk v).vm := Vm.Alike.refl U.vm
  exact ⟨h1, xRp_moved hvm h2, xEn_moved h3 (State.WarmedH.refl U) (fun _ _ _ => rfl)⟩
def xEnd (G : xG) (y : Nat) (p : Program) (l : Launch) (e : Env) (R : Room) (s : State) (m : MethodId) (args : Array Value) (below : List Frame) (meth : Method) (c : Code) (Q : State → Prop) (c0 s0 : Nat) (r : xR × xH) : Prop :=
  ∀ (pc : Nat) (L : xL) (st : List Value) (h : xH) (i : Instr) (n : Nat) (ls : Array Slot) (H : Heap) (locs : List Loc) (cells slots : Nat), xop y pc = some (i, n) → xloc y i n L st h = some (.inr r) → xLr ls L → L.length = xml y → xRp G s h H → va_S (xA G) s.heap H locs → cells + c0 = h.2.2.1 → slots + s0 = h.2.2.2 →
    W p l e R s m args below meth c H locs cells slots Q (F0 m pc ls st)
theorem xop_ok {y pc n : Nat} {i : Instr} (h : xop y pc = some (i, n)) : ∃ i0 len, decode (xmb y) pc = .ok (i0, len) ∧ xtr y pc i0 len = some (i, n) := by
  unfold xop at h
  split at h
  · rename_i i0 len hd
    exact ⟨i0, len, hd, h⟩
  · cases h
theorem xP0 {xP : Prop} {a : Option Nat} (h : (none : Option Nat) = some 0) : xP := by cases h
