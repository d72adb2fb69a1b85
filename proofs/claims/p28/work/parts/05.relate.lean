/-! The small machine's heap and locals, and the real ones. -/
theorem xg_if {α : Type} {c : Prop} {d : Decidable c} {a b : α} (h : (@ite _ c d (some a) none) = some b) : c ∧ a = b := by
  by_cases hc : c
  · rw [if_pos hc] at h; exact ⟨hc, Option.some.inj h⟩
  · rw [if_neg hc] at h; cases h
theorem xg_if2 {α : Type} {c : Prop} {d : Decidable c} {a : Option α} {b : α} (h : (@ite _ c d a none) = some b) : c ∧ a = some b := by
  by_cases hc : c
  · rw [if_pos hc] at h; exact ⟨hc, h⟩
  · rw [if_neg hc] at h; cases h
theorem xnx_inj {n pc' : Nat} {L L' : xL} {st st' : List Value} {h h' : xH} (e : xnx n L st h = some (.inl (pc', L', st', h'))) : n = pc' ∧ L = L' ∧ st = st' ∧ h = h' := by
  unfold xnx at e; cases e; exact ⟨rfl, rfl, rfl, rfl⟩
theorem xtg_ok {pc : Nat} {off t : Int} (h : xtg pc off = some t) : (pc : Int) + off = (t.toNat : Int) := by
  unfold xtg at h
  obtain ⟨h1, h2⟩ := xg_if h
  omega
/-- numbers of the launch: classes and slots, array classes; the first address of our own; the script's cell, length, values -/
abbrev xG : Type := va_G × (Nat → ClassId) × Nat × Nat × Nat × (Nat → Int32)
def xA (G : xG) : Nat → Prop := fun q => G.2.2.1 ≤ q
def xat (G : xG) (s : State) (a : Nat) (e : xE) (H : Heap) : Prop := match e with
  | .inl (k, x) => if k = 3 then (a = G.2.2.2.1 ∧ x = (G.2.2.2.2.1, .inl G.2.2.2.2.2) ∧ va_X G.2.2.2.1 G.2.2.2.2.1 G.2.2.2.2.2 s H) else (k < 3 ∧ G.2.2.1 ≤ a ∧ H[a]? = some (vp_cell (G.2.1 k) x))
  | .inr o => G.2.2.1 ≤ a ∧ va_at G.1 vwCl (a, .inr o) H
def xRp (G : xG) (s : State) (h : xH) (H : Heap) : Prop := (∀ (a : Nat) (e : xE), h.1 a = some e → xat G s a e H) ∧ (h.2.1 ≠ 0 → H.size = h.2.1) ∧ G.2.2.1 ≤ H.size
theorem xat_kept {G : xG} {s : State} {a : Nat} {e : xE} {H H1 : Heap} (h : xat G s a e H) (hq : H1[a]? = H[a]?) : xat G s a e H1 := by
  cases e with
  | inl x =>
    obtain ⟨k, x⟩ := x
    unfold xat at h ⊢
    by_cases hk : k = 3
    · simp only [hk, if_true] at h ⊢
      obtain ⟨h1, h2, h3⟩ := h
      exact ⟨h1, h2, h3.kept (by rw [← h1]; exact hq)⟩
    · simp only [hk, if_false] at h ⊢
      exact ⟨h.1, h.2.1, hq.trans h.2.2⟩
  | inr o => exact ⟨h.1, h.2.kept hq⟩
theorem xat_moved {G : xG} {s U : State} {a : Nat} {e : xE} {H : Heap} (hvm : s.vm.Alike U.vm) (h : xat G s a e H) : xat G U a e H := by
  cases e with
  | inl x =>
    obtain ⟨k, x⟩ := x
    unfold xat at h ⊢
    by_cases hk : k = 3
    · simp only [hk, if_true] at h ⊢
      exact ⟨h.1, h.2.1, h.2.2.moved hvm⟩
    · simp only [hk, if_false] at h ⊢
      exact h
  | inr o => exact h
theorem xat_lt {G : xG} {s : State} {a : Nat} {e : xE} {H : Heap} (h : xat G s a e H) : a < H.size := by
  cases e with
  | inl x =>
    obtain ⟨k, x⟩ := x
    unfold xat at h
    by_cases hk : k = 3
    · simp only [hk, if_true] at h
      obtain ⟨h1, h2, scr, h3, -⟩ := h
      rw [h1]
      exact (Array.getElem?_eq_some_iff.mp h3).1
    · simp only [hk, if_false] at h
      exact (Array.getElem?_eq_some_iff.mp h.2.2).1
  | inr o => exact h.2.lt
theorem xRp_moved {G : xG} {s U : State} {h : xH} {H : Heap} (hvm : s.vm.Alike U.vm) (hR : xRp G s h H) : xRp G U h H := ⟨fun a e he => xat_moved hvm (hR.1 a e he), hR.2⟩
theorem xRp_put {G : xG} {s : State} {h : xH} {H H1 : Heap} {a : Nat} {e : xE} (hR : xRp G s h H) (he : xat G s a e H1) (z : H1.size = H.size) (oq : ∀ q : Nat, q ≠ a → H1[q]? = H[q]?) : xRp G s (xup h a e) H1 := by
  refine ⟨fun b x hb => ?_, fun hn => by rw [z]; exact hR.2.1 hn, by rw [z]; exact hR.2.2⟩
  by_cases hba : b = a
  · simp only [xup, hba, if_true] at hb
    cases hb
    rw [hba]
    exact he
  · simp only [xup, hba, if_false] at hb
    exact xat_kept (hR.1 b x hb) (oq b hba)
theorem xRp_new {G : xG} {s : State} {h : xH} {H H1 : Heap} {e : xE} {n : Nat} (hR : xRp G s h H) (hn : h.2.1 ≠ 0) (he : xat G s H.size e H1) (z : H1.size = H.size + 1) (oq : ∀ q : Nat, q < H.size → H1[q]? = H[q]?) : xRp G s (xnew h e n) H1 := by
  have hz := hR.2.1 hn
  refine ⟨fun b x hb => ?_, fun _ => by rw [z, hz]; rfl, Nat.le_trans hR.2.2 (by omega)⟩
  by_cases hba : b = h.2.1
  · simp only [xnew, hba, if_true] at hb
    cases hb
    rw [hba, ← hz]
    exact he
  · simp only [xnew, hba, if_false] at hb
    have := hR.1 b x hb
    exact xat_kept this (oq b (xat_lt this))
/-- locals -/
def xLr (ls : Array Slot) (L : xL) : Prop := ls.size = L.length ∧ lv_wf ls ∧ ∀ (i : Nat) (v : Value), L[i]? = some (some v) → ls[i]? = some (.val v)
def xpairs (L : xL) : List (Nat × Value) := (List.range L.length).filterMap (fun i => match L[i]? with
  | some (some v) => some (i, v)
  | _ => none)
theorem xpairs_of {L : xL} {i : Nat} {v : Value} (h : L[i]? = some (some v)) : (i, v) ∈ xpairs L := by
  unfold xpairs
  refine List.mem_filterMap.mpr ⟨i, List.mem_range.mpr (List.getElem?_eq_some_iff.mp h).1, ?_⟩
  rw [h]
theorem xpairs_to {L : xL} {q : Nat × Value} (h : q ∈ xpairs L) : L[q.1]? = some (some q.2) := by
  unfold xpairs at h
  obtain ⟨i, -, hi⟩ := List.mem_filterMap.mp h
  split at hi
  · rename_i v hv
    cases hi
    exact hv
  · cases hi
theorem xLr_has {ls : Array Slot} {L : xL} (h : xLr ls L) : lv_has ls L.length (xpairs L) := ⟨h.1, h.2.1, fun q hq => h.2.2 q.1 q.2 (xpairs_to hq)⟩
theorem xs1_len : ∀ (L : xL) (k : Nat) (v : Value), (xs1 L k v).length = L.length := by
  intro L
  induction L with
  | nil => intro k v; simp [xs1]
  | cons a r ih =>
    intro k v
    match k with
    | 0 => simp [xs1]
    | 1 => cases r <;> simp [xs1]
    | k + 2 => cases r <;> simp [xs1, ih]
theorem xs1_get : ∀ (L : xL) (k : Nat) (v : Value) (j : Nat) (w : Value), (xs1 L k v)[j]? = some (some w) → (j = k ∧ w = v) ∨ (j ≠ k ∧ L[j]? = some (some w) ∧ (j + 1 = k → w.category ≠ 2)) := by
  intro L
  induction L with
  | nil => intro k v j w h; simp [xs1] at h
  | cons a r ih =>
    intro k v j w h
    match k with
    | 0 =>
      cases j with
      | zero => simp [xs1] at h; exact Or.inl ⟨rfl, h.symm⟩
      | succ j => simp [xs1] at h; exact Or.inr ⟨by omega, by simpa using h, fun e => by omega⟩
    | 1 =>
      cases r with
      | nil => cases j <;> simp [xs1] at h
      | cons b r =>
        match j with
        | 0 =>
          simp [xs1, xcat] at h
          cases a with
          | none => simp at h
          | some u =>
            simp at h
            obtain ⟨h1, h2⟩ := h
            subst h2
            exact Or.inr ⟨by omega, by simp, fun _ => h1⟩
        | 1 => simp [xs1] at h; exact Or.inl ⟨rfl, h.symm⟩
        | j + 2 => simp [xs1] at h; exact Or.inr ⟨by omega, by simpa using h, fun e => by omega⟩
    | k + 2 =>
      cases r with
      | nil => cases j <;> simp [xs1] at h
      | cons b r =>
        rw [xs1] at h
        cases j with
        | zero => simp at h; exact Or.inr ⟨by omega, by simpa using h, fun e => by omega⟩
        | succ j =>
          rw [List.getElem?_cons_succ] at h
          rcases ih (k + 1) v j w h with ⟨h1, h2⟩ | ⟨h1, h2, h3⟩
          · exact Or.inl ⟨by omega, h2⟩
          · exact Or.inr ⟨by omega, by simpa using h2, fun e => h3 (by omega)⟩
theorem xs2_len : ∀ (L : xL) (k : Nat) (v : Value), (xs2 L k v).length = L.length := by
  intro L
  induction L with
  | nil => intro k v; simp [xs2]
  | cons a r ih =>
    intro k v
    match r, k with
    | [], k => simp [xs2]
    | [b], 0 => simp [xs2]
    | [b], k + 1 => simp [xs2]
    | b :: c :: r, 0 => simp [xs2]
    | b :: c :: r, 1 => simp [xs2]
    | b :: c :: r, k + 2 => simp [xs2, ih]
theorem xs2_get : ∀ (L : xL) (k : Nat) (v : Value) (j : Nat) (w : Value), (xs2 L k v)[j]? = some (some w) → (j = k ∧ w = v) ∨ (j ≠ k ∧ j ≠ k + 1 ∧ L[j]? = some (some w) ∧ (j + 1 = k → w.category ≠ 2)) := by
  intro L
  induction L with
  | nil => intro k v j w h; simp [xs2] at h
  | cons a r ih =>
    intro k v j w h
    match r, k, ih, h with
    | [], k, _, h => cases j <;> simp [xs2] at h
    | [b], 0, _, h =>
      match j with
      | 0 => simp [xs2] at h; exact Or.inl ⟨rfl, h.symm⟩
      | 1 => simp [xs2] at h
      | j + 2 => simp [xs2] at h
    | [b], k + 1, _, h =>
      match j with
      | 0 => simp [xs2] at h
      | 1 => simp [xs2] at h
      | j + 2 => simp [xs2] at h
    | b :: c :: r, 0, _, h =>
      match j with
      | 0 => simp [xs2] at h; exact Or.inl ⟨rfl, h.symm⟩
      | 1 => simp [xs2] at h
      | j + 2 => simp [xs2] at h; exact Or.inr ⟨by omega, by omega, by simpa using h, fun e => by omega⟩
    | b :: c :: r, 1, _, h =>
      match j with
      | 0 =>
        simp [xs2, xcat] at h
        cases a with
        | none => simp at h
        | some u =>
          simp at h
          obtain ⟨h1, h2⟩ := h
          subst h2
          exact Or.inr ⟨by omega, by omega, by simp, fun _ => h1⟩
      | 1 => simp [xs2] at h; exact Or.inl ⟨rfl, h.symm⟩
      | 2 => simp [xs2] at h
      | j + 3 => simp [xs2] at h; exact Or.inr ⟨by omega, by omega, by simpa using h, fun e => by omega⟩
    | b :: c :: r, k + 2, ih, h =>
      rw [xs2] at h
      cases j with
      | zero => simp at h; exact Or.inr ⟨by omega, by omega, by simpa using h, fun e => by omega⟩
      | succ j =>
        rw [List.getElem?_cons_succ] at h
        rcases ih (k + 1) v j w h with ⟨h1, h2⟩ | ⟨h1, h2, h3, h4⟩
        · exact Or.inl ⟨by omega, h2⟩
        · exact Or.inr ⟨by omega, by omega, by simpa using h3, fun e => h4 (by omega)⟩
/-- behind a store of one slot, as the kit's rows have it -/
theorem xLr_s1 {ls' : Array Slot} {L : xL} {k : Nat} {v : Value} (h : lv_has ls' L.length ((k, v) :: (xpairs L).filter (fun q => !(q.1 == k) && !(q.1 + 1 == k && q.2.category == 2)))) : xLr ls' (xs1 L k v) := by
  refine ⟨by rw [xs1_len]; exact h.1, h.2.1, fun j w hj => ?_⟩
  rcases xs1_get L k v j w hj with ⟨h1, h2⟩ | ⟨h1, h2, h3⟩
  · subst h1; subst h2
    exact h.2.2 _ List.mem_cons_self
  · refine h.2.2 (j, w) (List.mem_cons_of_mem _ (List.mem_filter.mpr ⟨xpairs_of h2, ?_⟩))
    by_cases e : j + 1 = k
    · simp [h1, e, h3 e]
    · simp [h1, e]
theorem xLr_s2 {ls' : Array Slot} {L : xL} {k : Nat} {v : Value} (h : lv_has ls' L.length ((k, v) :: (xpairs L).filter (fun q => !(q.1 == k) && (!(q.1 == k + 1) && !(q.1 + 1 == k && q.2.category == 2))))) : xLr ls' (xs2 L k v) := by
  refine ⟨by rw [xs2_len]; exact h.1, h.2.1, fun j w hj => ?_⟩
  rcases xs2_get L k v j w hj with ⟨h1, h2⟩ | ⟨h1, h2, h3, h4⟩
  · subst h1; subst h2
    exact h.2.2 _ List.mem_cons_self
  · refine h.2.2 (j, w) (List.mem_cons_of_mem _ (List.mem_filter.mpr ⟨xpairs_of h3, ?_⟩))
    by_cases e : j + 1 = k
    · simp [h1, h2, e, h4 e]
    · simp [h1, h2, e]
/-- a handler's local: its old value is gone -/
theorem xLr_drop {ls' : Array Slot} {L : xL} {k : Nat} {v : Value} (h : xLr ls' (xs1 L k v)) : xLr ls' ((xs1 L k v).set k none) := by
  refine ⟨by rw [List.length_set]; exact h.1, h.2.1, fun j w hj => ?_⟩
  by_cases e : k = j
  · subst e
    rw [List.getElem?_set_self'] at hj
    cases hx : (xs1 L k v)[k]? <;> simp [hx] at hj
  · rw [List.getElem?_set_ne e] at hj
    exact h.2.2 j w hj
/-- the locals at a method's entry -/
theorem xargs_len : ∀ (a : List Value), (lg_sl a).length = (xargs a).length := by
  intro a
  induction a with
  | nil => simp [lg_sl, xargs]
  | cons v vs ih =>
    unfold xargs
    have e : lg_sl (v :: vs) = (if v.category = 2 then [Slot.val v, Slot.second] else [Slot.val v]) ++ lg_sl vs := by simp [lg_sl]
    rw [e]
    by_cases h : v.category = 2
    · simp [h, ih]
    · simp [h, ih]
theorem xargs_get : ∀ (a : List Value) (b i : Nat) (v : Value), (xargs a)[i]? = some (some v) → (b + i, v) ∈ lv_args b a := by
  intro a
  induction a with
  | nil => intro b i v h; simp [xargs] at h
  | cons u vs ih =>
    intro b i v h
    unfold xargs at h
    unfold lv_args
    by_cases hu : u.category = 2
    · simp only [hu, if_true] at h ⊢
      match i with
      | 0 => simp at h; subst h; exact List.mem_cons_self
      | 1 => simp at h
      | i + 2 =>
        simp at h
        have := ih (b + 2) i v h
        rw [show b + 2 + i = b + (i + 2) by omega] at this
        exact List.mem_cons_of_mem _ this
    · simp only [hu, if_false] at h ⊢
      match i with
      | 0 => simp at h; subst h; exact List.mem_cons_self
      | i + 1 =>
        simp at h
        have := ih (b + 1) i v h
        rw [show b + 1 + i = b + (i + 1) by omega] at this
        exact List.mem_cons_of_mem _ this
theorem xent_len {z : Nat} {a : List Value} (h : (xargs a).length ≤ xml z) : (xent z a).length = xml z := by
  unfold xent
  rw [List.length_append, List.length_replicate]
  omega
theorem xLr_ent {z : Nat} {a : List Value} (h : (xargs a).length ≤ xml z) : xLr ((lg_sl a ++ List.replicate (xml z - (lg_sl a).length) Slot.unset).toArray) (xent z a) := by
  have hl := lv_entry a (n := xml z) (by rw [xargs_len]; exact h)
  refine ⟨by rw [xent_len h]; exact hl.1, hl.2.1, fun i v hi => ?_⟩
  unfold xent at hi
  by_cases hi2 : i < (xargs a).length
  · rw [List.getElem?_append_left hi2] at hi
    have := xargs_get a 0 i v hi
    rw [Nat.zero_add] at this
    exact hl.2.2 _ this
  · rw [List.getElem?_append_right (by omega)] at hi
    rw [List.getElem?_replicate] at hi
    split at hi <;> cases hi
theorem xs1_any : ∀ (L : xL) (k : Nat) (v w : Value), (xs1 L k v).set k none = (xs1 L k w).set k none := by
  intro L
  induction L with
  | nil => intro k v w; simp [xs1]
  | cons a r ih =>
    intro k v w
    match k with
    | 0 => simp [xs1]
    | 1 => cases r <;> simp [xs1]
    | k + 2 =>
      cases r with
      | nil => simp [xs1]
      | cons b r =>
        simp only [xs1, List.set_cons_succ]
        rw [ih (k + 1) v w]
