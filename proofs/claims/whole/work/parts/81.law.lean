/-! The law: what it carries from call to call. -/
section LA
theorem isMP_fr {h h' : xH} {m : Nat} {t : Int32} {P : pP} (q : isMP h m t P) (w : ∀ a, m ≤ a → a < m + 10 → h'.1 a = h.1 a) : isMP h' m t P := by
  obtain ⟨Z, D, A, q, rest⟩ := q
  exact ⟨Z, D, A, ⟨by rw [w m (Nat.le_refl _) (by omega)]; exact q.1, fun k k1 k9 => by rw [w _ (by omega) (by omega)]; exact q.2 k k1 k9⟩, rest⟩
theorem isP_dead {h : xH} {x : Nat} {P : pP} (q : isP h x P) : isP (xdead h) x P := q
theorem isMP.ob {h : xH} {m : Nat} {t : Int32} {P : pP} (q : isMP h m t P) : (xob h m).1 = 8 := by
  obtain ⟨Z, D, A, q, rest⟩ := q
  rw [q.ob]
theorem isMP_thr {h : xH} {m : Nat} {t : Int32} {P : pP} (q : isMP h m t P) : xev 98 [.ref m] h = some (.inl (some (.int t)), h) := by
  obtain ⟨Z, D, A, q, z0, rest⟩ := q
  rw [← z0]
  exact m_thrown q
theorem xFr_sl (h : xH) (o : Nat) (v : Int64) : xFr o (o + 1) h (xsl h o 0 v) := xFr_up
theorem xal_is {h : xH} {o : Nat} {g : Nat → Int64} (e : h.1 o = some (.inl (1, 1, .inr (.inl g)))) : xal h o = (1, g) := by
  unfold xal
  rw [e]
  rfl
theorem xa3_is {h : xH} {b L : Nat} {xs : Nat → Int32} (e : h.1 b = some (.inl (3, L, .inl xs))) : xa3 h b = (L, xs) := by
  unfold xa3
  rw [e]
  rfl
theorem xk3_is {h : xH} {b L : Nat} {xs : Nat → Int32} (e : h.1 b = some (.inl (3, L, .inl xs))) : xk3 h b = true := by
  unfold xk3
  rw [e]
  rfl
theorem x01l : xix 0 1 := ⟨by decide, by decide⟩
/-- what a wrapper answers -/
def outW (x o : Nat) (cd : Nat → Int32) (h : xH) (r : Option (xR × xH)) (s : (Int32 × pP) ⊕ Nat) : Prop := match s with
  | .inl (v, P) => ∃ h', r = some (.inl (some (.int 0)), xsl h' o 0 v.toInt64) ∧ isP h' x P ∧ xFr x (x + 139) h h'
  | .inr e => r = some (.inl (some (.int (cd e))), xdead h)
/-- what holds between two calls -/
def LI (b x m o L : Nat) (xs : Nat → Int32) (h : xH) (P : pP) : Prop := isP h x P ∧ (∃ t, isMP h m t P) ∧ okP P ∧ (∃ g, h.1 o = some (.inl (1, 1, .inr (.inl g)))) ∧ h.1 b = some (.inl (3, L, .inl xs))
theorem LI_w {b x m o L : Nat} {xs : Nat → Int32} (hb : b < x) (hm : x + 139 ≤ m) (hmo : m + 10 ≤ o) {h : xH} {P : pP} {t : Int32} (q : isP h x P) (p : isMP h m t P) (k : okP P) {g : Nat → Int64} (ho : h.1 o = some (.inl (1, 1, .inr (.inl g)))) (hs : h.1 b = some (.inl (3, L, .inl xs)))
    {cd : Nat → Int32} {r : Option (xR × xH)} {s : (Int32 × pP) ⊕ Nat} {F : xH → Option (xR × xH)} (pw : outW x o cd h r s) (pm : ∀ h1, isMP h1 m t P → outM m P cd h1 (F h1) s) (ok : ∀ v P', s = .inl (v, P') → okP P') (hcd : ∀ e, s = .inr e → cd e ≠ 0) :
    ∃ k v h1 h2 P', r = some (.inl (some (.int k)), h1) ∧ (xob h1 m).1 = 8 ∧ xa3 h1 b = (L, xs) ∧ F h1 = some (.inl (some (.int v)), h2) ∧ (xob h2 m).1 = 8 ∧ xev 98 [.ref m] h2 = some (.inl (some (.int k)), h2) ∧ (k = 0 → ∃ g2, xal h2 o = (1, g2) ∧ lg_cmp (g2 0) v.toInt64 = 0) ∧ LI b x m o L xs h2 P' ∧ h2.2.2.1 ≤ h.2.2.1 + 1 ∧ h2.2.2.2 ≤ h.2.2.2 + 6 := by
  match s, pw, pm, ok, hcd with
  | .inl (v, P'), pw, pm, ok, _ =>
    obtain ⟨h', e, p1, p2⟩ := pw
    have f1 := xFr_sl h' o v.toInt64
    have m1 : isMP (xsl h' o 0 v.toInt64) m t P := isMP_fr p (fun a a1 a2 => by rw [f1.2 a (by omega), p2.2 a (by omega)])
    obtain ⟨h2, e2, m2, f2⟩ := pm _ m1
    have q2 : isP h2 x P' := isP_G (isP_G p1 (xMk.fr f1 (Nat.le_refl _)) (by omega)) (xMk.fr f2 (Nat.le_refl _)) (by omega)
    have ho' : h'.1 o = some (.inl (1, 1, .inr (.inl g))) := by rw [p2.2 o (by omega)]; exact ho
    have o1 : (xsl h' o 0 v.toInt64).1 o = some (.inl (1, 1, .inr (.inl (va_up g 0 v.toInt64)))) := by
      unfold xsl
      rw [xal_is ho']
      exact xup_at _ _ _
    have o2 : h2.1 o = some (.inl (1, 1, .inr (.inl (va_up g 0 v.toInt64)))) := by rw [f2.2 o (by omega)]; exact o1
    have s1 : (xsl h' o 0 v.toInt64).1 b = some (.inl (3, L, .inl xs)) := by rw [f1.2 b (by omega), p2.2 b (by omega)]; exact hs
    have s2 : h2.1 b = some (.inl (3, L, .inl xs)) := by rw [f2.2 b (by omega)]; exact s1
    have c2 : h2.2 = h.2 := f2.1.trans (f1.1.trans p2.1)
    refine ⟨0, v, _, h2, P', e, m1.ob, xa3_is s1, e2, m2.ob, isMP_thr m2, fun _ => ⟨_, xal_is o2, ?_⟩, ⟨q2, ⟨0, m2⟩, ok v P' rfl, ⟨_, o2⟩, s2⟩, by rw [c2]; omega, by rw [c2]; omega⟩
    rw [va_up_self]
    exact (lg_cmp_eq _ _).mpr rfl
  | .inr e, pw, pm, _, hcd =>
    have m1 : isMP (xdead h) m t P := isMP_fr p (fun _ _ _ => rfl)
    obtain ⟨h2, v, e2, m2, f2⟩ := pm _ m1
    have q2 : isP h2 x P := isP_G (isP_dead q) (xMk.fr f2 (Nat.le_refl _)) (by omega)
    have o2 : h2.1 o = some (.inl (1, 1, .inr (.inl g))) := by rw [f2.2 o (by omega)]; exact ho
    have s1 : (xdead h).1 b = some (.inl (3, L, .inl xs)) := hs
    have s2 : h2.1 b = some (.inl (3, L, .inl xs)) := by rw [f2.2 b (by omega)]; exact s1
    have c2 : h2.2 = (0, h.2.2.1 + 1, h.2.2.2 + 6) := f2.1
    refine ⟨cd e, v, _, h2, P, pw, m1.ob, xa3_is s1, e2, m2.ob, isMP_thr m2, fun z => absurd z (hcd e rfl), ⟨q2, ⟨_, m2⟩, k, ⟨_, o2⟩, s2⟩, by rw [c2]; exact Nat.le_refl _, by rw [c2]; exact Nat.le_refl _⟩
theorem LI_s {b x m o L : Nat} {xs : Nat → Int32} (hb : b < x) (hm : x + 139 ≤ m) (hmo : m + 10 ≤ o) {h : xH} {P : pP} {t : Int32} (p : isMP h m t P) {g : Nat → Int64} (ho : h.1 o = some (.inl (1, 1, .inr (.inl g)))) (hs : h.1 b = some (.inl (3, L, .inl xs)))
    {cd : Nat → Int32} {r : Option (xR × xH)} {v : Int32} {P' : pP} {F : xH → Option (xR × xH)} (pw : outP x h r (.inl (v, P'))) (pm : ∀ h1, isMP h1 m t P → outM m P cd h1 (F h1) (.inl (v, P'))) (ok : okP P') :
    ∃ h1 h2, r = some (.inl (some (.int v)), h1) ∧ (xob h1 m).1 = 8 ∧ F h1 = some (.inl (some (.int v)), h2) ∧ LI b x m o L xs h2 P' ∧ h2.2.2.1 ≤ h.2.2.1 + 1 ∧ h2.2.2.2 ≤ h.2.2.2 + 6 := by
  obtain ⟨h', e, p1, p2⟩ := pw
  have m1 : isMP h' m t P := isMP_fr p (fun a a1 a2 => p2.2 a (by omega))
  obtain ⟨h2, e2, m2, f2⟩ := pm _ m1
  have q2 : isP h2 x P' := isP_G p1 (xMk.fr f2 (Nat.le_refl _)) (by omega)
  have c2 : h2.2 = h.2 := f2.1.trans p2.1
  exact ⟨h', h2, e, m1.ob, e2, ⟨q2, ⟨0, m2⟩, ok, ⟨_, by rw [f2.2 o (by omega), p2.2 o (by omega)]; exact ho⟩, by rw [f2.2 b (by omega), p2.2 b (by omega)]; exact hs⟩, by rw [c2]; omega, by rw [c2]; omega⟩
theorem ok_lk {P P' : pP} {v w : Int32} (k : okP P) (e : (Sum.inl (w, P) : (Int32 × pP) ⊕ Nat) = .inl (v, P')) : okP P' := by
  have e := (Prod.mk.inj (Sum.inl.inj e)).2
  rw [← e]
  exact k
theorem no_lr {α : Prop} {w : Int32 × pP} {e : Nat} (h : (Sum.inl w : (Int32 × pP) ⊕ Nat) = .inr e) : α := nomatch h
theorem no_rl {α : Prop} {w : Int32 × pP} {e : Nat} (h : (Sum.inr e : (Int32 × pP) ⊕ Nat) = .inl w) : α := nomatch h
theorem ex_grow {P : pP} {n : Nat} (e : sp_grow P  = .inr n) : n = 0 ∨ n = 1 := by
  unfold sp_grow at e
  by_cases c1 : P.2.2.length = 0 ∨ fwC P.2.2 ≠ P.2.2.length
  · rw [if_pos c1] at e
    exact Or.inl (Sum.inr.inj e).symm
  · rw [if_neg c1] at e
    by_cases c2 : P.1.1.length + (wbC P.2.2).length ≤ 64
    · rw [if_pos c2] at e
      exact no_lr e
    · rw [if_neg c2] at e
      exact Or.inr (Sum.inr.inj e).symm
theorem ex_add {P : pP} {u : Int32} {n : Nat} (e : sp_add P u = .inr n) : n = 2 ∨ n = 1 := by
  unfold sp_add at e
  by_cases c1 : hasP P.1.2.1.1 u = true
  · rw [if_pos c1] at e
    by_cases c2 : P.1.1.length + 1 ≤ 64
    · rw [if_pos c2] at e
      exact no_lr e
    · rw [if_neg c2] at e
      exact Or.inr (Sum.inr.inj e).symm
  · rw [if_neg c1] at e
    exact Or.inl (Sum.inr.inj e).symm
theorem ex_cut {P : pP} {u : Int32} {n : Nat} (e : sp_cut P u = .inr n) : n = 2 := by
  unfold sp_cut at e
  by_cases c1 : u < 0 ∨ nI P.1.1.length < u
  · rw [if_pos c1] at e
    exact (Sum.inr.inj e).symm
  · rw [if_neg c1] at e
    exact no_lr e
theorem ex_open {P : pP} {u : Int32} {n : Nat} (e : sp_open P u = .inr n) : n = 2 ∨ n = 1 := by
  unfold sp_open at e
  by_cases c1 : u < 0 ∨ ¬ u < nI P.1.1.length
  · rw [if_pos c1] at e
    exact Or.inl (Sum.inr.inj e).symm
  · rw [if_neg c1] at e
    by_cases c2 : gd P.1.1 u.toNatClampNeg < 8 ∨ ¬ P.1.1.length + 1 ≤ 64
    · rw [if_pos c2] at e
      exact Or.inr (Sum.inr.inj e).symm
    · rw [if_neg c2] at e
      exact no_lr e
theorem ex_openAll {P : pP} {n : Nat} (e : sp_openAll P  = .inr n) : n = 1 := by
  unfold sp_openAll at e
  by_cases c1 : (64 : Int32) < txF P.1.2.1.2.2.2 P.1.1
  · rw [if_pos c1] at e
    exact (Sum.inr.inj e).symm
  · rw [if_neg c1] at e
    exact no_lr e
theorem ex_set {P : pP} {u v : Int32} {n : Nat} (e : sp_set P u v = .inr n) : n = 2 ∨ n = 0 := by
  unfold sp_set at e
  by_cases c1 : ¬ u < 0 ∧ u < 2
  · rw [if_pos c1] at e
    by_cases c2 : v < (if u = 0 then 2 else 1) ∨ 9 < v
    · rw [if_pos c2] at e
      exact Or.inr (Sum.inr.inj e).symm
    · rw [if_neg c2] at e
      exact no_lr e
  · rw [if_neg c1] at e
    exact Or.inl (Sum.inr.inj e).symm
theorem ex_append {P : pP} {u : Int32} {n : Nat} (e : sp_append P u = .inr n) : n = 0 ∨ n = 1 := by
  unfold sp_append at e
  by_cases c1 : u < 33 ∨ 126 < u
  · rw [if_pos c1] at e
    exact Or.inl (Sum.inr.inj e).symm
  · rw [if_neg c1] at e
    by_cases c2 : P.2.2.length < 60
    · rw [if_pos c2] at e
      exact no_lr e
    · rw [if_neg c2] at e
      exact Or.inr (Sum.inr.inj e).symm
theorem ex_undo {P : pP} {n : Nat} (e : sp_undo P  = .inr n) : n = 1 := by
  obtain ⟨X, Hs, C⟩ := P
  match Hs, e with
  | [], e => exact (Sum.inr.inj e).symm
  | Y :: Hs, e => exact no_lr e
theorem ok_part {P P' : pP} {u n : Int32} (k : okP P) (e : sp_part P u = .inl (n, P')) : okP P' := by
  unfold sp_part at e
  by_cases c1 : u < 0
  · rw [if_pos c1] at e
    exact no_rl e
  · rw [if_neg c1] at e
    exact ok_lk k e
theorem ex_part {P : pP} {u : Int32} {n : Nat} (e : sp_part P u = .inr n) : n = 0 := by
  unfold sp_part at e
  by_cases c1 : u < 0
  · rw [if_pos c1] at e
    exact (Sum.inr.inj e).symm
  · rw [if_neg c1] at e
    exact no_lr e
theorem ok_sign {P P' : pP} {u n : Int32} (k : okP P) (e : sp_sign P u = .inl (n, P')) : okP P' := by
  unfold sp_sign at e
  by_cases c1 : u < 0
  · rw [if_pos c1] at e
    exact no_rl e
  · rw [if_neg c1] at e
    exact ok_lk k e
theorem ex_sign {P : pP} {u : Int32} {n : Nat} (e : sp_sign P u = .inr n) : n = 0 := by
  unfold sp_sign at e
  by_cases c1 : u < 0
  · rw [if_pos c1] at e
    exact (Sum.inr.inj e).symm
  · rw [if_neg c1] at e
    exact no_lr e
theorem ok_about {P P' : pP} {u v n : Int32} (k : okP P) (e : sp_about P u v = .inl (n, P')) : okP P' := by
  unfold sp_about at e
  by_cases c1 : hasP P.1.2.1.1 u = true
  · rw [if_pos c1] at e
    by_cases c2 : v < 0 ∨ 7 < v
    · rw [if_pos c2] at e
      exact no_rl e
    · rw [if_neg c2] at e
      exact ok_lk k e
  · rw [if_neg c1] at e
    exact no_rl e
theorem ex_about {P : pP} {u v : Int32} {n : Nat} (e : sp_about P u v = .inr n) : n = 2 ∨ n = 0 := by
  unfold sp_about at e
  by_cases c1 : hasP P.1.2.1.1 u = true
  · rw [if_pos c1] at e
    by_cases c2 : v < 0 ∨ 7 < v
    · rw [if_pos c2] at e
      exact Or.inr (Sum.inr.inj e).symm
    · rw [if_neg c2] at e
      exact no_lr e
  · rw [if_neg c1] at e
    exact Or.inl (Sum.inr.inj e).symm
theorem ok_pair {P P' : pP} {u v n : Int32} (k : okP P) (e : sp_pair P u v = .inl (n, P')) : okP P' := by
  unfold sp_pair at e
  by_cases c1 : hasP P.1.2.1.1 u = true ∧ hasP P.1.2.1.1 v = true
  · rw [if_pos c1] at e
    exact ok_lk k e
  · rw [if_neg c1] at e
    exact no_rl e
theorem ex_pair {P : pP} {u v : Int32} {n : Nat} (e : sp_pair P u v = .inr n) : n = 2 := by
  unfold sp_pair at e
  by_cases c1 : hasP P.1.2.1.1 u = true ∧ hasP P.1.2.1.1 v = true
  · rw [if_pos c1] at e
    exact no_lr e
  · rw [if_neg c1] at e
    exact (Sum.inr.inj e).symm
theorem ok_next {P P' : pP} {u n : Int32} (k : okP P) (e : sp_next P u = .inl (n, P')) : okP P' := by
  unfold sp_next at e
  by_cases c1 : u < 0 ∨ 3 < u
  · rw [if_pos c1] at e
    exact no_rl e
  · rw [if_neg c1] at e
    exact ok_lk k e
theorem ex_next {P : pP} {u : Int32} {n : Nat} (e : sp_next P u = .inr n) : n = 0 := by
  unfold sp_next at e
  by_cases c1 : u < 0 ∨ 3 < u
  · rw [if_pos c1] at e
    exact (Sum.inr.inj e).symm
  · rw [if_neg c1] at e
    exact no_lr e
theorem ok_count {P P' : pP} {u n : Int32} (k : okP P) (e : sp_count P u = .inl (n, P')) : okP P' := by
  unfold sp_count at e
  by_cases c1 : u < 0 ∨ 8 < u
  · rw [if_pos c1] at e
    exact no_rl e
  · rw [if_neg c1] at e
    exact ok_lk k e
theorem ex_count {P : pP} {u : Int32} {n : Nat} (e : sp_count P u = .inr n) : n = 0 := by
  unfold sp_count at e
  by_cases c1 : u < 0 ∨ 8 < u
  · rw [if_pos c1] at e
    exact (Sum.inr.inj e).symm
  · rw [if_neg c1] at e
    exact no_lr e
theorem ok_times {P P' : pP} {u n : Int32} (k : okP P) (e : sp_times P u = .inl (n, P')) : okP P' := by
  unfold sp_times at e
  by_cases c1 : u < 0 ∨ ¬ u < 8
  · rw [if_pos c1] at e
    exact no_rl e
  · rw [if_neg c1] at e
    exact ok_lk k e
theorem ex_times {P : pP} {u : Int32} {n : Nat} (e : sp_times P u = .inr n) : n = 2 := by
  unfold sp_times at e
  by_cases c1 : u < 0 ∨ ¬ u < 8
  · rw [if_pos c1] at e
    exact (Sum.inr.inj e).symm
  · rw [if_neg c1] at e
    exact no_lr e
theorem ok_setting {P P' : pP} {u n : Int32} (k : okP P) (e : sp_setting P u = .inl (n, P')) : okP P' := by
  unfold sp_setting at e
  by_cases c1 : ¬ u < 0 ∧ u < 2
  · rw [if_pos c1] at e
    exact ok_lk k e
  · rw [if_neg c1] at e
    exact no_rl e
theorem ex_setting {P : pP} {u : Int32} {n : Nat} (e : sp_setting P u = .inr n) : n = 2 := by
  unfold sp_setting at e
  by_cases c1 : ¬ u < 0 ∧ u < 2
  · rw [if_pos c1] at e
    exact no_lr e
  · rw [if_neg c1] at e
    exact (Sum.inr.inj e).symm
theorem ok_ifNamed {P P' : pP} {u n : Int32} (k : okP P) (e : sp_ifNamed P u = .inl (n, P')) : okP P' := by
  unfold sp_ifNamed at e
  by_cases c1 : u < 0 ∨ 3 < u
  · rw [if_pos c1] at e
    exact no_rl e
  · rw [if_neg c1] at e
    exact ok_lk k e
theorem ex_ifNamed {P : pP} {u : Int32} {n : Nat} (e : sp_ifNamed P u = .inr n) : n = 0 := by
  unfold sp_ifNamed at e
  by_cases c1 : u < 0 ∨ 3 < u
  · rw [if_pos c1] at e
    exact (Sum.inr.inj e).symm
  · rw [if_neg c1] at e
    exact no_lr e
end LA
/-! The law: the wrappers. -/
section LB
variable {h : xH} {x o : Nat} {P : pP} {g : Nat → Int64}
theorem W_grow (q : isP h x P) (ho : h.1 o = some (.inl (1, 1, .inr (.inl g)))) (hd : x + 139 ≤ o) {s : (Int32 × pP) ⊕ Nat} (p : outP x h (xev 63 [.ref x] h) s) (hs : ∀ e, s = .inr e → e = 0 ∨ e = 1) : outW x o cdB h (xev 161 [.ref x, .ref o] h) s := by
  rw [e_L_grow]
  match s, p, hs with
  | .inl (n, P'), p, _ =>
    obtain ⟨h', p1, p2, p3⟩ := p
    have hl := xal_is ((p3.2 o (Or.inr hd)).trans ho)
    refine ⟨h', ?_, p2, p3⟩
    simp only [u_L_grow_0, u_L_grow_1, u_L_grow_2, u_L_grow_3, t_L_grow_3_0, t_L_grow_3_1, u_L_grow_6, u_L_grow_7, u_L_grow_8, u_L_grow_11, u_L_grow_12, u_L_grow_13, u_L_grow_14, u_L_grow_15, u_L_grow_16, u_L_grow_17, u_L_grow_18, q.ob, p1, hl, x01l, c00, xgo_some, xgo_none, xgoI_none, xcat_n, xcat_i, xcat_r, xcat_z, List.length_nil, List.length_cons, List.getD_cons_zero, List.getD_cons_succ, List.set_cons_zero, List.set_cons_succ, Nat.zero_le, Nat.reduceAdd, Nat.reduceLeDiff, Nat.reduceEqDiff, reduceIte]
  | .inr e, p, hs =>
    have p1 : xev 63 [.ref x] h = some (.inr e, xdead h) := p
    rcases hs e rfl with z | z
    · subst z
      show _ = some (Sum.inl (some (Value.int (cdB 0))), xdead h)
      simp only [u_L_grow_0, u_L_grow_1, u_L_grow_2, u_L_grow_3, t_L_grow_3_0, t_L_grow_3_1, u_L_grow_6, u_L_grow_7, u_L_grow_8, u_L_grow_11, u_L_grow_12, u_L_grow_13, u_L_grow_14, u_L_grow_15, u_L_grow_16, u_L_grow_17, u_L_grow_18, q.ob, p1, xgo_some, xgo_none, xgoI_none, xcat_n, xcat_i, xcat_r, xcat_z, List.length_nil, List.length_cons, List.getD_cons_zero, List.getD_cons_succ, List.set_cons_zero, List.set_cons_succ, Nat.zero_le, Nat.reduceAdd, Nat.reduceLeDiff, Nat.reduceEqDiff, reduceIte]
      try rfl
    · subst z
      show _ = some (Sum.inl (some (Value.int (cdB 1))), xdead h)
      simp only [u_L_grow_0, u_L_grow_1, u_L_grow_2, u_L_grow_3, t_L_grow_3_0, t_L_grow_3_1, u_L_grow_6, u_L_grow_7, u_L_grow_8, u_L_grow_11, u_L_grow_12, u_L_grow_13, u_L_grow_14, u_L_grow_15, u_L_grow_16, u_L_grow_17, u_L_grow_18, q.ob, p1, xgo_some, xgo_none, xgoI_none, xcat_n, xcat_i, xcat_r, xcat_z, List.length_nil, List.length_cons, List.getD_cons_zero, List.getD_cons_succ, List.set_cons_zero, List.set_cons_succ, Nat.zero_le, Nat.reduceAdd, Nat.reduceLeDiff, Nat.reduceEqDiff, reduceIte]
      try rfl
theorem W_add (q : isP h x P) (ho : h.1 o = some (.inl (1, 1, .inr (.inl g)))) (hd : x + 139 ≤ o) (u : Int32) {s : (Int32 × pP) ⊕ Nat} (p : outP x h (xev 64 [.ref x, .int u] h) s) (hs : ∀ e, s = .inr e → e = 2 ∨ e = 1) : outW x o cdA h (xev 162 [.ref x, .int u, .ref o] h) s := by
  rw [e_L_add]
  match s, p, hs with
  | .inl (n, P'), p, _ =>
    obtain ⟨h', p1, p2, p3⟩ := p
    have hl := xal_is ((p3.2 o (Or.inr hd)).trans ho)
    refine ⟨h', ?_, p2, p3⟩
    simp only [u_L_add_0, u_L_add_1, u_L_add_2, u_L_add_3, u_L_add_4, t_L_add_4_2, t_L_add_4_1, u_L_add_7, u_L_add_8, u_L_add_9, u_L_add_12, u_L_add_13, u_L_add_14, u_L_add_15, u_L_add_16, u_L_add_17, u_L_add_18, u_L_add_19, q.ob, p1, hl, x01l, c00, xgo_some, xgo_none, xgoI_none, xcat_n, xcat_i, xcat_r, xcat_z, List.length_nil, List.length_cons, List.getD_cons_zero, List.getD_cons_succ, List.set_cons_zero, List.set_cons_succ, Nat.zero_le, Nat.reduceAdd, Nat.reduceLeDiff, Nat.reduceEqDiff, reduceIte]
  | .inr e, p, hs =>
    have p1 : xev 64 [.ref x, .int u] h = some (.inr e, xdead h) := p
    rcases hs e rfl with z | z
    · subst z
      show _ = some (Sum.inl (some (Value.int (cdA 2))), xdead h)
      simp only [u_L_add_0, u_L_add_1, u_L_add_2, u_L_add_3, u_L_add_4, t_L_add_4_2, t_L_add_4_1, u_L_add_7, u_L_add_8, u_L_add_9, u_L_add_12, u_L_add_13, u_L_add_14, u_L_add_15, u_L_add_16, u_L_add_17, u_L_add_18, u_L_add_19, q.ob, p1, xgo_some, xgo_none, xgoI_none, xcat_n, xcat_i, xcat_r, xcat_z, List.length_nil, List.length_cons, List.getD_cons_zero, List.getD_cons_succ, List.set_cons_zero, List.set_cons_succ, Nat.zero_le, Nat.reduceAdd, Nat.reduceLeDiff, Nat.reduceEqDiff, reduceIte]
      try rfl
    · subst z
      show _ = some (Sum.inl (some (Value.int (cdA 1))), xdead h)
      simp only [u_L_add_0, u_L_add_1, u_L_add_2, u_L_add_3, u_L_add_4, t_L_add_4_2, t_L_add_4_1, u_L_add_7, u_L_add_8, u_L_add_9, u_L_add_12, u_L_add_13, u_L_add_14, u_L_add_15, u_L_add_16, u_L_add_17, u_L_add_18, u_L_add_19, q.ob, p1, xgo_some, xgo_none, xgoI_none, xcat_n, xcat_i, xcat_r, xcat_z, List.length_nil, List.length_cons, List.getD_cons_zero, List.getD_cons_succ, List.set_cons_zero, List.set_cons_succ, Nat.zero_le, Nat.reduceAdd, Nat.reduceLeDiff, Nat.reduceEqDiff, reduceIte]
      try rfl
theorem W_cut (q : isP h x P) (ho : h.1 o = some (.inl (1, 1, .inr (.inl g)))) (hd : x + 139 ≤ o) (u : Int32) {s : (Int32 × pP) ⊕ Nat} (p : outP x h (xev 65 [.ref x, .int u] h) s) (hs : ∀ e, s = .inr e → e = 2) : outW x o cdA h (xev 163 [.ref x, .int u, .ref o] h) s := by
  rw [e_L_cut]
  match s, p, hs with
  | .inl (n, P'), p, _ =>
    obtain ⟨h', p1, p2, p3⟩ := p
    have hl := xal_is ((p3.2 o (Or.inr hd)).trans ho)
    refine ⟨h', ?_, p2, p3⟩
    simp only [u_L_cut_0, u_L_cut_1, u_L_cut_2, u_L_cut_3, u_L_cut_4, t_L_cut_4_2, u_L_cut_7, u_L_cut_8, u_L_cut_9, u_L_cut_12, u_L_cut_13, u_L_cut_14, u_L_cut_15, u_L_cut_16, q.ob, p1, hl, x01l, c00, xgo_some, xgo_none, xgoI_none, xcat_n, xcat_i, xcat_r, xcat_z, List.length_nil, List.length_cons, List.getD_cons_zero, List.getD_cons_succ, List.set_cons_zero, List.set_cons_succ, Nat.zero_le, Nat.reduceAdd, Nat.reduceLeDiff, Nat.reduceEqDiff, reduceIte]
  | .inr e, p, hs =>
    have p1 : xev 65 [.ref x, .int u] h = some (.inr e, xdead h) := p
    have z := hs e rfl
    subst z
    show _ = some (Sum.inl (some (Value.int (cdA 2))), xdead h)
    simp only [u_L_cut_0, u_L_cut_1, u_L_cut_2, u_L_cut_3, u_L_cut_4, t_L_cut_4_2, u_L_cut_7, u_L_cut_8, u_L_cut_9, u_L_cut_12, u_L_cut_13, u_L_cut_14, u_L_cut_15, u_L_cut_16, q.ob, p1, xgo_some, xgo_none, xgoI_none, xcat_n, xcat_i, xcat_r, xcat_z, List.length_nil, List.length_cons, List.getD_cons_zero, List.getD_cons_succ, List.set_cons_zero, List.set_cons_succ, Nat.zero_le, Nat.reduceAdd, Nat.reduceLeDiff, Nat.reduceEqDiff, reduceIte]
    try rfl
theorem W_open (q : isP h x P) (ho : h.1 o = some (.inl (1, 1, .inr (.inl g)))) (hd : x + 139 ≤ o) (u : Int32) {s : (Int32 × pP) ⊕ Nat} (p : outP x h (xev 66 [.ref x, .int u] h) s) (hs : ∀ e, s = .inr e → e = 2 ∨ e = 1) : outW x o cdA h (xev 164 [.ref x, .int u, .ref o] h) s := by
  rw [e_L_open]
  match s, p, hs with
  | .inl (n, P'), p, _ =>
    obtain ⟨h', p1, p2, p3⟩ := p
    have hl := xal_is ((p3.2 o (Or.inr hd)).trans ho)
    refine ⟨h', ?_, p2, p3⟩
    simp only [u_L_open_0, u_L_open_1, u_L_open_2, u_L_open_3, u_L_open_4, t_L_open_4_2, t_L_open_4_1, u_L_open_7, u_L_open_8, u_L_open_9, u_L_open_12, u_L_open_13, u_L_open_14, u_L_open_15, u_L_open_16, u_L_open_17, u_L_open_18, u_L_open_19, q.ob, p1, hl, x01l, c00, xgo_some, xgo_none, xgoI_none, xcat_n, xcat_i, xcat_r, xcat_z, List.length_nil, List.length_cons, List.getD_cons_zero, List.getD_cons_succ, List.set_cons_zero, List.set_cons_succ, Nat.zero_le, Nat.reduceAdd, Nat.reduceLeDiff, Nat.reduceEqDiff, reduceIte]
  | .inr e, p, hs =>
    have p1 : xev 66 [.ref x, .int u] h = some (.inr e, xdead h) := p
    rcases hs e rfl with z | z
    · subst z
      show _ = some (Sum.inl (some (Value.int (cdA 2))), xdead h)
      simp only [u_L_open_0, u_L_open_1, u_L_open_2, u_L_open_3, u_L_open_4, t_L_open_4_2, t_L_open_4_1, u_L_open_7, u_L_open_8, u_L_open_9, u_L_open_12, u_L_open_13, u_L_open_14, u_L_open_15, u_L_open_16, u_L_open_17, u_L_open_18, u_L_open_19, q.ob, p1, xgo_some, xgo_none, xgoI_none, xcat_n, xcat_i, xcat_r, xcat_z, List.length_nil, List.length_cons, List.getD_cons_zero, List.getD_cons_succ, List.set_cons_zero, List.set_cons_succ, Nat.zero_le, Nat.reduceAdd, Nat.reduceLeDiff, Nat.reduceEqDiff, reduceIte]
      try rfl
    · subst z
      show _ = some (Sum.inl (some (Value.int (cdA 1))), xdead h)
      simp only [u_L_open_0, u_L_open_1, u_L_open_2, u_L_open_3, u_L_open_4, t_L_open_4_2, t_L_open_4_1, u_L_open_7, u_L_open_8, u_L_open_9, u_L_open_12, u_L_open_13, u_L_open_14, u_L_open_15, u_L_open_16, u_L_open_17, u_L_open_18, u_L_open_19, q.ob, p1, xgo_some, xgo_none, xgoI_none, xcat_n, xcat_i, xcat_r, xcat_z, List.length_nil, List.length_cons, List.getD_cons_zero, List.getD_cons_succ, List.set_cons_zero, List.set_cons_succ, Nat.zero_le, Nat.reduceAdd, Nat.reduceLeDiff, Nat.reduceEqDiff, reduceIte]
      try rfl
theorem W_openAll (q : isP h x P) (ho : h.1 o = some (.inl (1, 1, .inr (.inl g)))) (hd : x + 139 ≤ o) {s : (Int32 × pP) ⊕ Nat} (p : outP x h (xev 70 [.ref x] h) s) (hs : ∀ e, s = .inr e → e = 1) : outW x o (fun _ => 1) h (xev 165 [.ref x, .ref o] h) s := by
  rw [e_L_openAll]
  match s, p, hs with
  | .inl (n, P'), p, _ =>
    obtain ⟨h', p1, p2, p3⟩ := p
    have hl := xal_is ((p3.2 o (Or.inr hd)).trans ho)
    refine ⟨h', ?_, p2, p3⟩
    simp only [u_L_openAll_0, u_L_openAll_1, u_L_openAll_2, u_L_openAll_3, t_L_openAll_3_1, u_L_openAll_6, u_L_openAll_7, u_L_openAll_8, u_L_openAll_11, u_L_openAll_12, u_L_openAll_13, u_L_openAll_14, u_L_openAll_15, q.ob, p1, hl, x01l, c00, xgo_some, xgo_none, xgoI_none, xcat_n, xcat_i, xcat_r, xcat_z, List.length_nil, List.length_cons, List.getD_cons_zero, List.getD_cons_succ, List.set_cons_zero, List.set_cons_succ, Nat.zero_le, Nat.reduceAdd, Nat.reduceLeDiff, Nat.reduceEqDiff, reduceIte]
  | .inr e, p, hs =>
    have p1 : xev 70 [.ref x] h = some (.inr e, xdead h) := p
    have z := hs e rfl
    subst z
    show _ = some (Sum.inl (some (Value.int ((fun _ => 1) 1))), xdead h)
    simp only [u_L_openAll_0, u_L_openAll_1, u_L_openAll_2, u_L_openAll_3, t_L_openAll_3_1, u_L_openAll_6, u_L_openAll_7, u_L_openAll_8, u_L_openAll_11, u_L_openAll_12, u_L_openAll_13, u_L_openAll_14, u_L_openAll_15, q.ob, p1, xgo_some, xgo_none, xgoI_none, xcat_n, xcat_i, xcat_r, xcat_z, List.length_nil, List.length_cons, List.getD_cons_zero, List.getD_cons_succ, List.set_cons_zero, List.set_cons_succ, Nat.zero_le, Nat.reduceAdd, Nat.reduceLeDiff, Nat.reduceEqDiff, reduceIte]
    try rfl
theorem W_set (q : isP h x P) (ho : h.1 o = some (.inl (1, 1, .inr (.inl g)))) (hd : x + 139 ≤ o) (u v : Int32) {s : (Int32 × pP) ⊕ Nat} (p : outP x h (xev 71 [.ref x, .int u, .int v] h) s) (hs : ∀ e, s = .inr e → e = 2 ∨ e = 0) : outW x o cdA h (xev 166 [.ref x, .int u, .int v, .ref o] h) s := by
  rw [e_L_set]
  match s, p, hs with
  | .inl (n, P'), p, _ =>
    obtain ⟨h', p1, p2, p3⟩ := p
    have hl := xal_is ((p3.2 o (Or.inr hd)).trans ho)
    refine ⟨h', ?_, p2, p3⟩
    simp only [u_L_set_0, u_L_set_1, u_L_set_2, u_L_set_3, u_L_set_4, u_L_set_5, t_L_set_5_2, t_L_set_5_0, u_L_set_8, u_L_set_9, u_L_set_10, u_L_set_13, u_L_set_15, u_L_set_16, u_L_set_17, u_L_set_19, u_L_set_20, u_L_set_21, u_L_set_22, q.ob, p1, hl, x01l, c00, xgo_some, xgo_none, xgoI_none, xcat_n, xcat_i, xcat_r, xcat_z, List.length_nil, List.length_cons, List.getD_cons_zero, List.getD_cons_succ, List.set_cons_zero, List.set_cons_succ, Nat.zero_le, Nat.reduceAdd, Nat.reduceLeDiff, Nat.reduceEqDiff, reduceIte]
  | .inr e, p, hs =>
    have p1 : xev 71 [.ref x, .int u, .int v] h = some (.inr e, xdead h) := p
    rcases hs e rfl with z | z
    · subst z
      show _ = some (Sum.inl (some (Value.int (cdA 2))), xdead h)
      simp only [u_L_set_0, u_L_set_1, u_L_set_2, u_L_set_3, u_L_set_4, u_L_set_5, t_L_set_5_2, t_L_set_5_0, u_L_set_8, u_L_set_9, u_L_set_10, u_L_set_13, u_L_set_15, u_L_set_16, u_L_set_17, u_L_set_19, u_L_set_20, u_L_set_21, u_L_set_22, q.ob, p1, xgo_some, xgo_none, xgoI_none, xcat_n, xcat_i, xcat_r, xcat_z, List.length_nil, List.length_cons, List.getD_cons_zero, List.getD_cons_succ, List.set_cons_zero, List.set_cons_succ, Nat.zero_le, Nat.reduceAdd, Nat.reduceLeDiff, Nat.reduceEqDiff, reduceIte]
      try rfl
    · subst z
      show _ = some (Sum.inl (some (Value.int (cdA 0))), xdead h)
      simp only [u_L_set_0, u_L_set_1, u_L_set_2, u_L_set_3, u_L_set_4, u_L_set_5, t_L_set_5_2, t_L_set_5_0, u_L_set_8, u_L_set_9, u_L_set_10, u_L_set_13, u_L_set_15, u_L_set_16, u_L_set_17, u_L_set_19, u_L_set_20, u_L_set_21, u_L_set_22, q.ob, p1, xgo_some, xgo_none, xgoI_none, xcat_n, xcat_i, xcat_r, xcat_z, List.length_nil, List.length_cons, List.getD_cons_zero, List.getD_cons_succ, List.set_cons_zero, List.set_cons_succ, Nat.zero_le, Nat.reduceAdd, Nat.reduceLeDiff, Nat.reduceEqDiff, reduceIte]
      try rfl
theorem W_append (q : isP h x P) (ho : h.1 o = some (.inl (1, 1, .inr (.inl g)))) (hd : x + 139 ≤ o) (u : Int32) {s : (Int32 × pP) ⊕ Nat} (p : outP x h (xev 72 [.ref x, .int u] h) s) (hs : ∀ e, s = .inr e → e = 0 ∨ e = 1) : outW x o cdB h (xev 167 [.ref x, .int u, .ref o] h) s := by
  rw [e_L_append]
  match s, p, hs with
  | .inl (n, P'), p, _ =>
    obtain ⟨h', p1, p2, p3⟩ := p
    have hl := xal_is ((p3.2 o (Or.inr hd)).trans ho)
    refine ⟨h', ?_, p2, p3⟩
    simp only [u_L_append_0, u_L_append_1, u_L_append_2, u_L_append_3, u_L_append_4, t_L_append_4_0, t_L_append_4_1, u_L_append_7, u_L_append_8, u_L_append_9, u_L_append_12, u_L_append_13, u_L_append_14, u_L_append_15, u_L_append_16, u_L_append_17, u_L_append_18, u_L_append_19, q.ob, p1, hl, x01l, c00, xgo_some, xgo_none, xgoI_none, xcat_n, xcat_i, xcat_r, xcat_z, List.length_nil, List.length_cons, List.getD_cons_zero, List.getD_cons_succ, List.set_cons_zero, List.set_cons_succ, Nat.zero_le, Nat.reduceAdd, Nat.reduceLeDiff, Nat.reduceEqDiff, reduceIte]
  | .inr e, p, hs =>
    have p1 : xev 72 [.ref x, .int u] h = some (.inr e, xdead h) := p
    rcases hs e rfl with z | z
    · subst z
      show _ = some (Sum.inl (some (Value.int (cdB 0))), xdead h)
      simp only [u_L_append_0, u_L_append_1, u_L_append_2, u_L_append_3, u_L_append_4, t_L_append_4_0, t_L_append_4_1, u_L_append_7, u_L_append_8, u_L_append_9, u_L_append_12, u_L_append_13, u_L_append_14, u_L_append_15, u_L_append_16, u_L_append_17, u_L_append_18, u_L_append_19, q.ob, p1, xgo_some, xgo_none, xgoI_none, xcat_n, xcat_i, xcat_r, xcat_z, List.length_nil, List.length_cons, List.getD_cons_zero, List.getD_cons_succ, List.set_cons_zero, List.set_cons_succ, Nat.zero_le, Nat.reduceAdd, Nat.reduceLeDiff, Nat.reduceEqDiff, reduceIte]
      try rfl
    · subst z
      show _ = some (Sum.inl (some (Value.int (cdB 1))), xdead h)
      simp only [u_L_append_0, u_L_append_1, u_L_append_2, u_L_append_3, u_L_append_4, t_L_append_4_0, t_L_append_4_1, u_L_append_7, u_L_append_8, u_L_append_9, u_L_append_12, u_L_append_13, u_L_append_14, u_L_append_15, u_L_append_16, u_L_append_17, u_L_append_18, u_L_append_19, q.ob, p1, xgo_some, xgo_none, xgoI_none, xcat_n, xcat_i, xcat_r, xcat_z, List.length_nil, List.length_cons, List.getD_cons_zero, List.getD_cons_succ, List.set_cons_zero, List.set_cons_succ, Nat.zero_le, Nat.reduceAdd, Nat.reduceLeDiff, Nat.reduceEqDiff, reduceIte]
      try rfl
theorem W_undo (q : isP h x P) (ho : h.1 o = some (.inl (1, 1, .inr (.inl g)))) (hd : x + 139 ≤ o) {s : (Int32 × pP) ⊕ Nat} (p : outP x h (xev 75 [.ref x] h) s) (hs : ∀ e, s = .inr e → e = 1) : outW x o (fun _ => 1) h (xev 168 [.ref x, .ref o] h) s := by
  rw [e_L_undo]
  match s, p, hs with
  | .inl (n, P'), p, _ =>
    obtain ⟨h', p1, p2, p3⟩ := p
    have hl := xal_is ((p3.2 o (Or.inr hd)).trans ho)
    refine ⟨h', ?_, p2, p3⟩
    simp only [u_L_undo_0, u_L_undo_1, u_L_undo_2, u_L_undo_3, t_L_undo_3_1, u_L_undo_6, u_L_undo_7, u_L_undo_8, u_L_undo_11, u_L_undo_12, u_L_undo_13, u_L_undo_14, u_L_undo_15, q.ob, p1, hl, x01l, c00, xgo_some, xgo_none, xgoI_none, xcat_n, xcat_i, xcat_r, xcat_z, List.length_nil, List.length_cons, List.getD_cons_zero, List.getD_cons_succ, List.set_cons_zero, List.set_cons_succ, Nat.zero_le, Nat.reduceAdd, Nat.reduceLeDiff, Nat.reduceEqDiff, reduceIte]
  | .inr e, p, hs =>
    have p1 : xev 75 [.ref x] h = some (.inr e, xdead h) := p
    have z := hs e rfl
    subst z
    show _ = some (Sum.inl (some (Value.int ((fun _ => 1) 1))), xdead h)
    simp only [u_L_undo_0, u_L_undo_1, u_L_undo_2, u_L_undo_3, t_L_undo_3_1, u_L_undo_6, u_L_undo_7, u_L_undo_8, u_L_undo_11, u_L_undo_12, u_L_undo_13, u_L_undo_14, u_L_undo_15, q.ob, p1, xgo_some, xgo_none, xgoI_none, xcat_n, xcat_i, xcat_r, xcat_z, List.length_nil, List.length_cons, List.getD_cons_zero, List.getD_cons_succ, List.set_cons_zero, List.set_cons_succ, Nat.zero_le, Nat.reduceAdd, Nat.reduceLeDiff, Nat.reduceEqDiff, reduceIte]
    try rfl
theorem W_part (q : isP h x P) (ho : h.1 o = some (.inl (1, 1, .inr (.inl g)))) (hd : x + 139 ≤ o) (u : Int32) {s : (Int32 × pP) ⊕ Nat} (p : outP x h (xev 76 [.ref x, .int u] h) s) (hs : ∀ e, s = .inr e → e = 0) : outW x o cdB h (xev 169 [.ref x, .int u, .ref o] h) s := by
  rw [e_L_part]
  match s, p, hs with
  | .inl (n, P'), p, _ =>
    obtain ⟨h', p1, p2, p3⟩ := p
    have hl := xal_is ((p3.2 o (Or.inr hd)).trans ho)
    refine ⟨h', ?_, p2, p3⟩
    simp only [u_L_part_0, u_L_part_1, u_L_part_2, u_L_part_3, u_L_part_4, t_L_part_4_0, u_L_part_7, u_L_part_8, u_L_part_9, u_L_part_12, u_L_part_13, u_L_part_14, u_L_part_15, u_L_part_16, q.ob, p1, hl, x01l, c00, xgo_some, xgo_none, xgoI_none, xcat_n, xcat_i, xcat_r, xcat_z, List.length_nil, List.length_cons, List.getD_cons_zero, List.getD_cons_succ, List.set_cons_zero, List.set_cons_succ, Nat.zero_le, Nat.reduceAdd, Nat.reduceLeDiff, Nat.reduceEqDiff, reduceIte]
  | .inr e, p, hs =>
    have p1 : xev 76 [.ref x, .int u] h = some (.inr e, xdead h) := p
    have z := hs e rfl
    subst z
    show _ = some (Sum.inl (some (Value.int (cdB 0))), xdead h)
    simp only [u_L_part_0, u_L_part_1, u_L_part_2, u_L_part_3, u_L_part_4, t_L_part_4_0, u_L_part_7, u_L_part_8, u_L_part_9, u_L_part_12, u_L_part_13, u_L_part_14, u_L_part_15, u_L_part_16, q.ob, p1, xgo_some, xgo_none, xgoI_none, xcat_n, xcat_i, xcat_r, xcat_z, List.length_nil, List.length_cons, List.getD_cons_zero, List.getD_cons_succ, List.set_cons_zero, List.set_cons_succ, Nat.zero_le, Nat.reduceAdd, Nat.reduceLeDiff, Nat.reduceEqDiff, reduceIte]
    try rfl
theorem W_sign (q : isP h x P) (ho : h.1 o = some (.inl (1, 1, .inr (.inl g)))) (hd : x + 139 ≤ o) (u : Int32) {s : (Int32 × pP) ⊕ Nat} (p : outP x h (xev 77 [.ref x, .int u] h) s) (hs : ∀ e, s = .inr e → e = 0) : outW x o (fun _ => 1) h (xev 170 [.ref x, .int u, .ref o] h) s := by
  rw [e_L_sign]
  match s, p, hs with
  | .inl (n, P'), p, _ =>
    obtain ⟨h', p1, p2, p3⟩ := p
    have hl := xal_is ((p3.2 o (Or.inr hd)).trans ho)
    refine ⟨h', ?_, p2, p3⟩
    simp only [u_L_sign_0, u_L_sign_1, u_L_sign_2, u_L_sign_3, u_L_sign_4, t_L_sign_4_0, u_L_sign_7, u_L_sign_8, u_L_sign_9, u_L_sign_12, u_L_sign_13, u_L_sign_14, u_L_sign_15, u_L_sign_16, q.ob, p1, hl, x01l, c00, xgo_some, xgo_none, xgoI_none, xcat_n, xcat_i, xcat_r, xcat_z, List.length_nil, List.length_cons, List.getD_cons_zero, List.getD_cons_succ, List.set_cons_zero, List.set_cons_succ, Nat.zero_le, Nat.reduceAdd, Nat.reduceLeDiff, Nat.reduceEqDiff, reduceIte]
  | .inr e, p, hs =>
    have p1 : xev 77 [.ref x, .int u] h = some (.inr e, xdead h) := p
    have z := hs e rfl
    subst z
    show _ = some (Sum.inl (some (Value.int ((fun _ => 1) 0))), xdead h)
    simp only [u_L_sign_0, u_L_sign_1, u_L_sign_2, u_L_sign_3, u_L_sign_4, t_L_sign_4_0, u_L_sign_7, u_L_sign_8, u_L_sign_9, u_L_sign_12, u_L_sign_13, u_L_sign_14, u_L_sign_15, u_L_sign_16, q.ob, p1, xgo_some, xgo_none, xgoI_none, xcat_n, xcat_i, xcat_r, xcat_z, List.length_nil, List.length_cons, List.getD_cons_zero, List.getD_cons_succ, List.set_cons_zero, List.set_cons_succ, Nat.zero_le, Nat.reduceAdd, Nat.reduceLeDiff, Nat.reduceEqDiff, reduceIte]
    try rfl
theorem W_about (q : isP h x P) (ho : h.1 o = some (.inl (1, 1, .inr (.inl g)))) (hd : x + 139 ≤ o) (u v : Int32) {s : (Int32 × pP) ⊕ Nat} (p : outP x h (xev 78 [.ref x, .int u, .int v] h) s) (hs : ∀ e, s = .inr e → e = 2 ∨ e = 0) : outW x o cdA h (xev 171 [.ref x, .int u, .int v, .ref o] h) s := by
  rw [e_L_about]
  match s, p, hs with
  | .inl (n, P'), p, _ =>
    obtain ⟨h', p1, p2, p3⟩ := p
    have hl := xal_is ((p3.2 o (Or.inr hd)).trans ho)
    refine ⟨h', ?_, p2, p3⟩
    simp only [u_L_about_0, u_L_about_1, u_L_about_2, u_L_about_3, u_L_about_4, u_L_about_5, t_L_about_5_2, t_L_about_5_0, u_L_about_8, u_L_about_9, u_L_about_10, u_L_about_13, u_L_about_15, u_L_about_16, u_L_about_17, u_L_about_19, u_L_about_20, u_L_about_21, u_L_about_22, q.ob, p1, hl, x01l, c00, xgo_some, xgo_none, xgoI_none, xcat_n, xcat_i, xcat_r, xcat_z, List.length_nil, List.length_cons, List.getD_cons_zero, List.getD_cons_succ, List.set_cons_zero, List.set_cons_succ, Nat.zero_le, Nat.reduceAdd, Nat.reduceLeDiff, Nat.reduceEqDiff, reduceIte]
  | .inr e, p, hs =>
    have p1 : xev 78 [.ref x, .int u, .int v] h = some (.inr e, xdead h) := p
    rcases hs e rfl with z | z
    · subst z
      show _ = some (Sum.inl (some (Value.int (cdA 2))), xdead h)
      simp only [u_L_about_0, u_L_about_1, u_L_about_2, u_L_about_3, u_L_about_4, u_L_about_5, t_L_about_5_2, t_L_about_5_0, u_L_about_8, u_L_about_9, u_L_about_10, u_L_about_13, u_L_about_15, u_L_about_16, u_L_about_17, u_L_about_19, u_L_about_20, u_L_about_21, u_L_about_22, q.ob, p1, xgo_some, xgo_none, xgoI_none, xcat_n, xcat_i, xcat_r, xcat_z, List.length_nil, List.length_cons, List.getD_cons_zero, List.getD_cons_succ, List.set_cons_zero, List.set_cons_succ, Nat.zero_le, Nat.reduceAdd, Nat.reduceLeDiff, Nat.reduceEqDiff, reduceIte]
      try rfl
    · subst z
      show _ = some (Sum.inl (some (Value.int (cdA 0))), xdead h)
      simp only [u_L_about_0, u_L_about_1, u_L_about_2, u_L_about_3, u_L_about_4, u_L_about_5, t_L_about_5_2, t_L_about_5_0, u_L_about_8, u_L_about_9, u_L_about_10, u_L_about_13, u_L_about_15, u_L_about_16, u_L_about_17, u_L_about_19, u_L_about_20, u_L_about_21, u_L_about_22, q.ob, p1, xgo_some, xgo_none, xgoI_none, xcat_n, xcat_i, xcat_r, xcat_z, List.length_nil, List.length_cons, List.getD_cons_zero, List.getD_cons_succ, List.set_cons_zero, List.set_cons_succ, Nat.zero_le, Nat.reduceAdd, Nat.reduceLeDiff, Nat.reduceEqDiff, reduceIte]
      try rfl
theorem W_pair (q : isP h x P) (ho : h.1 o = some (.inl (1, 1, .inr (.inl g)))) (hd : x + 139 ≤ o) (u v : Int32) {s : (Int32 × pP) ⊕ Nat} (p : outP x h (xev 79 [.ref x, .int u, .int v] h) s) (hs : ∀ e, s = .inr e → e = 2) : outW x o (fun _ => 1) h (xev 172 [.ref x, .int u, .int v, .ref o] h) s := by
  rw [e_L_pair]
  match s, p, hs with
  | .inl (n, P'), p, _ =>
    obtain ⟨h', p1, p2, p3⟩ := p
    have hl := xal_is ((p3.2 o (Or.inr hd)).trans ho)
    refine ⟨h', ?_, p2, p3⟩
    simp only [u_L_pair_0, u_L_pair_1, u_L_pair_2, u_L_pair_3, u_L_pair_4, u_L_pair_5, t_L_pair_5_2, u_L_pair_8, u_L_pair_9, u_L_pair_10, u_L_pair_13, u_L_pair_15, u_L_pair_16, u_L_pair_17, u_L_pair_18, q.ob, p1, hl, x01l, c00, xgo_some, xgo_none, xgoI_none, xcat_n, xcat_i, xcat_r, xcat_z, List.length_nil, List.length_cons, List.getD_cons_zero, List.getD_cons_succ, List.set_cons_zero, List.set_cons_succ, Nat.zero_le, Nat.reduceAdd, Nat.reduceLeDiff, Nat.reduceEqDiff, reduceIte]
  | .inr e, p, hs =>
    have p1 : xev 79 [.ref x, .int u, .int v] h = some (.inr e, xdead h) := p
    have z := hs e rfl
    subst z
    show _ = some (Sum.inl (some (Value.int ((fun _ => 1) 2))), xdead h)
    simp only [u_L_pair_0, u_L_pair_1, u_L_pair_2, u_L_pair_3, u_L_pair_4, u_L_pair_5, t_L_pair_5_2, u_L_pair_8, u_L_pair_9, u_L_pair_10, u_L_pair_13, u_L_pair_15, u_L_pair_16, u_L_pair_17, u_L_pair_18, q.ob, p1, xgo_some, xgo_none, xgoI_none, xcat_n, xcat_i, xcat_r, xcat_z, List.length_nil, List.length_cons, List.getD_cons_zero, List.getD_cons_succ, List.set_cons_zero, List.set_cons_succ, Nat.zero_le, Nat.reduceAdd, Nat.reduceLeDiff, Nat.reduceEqDiff, reduceIte]
    try rfl
theorem W_next (q : isP h x P) (ho : h.1 o = some (.inl (1, 1, .inr (.inl g)))) (hd : x + 139 ≤ o) (u : Int32) {s : (Int32 × pP) ⊕ Nat} (p : outP x h (xev 80 [.ref x, .int u] h) s) (hs : ∀ e, s = .inr e → e = 0) : outW x o (fun _ => 1) h (xev 173 [.ref x, .int u, .ref o] h) s := by
  rw [e_L_next]
  match s, p, hs with
  | .inl (n, P'), p, _ =>
    obtain ⟨h', p1, p2, p3⟩ := p
    have hl := xal_is ((p3.2 o (Or.inr hd)).trans ho)
    refine ⟨h', ?_, p2, p3⟩
    simp only [u_L_next_0, u_L_next_1, u_L_next_2, u_L_next_3, u_L_next_4, t_L_next_4_0, u_L_next_7, u_L_next_8, u_L_next_9, u_L_next_12, u_L_next_13, u_L_next_14, u_L_next_15, u_L_next_16, q.ob, p1, hl, x01l, c00, xgo_some, xgo_none, xgoI_none, xcat_n, xcat_i, xcat_r, xcat_z, List.length_nil, List.length_cons, List.getD_cons_zero, List.getD_cons_succ, List.set_cons_zero, List.set_cons_succ, Nat.zero_le, Nat.reduceAdd, Nat.reduceLeDiff, Nat.reduceEqDiff, reduceIte]
  | .inr e, p, hs =>
    have p1 : xev 80 [.ref x, .int u] h = some (.inr e, xdead h) := p
    have z := hs e rfl
    subst z
    show _ = some (Sum.inl (some (Value.int ((fun _ => 1) 0))), xdead h)
    simp only [u_L_next_0, u_L_next_1, u_L_next_2, u_L_next_3, u_L_next_4, t_L_next_4_0, u_L_next_7, u_L_next_8, u_L_next_9, u_L_next_12, u_L_next_13, u_L_next_14, u_L_next_15, u_L_next_16, q.ob, p1, xgo_some, xgo_none, xgoI_none, xcat_n, xcat_i, xcat_r, xcat_z, List.length_nil, List.length_cons, List.getD_cons_zero, List.getD_cons_succ, List.set_cons_zero, List.set_cons_succ, Nat.zero_le, Nat.reduceAdd, Nat.reduceLeDiff, Nat.reduceEqDiff, reduceIte]
    try rfl
theorem W_count (q : isP h x P) (ho : h.1 o = some (.inl (1, 1, .inr (.inl g)))) (hd : x + 139 ≤ o) (u : Int32) {s : (Int32 × pP) ⊕ Nat} (p : outP x h (xev 81 [.ref x, .int u] h) s) (hs : ∀ e, s = .inr e → e = 0) : outW x o (fun _ => 1) h (xev 174 [.ref x, .int u, .ref o] h) s := by
  rw [e_L_count]
  match s, p, hs with
  | .inl (n, P'), p, _ =>
    obtain ⟨h', p1, p2, p3⟩ := p
    have hl := xal_is ((p3.2 o (Or.inr hd)).trans ho)
    refine ⟨h', ?_, p2, p3⟩
    simp only [u_L_count_0, u_L_count_1, u_L_count_2, u_L_count_3, u_L_count_4, t_L_count_4_0, u_L_count_7, u_L_count_8, u_L_count_9, u_L_count_12, u_L_count_13, u_L_count_14, u_L_count_15, u_L_count_16, q.ob, p1, hl, x01l, c00, xgo_some, xgo_none, xgoI_none, xcat_n, xcat_i, xcat_r, xcat_z, List.length_nil, List.length_cons, List.getD_cons_zero, List.getD_cons_succ, List.set_cons_zero, List.set_cons_succ, Nat.zero_le, Nat.reduceAdd, Nat.reduceLeDiff, Nat.reduceEqDiff, reduceIte]
  | .inr e, p, hs =>
    have p1 : xev 81 [.ref x, .int u] h = some (.inr e, xdead h) := p
    have z := hs e rfl
    subst z
    show _ = some (Sum.inl (some (Value.int ((fun _ => 1) 0))), xdead h)
    simp only [u_L_count_0, u_L_count_1, u_L_count_2, u_L_count_3, u_L_count_4, t_L_count_4_0, u_L_count_7, u_L_count_8, u_L_count_9, u_L_count_12, u_L_count_13, u_L_count_14, u_L_count_15, u_L_count_16, q.ob, p1, xgo_some, xgo_none, xgoI_none, xcat_n, xcat_i, xcat_r, xcat_z, List.length_nil, List.length_cons, List.getD_cons_zero, List.getD_cons_succ, List.set_cons_zero, List.set_cons_succ, Nat.zero_le, Nat.reduceAdd, Nat.reduceLeDiff, Nat.reduceEqDiff, reduceIte]
    try rfl
theorem W_times (q : isP h x P) (ho : h.1 o = some (.inl (1, 1, .inr (.inl g)))) (hd : x + 139 ≤ o) (u : Int32) {s : (Int32 × pP) ⊕ Nat} (p : outP x h (xev 82 [.ref x, .int u] h) s) (hs : ∀ e, s = .inr e → e = 2) : outW x o (fun _ => 1) h (xev 175 [.ref x, .int u, .ref o] h) s := by
  rw [e_L_times]
  match s, p, hs with
  | .inl (n, P'), p, _ =>
    obtain ⟨h', p1, p2, p3⟩ := p
    have hl := xal_is ((p3.2 o (Or.inr hd)).trans ho)
    refine ⟨h', ?_, p2, p3⟩
    simp only [u_L_times_0, u_L_times_1, u_L_times_2, u_L_times_3, u_L_times_4, t_L_times_4_2, u_L_times_7, u_L_times_8, u_L_times_9, u_L_times_12, u_L_times_13, u_L_times_14, u_L_times_15, u_L_times_16, q.ob, p1, hl, x01l, c00, xgo_some, xgo_none, xgoI_none, xcat_n, xcat_i, xcat_r, xcat_z, List.length_nil, List.length_cons, List.getD_cons_zero, List.getD_cons_succ, List.set_cons_zero, List.set_cons_succ, Nat.zero_le, Nat.reduceAdd, Nat.reduceLeDiff, Nat.reduceEqDiff, reduceIte]
  | .inr e, p, hs =>
    have p1 : xev 82 [.ref x, .int u] h = some (.inr e, xdead h) := p
    have z := hs e rfl
    subst z
    show _ = some (Sum.inl (some (Value.int ((fun _ => 1) 2))), xdead h)
    simp only [u_L_times_0, u_L_times_1, u_L_times_2, u_L_times_3, u_L_times_4, t_L_times_4_2, u_L_times_7, u_L_times_8, u_L_times_9, u_L_times_12, u_L_times_13, u_L_times_14, u_L_times_15, u_L_times_16, q.ob, p1, xgo_some, xgo_none, xgoI_none, xcat_n, xcat_i, xcat_r, xcat_z, List.length_nil, List.length_cons, List.getD_cons_zero, List.getD_cons_succ, List.set_cons_zero, List.set_cons_succ, Nat.zero_le, Nat.reduceAdd, Nat.reduceLeDiff, Nat.reduceEqDiff, reduceIte]
    try rfl
theorem W_setting (q : isP h x P) (ho : h.1 o = some (.inl (1, 1, .inr (.inl g)))) (hd : x + 139 ≤ o) (u : Int32) {s : (Int32 × pP) ⊕ Nat} (p : outP x h (xev 83 [.ref x, .int u] h) s) (hs : ∀ e, s = .inr e → e = 2) : outW x o (fun _ => 1) h (xev 176 [.ref x, .int u, .ref o] h) s := by
  rw [e_L_setting]
  match s, p, hs with
  | .inl (n, P'), p, _ =>
    obtain ⟨h', p1, p2, p3⟩ := p
    have hl := xal_is ((p3.2 o (Or.inr hd)).trans ho)
    refine ⟨h', ?_, p2, p3⟩
    simp only [u_L_setting_0, u_L_setting_1, u_L_setting_2, u_L_setting_3, u_L_setting_4, t_L_setting_4_2, u_L_setting_7, u_L_setting_8, u_L_setting_9, u_L_setting_12, u_L_setting_13, u_L_setting_14, u_L_setting_15, u_L_setting_16, q.ob, p1, hl, x01l, c00, xgo_some, xgo_none, xgoI_none, xcat_n, xcat_i, xcat_r, xcat_z, List.length_nil, List.length_cons, List.getD_cons_zero, List.getD_cons_succ, List.set_cons_zero, List.set_cons_succ, Nat.zero_le, Nat.reduceAdd, Nat.reduceLeDiff, Nat.reduceEqDiff, reduceIte]
  | .inr e, p, hs =>
    have p1 : xev 83 [.ref x, .int u] h = some (.inr e, xdead h) := p
    have z := hs e rfl
    subst z
    show _ = some (Sum.inl (some (Value.int ((fun _ => 1) 2))), xdead h)
    simp only [u_L_setting_0, u_L_setting_1, u_L_setting_2, u_L_setting_3, u_L_setting_4, t_L_setting_4_2, u_L_setting_7, u_L_setting_8, u_L_setting_9, u_L_setting_12, u_L_setting_13, u_L_setting_14, u_L_setting_15, u_L_setting_16, q.ob, p1, xgo_some, xgo_none, xgoI_none, xcat_n, xcat_i, xcat_r, xcat_z, List.length_nil, List.length_cons, List.getD_cons_zero, List.getD_cons_succ, List.set_cons_zero, List.set_cons_succ, Nat.zero_le, Nat.reduceAdd, Nat.reduceLeDiff, Nat.reduceEqDiff, reduceIte]
    try rfl
theorem W_ifNamed (q : isP h x P) (ho : h.1 o = some (.inl (1, 1, .inr (.inl g)))) (hd : x + 139 ≤ o) (u : Int32) {s : (Int32 × pP) ⊕ Nat} (p : outP x h (xev 84 [.ref x, .int u] h) s) (hs : ∀ e, s = .inr e → e = 0) : outW x o (fun _ => 1) h (xev 177 [.ref x, .int u, .ref o] h) s := by
  rw [e_L_ifNamed]
  match s, p, hs with
  | .inl (n, P'), p, _ =>
    obtain ⟨h', p1, p2, p3⟩ := p
    have hl := xal_is ((p3.2 o (Or.inr hd)).trans ho)
    refine ⟨h', ?_, p2, p3⟩
    simp only [u_L_ifNamed_0, u_L_ifNamed_1, u_L_ifNamed_2, u_L_ifNamed_3, u_L_ifNamed_4, t_L_ifNamed_4_0, u_L_ifNamed_7, u_L_ifNamed_8, u_L_ifNamed_9, u_L_ifNamed_12, u_L_ifNamed_13, u_L_ifNamed_14, u_L_ifNamed_15, u_L_ifNamed_16, q.ob, p1, hl, x01l, c00, xgo_some, xgo_none, xgoI_none, xcat_n, xcat_i, xcat_r, xcat_z, List.length_nil, List.length_cons, List.getD_cons_zero, List.getD_cons_succ, List.set_cons_zero, List.set_cons_succ, Nat.zero_le, Nat.reduceAdd, Nat.reduceLeDiff, Nat.reduceEqDiff, reduceIte]
  | .inr e, p, hs =>
    have p1 : xev 84 [.ref x, .int u] h = some (.inr e, xdead h) := p
    have z := hs e rfl
    subst z
    show _ = some (Sum.inl (some (Value.int ((fun _ => 1) 0))), xdead h)
    simp only [u_L_ifNamed_0, u_L_ifNamed_1, u_L_ifNamed_2, u_L_ifNamed_3, u_L_ifNamed_4, t_L_ifNamed_4_0, u_L_ifNamed_7, u_L_ifNamed_8, u_L_ifNamed_9, u_L_ifNamed_12, u_L_ifNamed_13, u_L_ifNamed_14, u_L_ifNamed_15, u_L_ifNamed_16, q.ob, p1, xgo_some, xgo_none, xgoI_none, xcat_n, xcat_i, xcat_r, xcat_z, List.length_nil, List.length_cons, List.getD_cons_zero, List.getD_cons_succ, List.set_cons_zero, List.set_cons_succ, Nat.zero_le, Nat.reduceAdd, Nat.reduceLeDiff, Nat.reduceEqDiff, reduceIte]
    try rfl
end LB
