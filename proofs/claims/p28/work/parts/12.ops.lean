/-! The small machine's instructions as equations. -/
/-- an object as it lies in the heap; an int array, a long array, an array of states, the script -/
def xob (h : xH) (a : Nat) : Nat × List Value := match h.1 a with
  | some (.inr (c, fs)) => if fs.length = xN c then (c, fs) else (999, [])
  | _ => (999, [])
def xai (h : xH) (a : Nat) : Nat × (Nat → Int32) := match h.1 a with
  | some (.inl (0, n, .inl f)) => (n, f)
  | _ => (0, fun _ => 0)
def xal (h : xH) (a : Nat) : Nat × (Nat → Int64) := match h.1 a with
  | some (.inl (1, n, .inr (.inl f))) => (n, f)
  | _ => (0, fun _ => 0)
def xaq (h : xH) (a : Nat) : Nat × (Nat → Option Nat) := match h.1 a with
  | some (.inl (2, n, .inr (.inr (.inr (.inr f))))) => (n, f)
  | _ => (0, fun _ => none)
def xa3 (h : xH) (a : Nat) : Nat × (Nat → Int32) := match h.1 a with
  | some (.inl (3, n, .inl f)) => (n, f)
  | _ => (0, fun _ => 0)
def xk3 (h : xH) (a : Nat) : Bool := match h.1 a with
  | some (.inl (3, _, .inl _)) => true
  | _ => false
def xix (i : Int32) (n : Nat) : Prop := ¬ i < 0 ∧ i.toNatClampNeg < n
theorem xob_of {h : xH} {a c : Nat} (hc : (xob h a).1 = c) (h9 : c < 999) : h.1 a = some (.inr (c, (xob h a).2)) ∧ (xob h a).2.length = xN c := by
  unfold xob at hc ⊢
  split at hc
  · rename_i c0 fs he
    split at hc
    · rename_i hl
      simp only at hc
      subst hc
      simp only [hl, if_true]
      exact ⟨he, trivial⟩
    · simp only at hc; omega
  · simp only at hc; omega
theorem xai_of {h : xH} {a k : Nat} (hk : k < (xai h a).1) : h.1 a = some (.inl (0, (xai h a).1, .inl (xai h a).2)) := by
  unfold xai at hk ⊢
  split at hk
  · rename_i n f he
    exact he
  · simp only at hk; omega
theorem xal_of {h : xH} {a k : Nat} (hk : k < (xal h a).1) : h.1 a = some (.inl (1, (xal h a).1, .inr (.inl (xal h a).2))) := by
  unfold xal at hk ⊢
  split at hk
  · rename_i n f he
    exact he
  · simp only at hk; omega
theorem xaq_of2 {h : xH} {a k : Nat} (hk : k < (xaq h a).1) : h.1 a = some (.inl (2, (xaq h a).1, .inr (.inr (.inr (.inr (xaq h a).2))))) := by
  unfold xaq at hk ⊢
  split at hk
  · rename_i n f he
    exact he
  · simp only at hk; omega
theorem xa3_of {h : xH} {a k : Nat} (hk : k < (xa3 h a).1) : h.1 a = some (.inl (3, (xa3 h a).1, .inl (xa3 h a).2)) := by
  unfold xa3 at hk ⊢
  split at hk
  · rename_i n f he
    exact he
  · simp only at hk; omega
section OPS
variable {y pc n : Nat} {L : xL} {st : List Value} {h : xH}
theorem xo_loc {i : Instr} (ho : xop y pc = some (i, n)) (hk : xca i st h = none) : xf y pc L st h = xk y (xloc y i n L st h) := by
  rw [xop_at ho]
  simp only [xstep, hk]
theorem xo_iload {k : Nat} {x : Int32} (ho : xop y pc = some (.iload k, n)) (hL : L[k]? = some (some (.int x))) : xf y pc L st h = xf y n L (.int x :: st) h := by
  rw [xo_loc ho rfl]; simp only [xloc, hL]; rfl
theorem xo_aload {k a : Nat} (ho : xop y pc = some (.aload k, n)) (hL : L[k]? = some (some (.ref a))) : xf y pc L st h = xf y n L (.ref a :: st) h := by
  rw [xo_loc ho rfl]; simp only [xloc, hL]; rfl
theorem xo_aloadN {k : Nat} (ho : xop y pc = some (.aload k, n)) (hL : L[k]? = some (some .null)) : xf y pc L st h = xf y n L (.null :: st) h := by
  rw [xo_loc ho rfl]; simp only [xloc, hL]; rfl
theorem xo_lload {k : Nat} {x : Int64} (ho : xop y pc = some (.lload k, n)) (hL : L[k]? = some (some (.long x))) : xf y pc L st h = xf y n L (.long x :: st) h := by
  rw [xo_loc ho rfl]; simp only [xloc, hL]; rfl
theorem xo_dload {k : Nat} {x : UInt64} (ho : xop y pc = some (.dload k, n)) (hL : L[k]? = some (some (.double x))) : xf y pc L st h = xf y n L (.double x :: st) h := by
  rw [xo_loc ho rfl]; simp only [xloc, hL]; rfl
theorem xo_istore {k : Nat} {x : Int32} {L' : xL} (ho : xop y pc = some (.istore k, n)) (hk : k < L.length) (hL : xs1 L k (.int x) = L') : xf y pc L (.int x :: st) h = xf y n L' st h := by
  subst hL; rw [xo_loc ho rfl]; simp only [xloc, if_pos hk]; rfl
theorem xo_astore {k a : Nat} {L' : xL} (ho : xop y pc = some (.astore k, n)) (hk : k < L.length) (hL : xs1 L k (.ref a) = L') : xf y pc L (.ref a :: st) h = xf y n L' st h := by
  subst hL; rw [xo_loc ho rfl]; simp only [xloc, if_pos hk]; rfl
theorem xo_astoreN {k : Nat} {L' : xL} (ho : xop y pc = some (.astore k, n)) (hk : k < L.length) (hL : xs1 L k .null = L') : xf y pc L (.null :: st) h = xf y n L' st h := by
  subst hL; rw [xo_loc ho rfl]; simp only [xloc, if_pos hk]; rfl
theorem xo_lstore {k : Nat} {x : Int64} {L' : xL} (ho : xop y pc = some (.lstore k, n)) (hk : k + 1 < L.length) (hL : xs2 L k (.long x) = L') : xf y pc L (.long x :: st) h = xf y n L' st h := by
  subst hL; rw [xo_loc ho rfl]; simp only [xloc, if_pos hk]; rfl
theorem xo_dstore {k : Nat} {x : UInt64} {L' : xL} (ho : xop y pc = some (.dstore k, n)) (hk : k + 1 < L.length) (hL : xs2 L k (.double x) = L') : xf y pc L (.double x :: st) h = xf y n L' st h := by
  subst hL; rw [xo_loc ho rfl]; simp only [xloc, if_pos hk]; rfl
theorem xo_iconst {k : Int} {v : Int32} (ho : xop y pc = some (.iconst k, n)) (hv : Int32.ofInt k = v) : xf y pc L st h = xf y n L (.int v :: st) h := by
  subst hv; rw [xo_loc ho rfl]; rfl
theorem xo_lconst {k : Fin 2} {v : Int64} (ho : xop y pc = some (.lconst k, n)) (hv : Int64.ofNat k.val = v) : xf y pc L st h = xf y n L (.long v :: st) h := by
  subst hv; rw [xo_loc ho rfl]; rfl
theorem xo_dconst {k : Fin 2} {v : UInt64} (ho : xop y pc = some (.dconst k, n)) (hv : (if k = 0 then FP.dconst0 else FP.dconst1) = v) : xf y pc L st h = xf y n L (.double v :: st) h := by
  subst hv; rw [xo_loc ho rfl]; rfl
theorem xo_ldcl {k : Nat} {v : Int64} (ho : xop y pc = some (.ldc2_w k, n)) (h0 : k % 2 = 0) (hv : (xls[k / 2]?).getD 0 = v) : xf y pc L st h = xf y n L (.long v :: st) h := by
  subst hv; rw [xo_loc ho rfl]; simp only [xloc, if_pos h0]; rfl
theorem xo_ldcd {k : Nat} {v : UInt64} (ho : xop y pc = some (.ldc2_w k, n)) (h0 : ¬ k % 2 = 0) (hv : (xds[k / 2]?).getD 0 = v) : xf y pc L st h = xf y n L (.double v :: st) h := by
  subst hv; rw [xo_loc ho rfl]; simp only [xloc, if_neg h0]; rfl
theorem xo_null (ho : xop y pc = some (.aconst_null, n)) : xf y pc L st h = xf y n L (.null :: st) h := by
  rw [xo_loc ho rfl]; rfl
theorem xo_iadd {a b : Int32} (ho : xop y pc = some (.iadd, n)) : xf y pc L (.int b :: .int a :: st) h = xf y n L (.int (a + b) :: st) h := by
  rw [xo_loc ho rfl]; rfl
theorem xo_isub {a b : Int32} (ho : xop y pc = some (.isub, n)) : xf y pc L (.int b :: .int a :: st) h = xf y n L (.int (a - b) :: st) h := by
  rw [xo_loc ho rfl]; rfl
theorem xo_imul {a b : Int32} (ho : xop y pc = some (.imul, n)) : xf y pc L (.int b :: .int a :: st) h = xf y n L (.int (a * b) :: st) h := by
  rw [xo_loc ho rfl]; rfl
theorem xo_iand {a b : Int32} (ho : xop y pc = some (.iand, n)) : xf y pc L (.int b :: .int a :: st) h = xf y n L (.int (a &&& b) :: st) h := by
  rw [xo_loc ho rfl]; rfl
theorem xo_ior {a b : Int32} (ho : xop y pc = some (.ior, n)) : xf y pc L (.int b :: .int a :: st) h = xf y n L (.int (a ||| b) :: st) h := by
  rw [xo_loc ho rfl]; rfl
theorem xo_ixor {a b : Int32} (ho : xop y pc = some (.ixor, n)) : xf y pc L (.int b :: .int a :: st) h = xf y n L (.int (a ^^^ b) :: st) h := by
  rw [xo_loc ho rfl]; rfl
theorem xo_ishl {a b : Int32} (ho : xop y pc = some (.ishl, n)) : xf y pc L (.int b :: .int a :: st) h = xf y n L (.int (a <<< (b &&& 31)) :: st) h := by
  rw [xo_loc ho rfl]; rfl
theorem xo_ishr {a b : Int32} (ho : xop y pc = some (.ishr, n)) : xf y pc L (.int b :: .int a :: st) h = xf y n L (.int (a >>> (b &&& 31)) :: st) h := by
  rw [xo_loc ho rfl]; rfl
theorem xo_irem {a b : Int32} (ho : xop y pc = some (.irem, n)) (hb : ¬ b = 0) : xf y pc L (.int b :: .int a :: st) h = xf y n L (.int (a - a / b * b) :: st) h := by
  rw [xo_loc ho rfl]; simp only [xloc]; rw [if_pos hb]; rfl
theorem xo_ldc {k : Nat} {v : Int32} (ho : xop y pc = some (.ldc k, n)) (hv : (xis[k]?).getD 0 = v) : xf y pc L st h = xf y n L (.int v :: st) h := by
  subst hv; rw [xo_loc ho rfl]; rfl
theorem xo_ladd {a b : Int64} (ho : xop y pc = some (.ladd, n)) : xf y pc L (.long b :: .long a :: st) h = xf y n L (.long (a + b) :: st) h := by
  rw [xo_loc ho rfl]; rfl
theorem xo_lsub {a b : Int64} (ho : xop y pc = some (.lsub, n)) : xf y pc L (.long b :: .long a :: st) h = xf y n L (.long (a - b) :: st) h := by
  rw [xo_loc ho rfl]; rfl
theorem xo_lmul {a b : Int64} (ho : xop y pc = some (.lmul, n)) : xf y pc L (.long b :: .long a :: st) h = xf y n L (.long (a * b) :: st) h := by
  rw [xo_loc ho rfl]; rfl
theorem xo_lor {a b : Int64} (ho : xop y pc = some (.lor, n)) : xf y pc L (.long b :: .long a :: st) h = xf y n L (.long (a ||| b) :: st) h := by
  rw [xo_loc ho rfl]; rfl
theorem xo_lshl {a : Int64} {b : Int32} (ho : xop y pc = some (.lshl, n)) : xf y pc L (.int b :: .long a :: st) h = xf y n L (.long (a <<< (b.toInt64 &&& 63)) :: st) h := by
  rw [xo_loc ho rfl]; rfl
theorem xo_lcmp {a b : Int64} (ho : xop y pc = some (.lcmp, n)) : xf y pc L (.long b :: .long a :: st) h = xf y n L (.int (lg_cmp a b) :: st) h := by
  rw [xo_loc ho rfl]; rfl
theorem xo_dmul {a b : UInt64} (ho : xop y pc = some (.dmul, n)) (hn : xnn (FP.dmul a b) = true) : xf y pc L (.double b :: .double a :: st) h = xf y n L (.double (FP.dmul a b) :: st) h := by
  rw [xo_loc ho rfl]; simp only [xloc]; rw [if_pos hn]; rfl
theorem xo_dsub {a b : UInt64} (ho : xop y pc = some (.dsub, n)) (hn : xnn (FP.dsub a b) = true) : xf y pc L (.double b :: .double a :: st) h = xf y n L (.double (FP.dsub a b) :: st) h := by
  rw [xo_loc ho rfl]; simp only [xloc]; rw [if_pos hn]; rfl
theorem xo_ddiv {a b : UInt64} (ho : xop y pc = some (.ddiv, n)) (hn : xnn (FP.ddiv a b) = true) : xf y pc L (.double b :: .double a :: st) h = xf y n L (.double (FP.ddiv a b) :: st) h := by
  rw [xo_loc ho rfl]; simp only [xloc]; rw [if_pos hn]; rfl
theorem xo_dneg {a : UInt64} (ho : xop y pc = some (.dneg, n)) : xf y pc L (.double a :: st) h = xf y n L (.double (FP.dneg a) :: st) h := by
  rw [xo_loc ho rfl]; rfl
theorem xo_dcmp {a b : UInt64} {o : CmpOp} (ho : xop y pc = some (.dcmp o, n)) : xf y pc L (.double b :: .double a :: st) h = xf y n L (.int (Op.cmpValue (FP.dcmp a b) o) :: st) h := by
  rw [xo_loc ho rfl]; rfl
theorem xo_i2l {a : Int32} (ho : xop y pc = some (.i2l, n)) : xf y pc L (.int a :: st) h = xf y n L (.long a.toInt64 :: st) h := by
  rw [xo_loc ho rfl]; rfl
theorem xo_i2d {a : Int32} (ho : xop y pc = some (.i2d, n)) : xf y pc L (.int a :: st) h = xf y n L (.double (FP.i2d a) :: st) h := by
  rw [xo_loc ho rfl]; rfl
theorem xo_l2d {a : Int64} (ho : xop y pc = some (.l2d, n)) : xf y pc L (.long a :: st) h = xf y n L (.double (FP.l2d a) :: st) h := by
  rw [xo_loc ho rfl]; rfl
theorem xo_d2l {a : UInt64} (ho : xop y pc = some (.d2l, n)) : xf y pc L (.double a :: st) h = xf y n L (.long (FP.d2l a) :: st) h := by
  rw [xo_loc ho rfl]; rfl
theorem xo_dupI {a : Int32} (ho : xop y pc = some (.dup, n)) : xf y pc L (.int a :: st) h = xf y n L (.int a :: .int a :: st) h := by
  rw [xo_loc ho rfl]; rfl
theorem xo_dupR {a : Nat} (ho : xop y pc = some (.dup, n)) : xf y pc L (.ref a :: st) h = xf y n L (.ref a :: .ref a :: st) h := by
  rw [xo_loc ho rfl]; rfl
theorem xo_dup2 {a : Int32} {b : Nat} (ho : xop y pc = some (.dup2, n)) : xf y pc L (.int a :: .ref b :: st) h = xf y n L (.int a :: .ref b :: .int a :: .ref b :: st) h := by
  rw [xo_loc ho rfl]; rfl
theorem xo_pop {a : Int32} (ho : xop y pc = some (.pop, n)) : xf y pc L (.int a :: st) h = xf y n L st h := by
  rw [xo_loc ho rfl]; rfl
theorem xo_iinc {k : Nat} {c : Int} {x v : Int32} {L' : xL} (ho : xop y pc = some (.iinc k c, n)) (hL : L[k]? = some (some (.int x))) (hv : Int32.ofInt c = v) (hL' : xs1 L k (.int (x + v)) = L') : xf y pc L st h = xf y n L' st h := by
  subst hv; subst hL'; rw [xo_loc ho rfl]; simp only [xloc, hL]; rfl
theorem xo_goto {t : Int} {t' : Nat} (ho : xop y pc = some (.goto t, n)) (ht : t.toNat = t') : xf y pc L st h = xf y t' L st h := by
  subst ht; rw [xo_loc ho rfl]; rfl
theorem xo_icmp {c : ClassFile.Cond} {t : Int} {t' : Nat} {a b : Int32} (ho : xop y pc = some (.if_icmp c t, n)) (ht : t.toNat = t') : xf y pc L (.int b :: .int a :: st) h = if xcmp c a b = true then xf y t' L st h else xf y n L st h := by
  subst ht; rw [xo_loc ho rfl]; simp only [xloc, xbr]; split <;> rfl
theorem xo_if {c : ClassFile.Cond} {t : Int} {t' : Nat} {a : Int32} (ho : xop y pc = some (.ifCond c t, n)) (ht : t.toNat = t') : xf y pc L (.int a :: st) h = if xcmp c a 0 = true then xf y t' L st h else xf y n L st h := by
  subst ht; rw [xo_loc ho rfl]; simp only [xloc, xbr]; split <;> rfl
theorem xite {p : Prop} {d : Decidable p} {q : Prop} {d' : Decidable q} {α : Type} {a b : α} (hpq : p ↔ q) : (@ite _ p d a b) = @ite _ q d' a b := by
  by_cases hq : q
  · rw [if_pos hq, if_pos (hpq.mpr hq)]
  · rw [if_neg hq, if_neg (fun z => hq (hpq.mp z))]
theorem xo_icmp_eq {t : Int} {t' : Nat} {a b : Int32} (ho : xop y pc = some (.if_icmp .eq t, n)) (ht : t.toNat = t') : xf y pc L (.int b :: .int a :: st) h = if a = b then xf y t' L st h else xf y n L st h := (xo_icmp ho ht).trans (xite (by simp [xcmp]))
theorem xo_icmp_ne {t : Int} {t' : Nat} {a b : Int32} (ho : xop y pc = some (.if_icmp .ne t, n)) (ht : t.toNat = t') : xf y pc L (.int b :: .int a :: st) h = if a = b then xf y n L st h else xf y t' L st h := by
  rw [xo_icmp ho ht]
  by_cases q : a = b <;> simp [xcmp, q]
theorem xo_icmp_lt {t : Int} {t' : Nat} {a b : Int32} (ho : xop y pc = some (.if_icmp .lt t, n)) (ht : t.toNat = t') : xf y pc L (.int b :: .int a :: st) h = if a < b then xf y t' L st h else xf y n L st h := (xo_icmp ho ht).trans (xite (by simp [xcmp]))
theorem xlt_not {a b : Int32} : ¬ a ≤ b ↔ b < a := by
  rw [Int32.le_iff_toInt_le, Int32.lt_iff_toInt_lt]; omega
theorem xo_icmp_ge {t : Int} {t' : Nat} {a b : Int32} (ho : xop y pc = some (.if_icmp .ge t, n)) (ht : t.toNat = t') : xf y pc L (.int b :: .int a :: st) h = if a < b then xf y n L st h else xf y t' L st h := by
  rw [xo_icmp ho ht]
  by_cases q : a < b
  · have : ¬ b ≤ a := xlt_not.mpr q
    simp [xcmp, q, this]
  · have : b ≤ a := Decidable.byContradiction fun z => q (xlt_not.mp z)
    simp [xcmp, q, this]
theorem xo_icmp_gt {t : Int} {t' : Nat} {a b : Int32} (ho : xop y pc = some (.if_icmp .gt t, n)) (ht : t.toNat = t') : xf y pc L (.int b :: .int a :: st) h = if b < a then xf y t' L st h else xf y n L st h := (xo_icmp ho ht).trans (xite (by simp [xcmp]))
theorem xo_icmp_le {t : Int} {t' : Nat} {a b : Int32} (ho : xop y pc = some (.if_icmp .le t, n)) (ht : t.toNat = t') : xf y pc L (.int b :: .int a :: st) h = if b < a then xf y n L st h else xf y t' L st h := by
  rw [xo_icmp ho ht]
  by_cases q : b < a
  · have : ¬ a ≤ b := xlt_not.mpr q
    simp [xcmp, q, this]
  · have : a ≤ b := Decidable.byContradiction fun z => q (xlt_not.mp z)
    simp [xcmp, q, this]
theorem xo_if_eq {t : Int} {t' : Nat} {a : Int32} (ho : xop y pc = some (.ifCond .eq t, n)) (ht : t.toNat = t') : xf y pc L (.int a :: st) h = if a = 0 then xf y t' L st h else xf y n L st h := (xo_if ho ht).trans (xite (by simp [xcmp]))
theorem xo_if_ne {t : Int} {t' : Nat} {a : Int32} (ho : xop y pc = some (.ifCond .ne t, n)) (ht : t.toNat = t') : xf y pc L (.int a :: st) h = if a = 0 then xf y n L st h else xf y t' L st h := by
  rw [xo_if ho ht]
  by_cases q : a = 0 <;> simp [xcmp, q]
theorem xo_if_lt {t : Int} {t' : Nat} {a : Int32} (ho : xop y pc = some (.ifCond .lt t, n)) (ht : t.toNat = t') : xf y pc L (.int a :: st) h = if a < 0 then xf y t' L st h else xf y n L st h := (xo_if ho ht).trans (xite (by simp [xcmp]))
theorem xo_if_ge {t : Int} {t' : Nat} {a : Int32} (ho : xop y pc = some (.ifCond .ge t, n)) (ht : t.toNat = t') : xf y pc L (.int a :: st) h = if a < 0 then xf y n L st h else xf y t' L st h := by
  rw [xo_if ho ht]
  by_cases q : a < 0
  · have : ¬ (0 : Int32) ≤ a := xlt_not.mpr q
    simp [xcmp, q, this]
  · have : (0 : Int32) ≤ a := Decidable.byContradiction fun z => q (xlt_not.mp z)
    simp [xcmp, q, this]
theorem xo_if_gt {t : Int} {t' : Nat} {a : Int32} (ho : xop y pc = some (.ifCond .gt t, n)) (ht : t.toNat = t') : xf y pc L (.int a :: st) h = if 0 < a then xf y t' L st h else xf y n L st h := (xo_if ho ht).trans (xite (by simp [xcmp]))
theorem xo_if_le {t : Int} {t' : Nat} {a : Int32} (ho : xop y pc = some (.ifCond .le t, n)) (ht : t.toNat = t') : xf y pc L (.int a :: st) h = if 0 < a then xf y n L st h else xf y t' L st h := by
  rw [xo_if ho ht]
  by_cases q : 0 < a
  · have : ¬ a ≤ (0 : Int32) := xlt_not.mpr q
    simp [xcmp, q, this]
  · have : a ≤ (0 : Int32) := Decidable.byContradiction fun z => q (xlt_not.mp z)
    simp [xcmp, q, this]
theorem xo_ifnullN {t : Int} {t' : Nat} (ho : xop y pc = some (.ifnull t, n)) (ht : t.toNat = t') : xf y pc L (.null :: st) h = xf y t' L st h := by
  subst ht; rw [xo_loc ho rfl]; rfl
theorem xo_ifnull {t : Int} {a : Nat} (ho : xop y pc = some (.ifnull t, n)) : xf y pc L (.ref a :: st) h = xf y n L st h := by
  rw [xo_loc ho rfl]; rfl
theorem xo_iaload {i : Int32} {a : Nat} (ho : xop y pc = some (.iaload, n)) (hx : xix i (xai h a).1) : xf y pc L (.int i :: .ref a :: st) h = xf y n L (.int ((xai h a).2 i.toNatClampNeg) :: st) h := by
  rw [xo_loc ho rfl]; simp only [xloc, xai_of hx.2]; rw [if_pos ⟨Or.inl trivial, hx.1, hx.2⟩]; rfl
theorem xo_iaload3 {i : Int32} {a : Nat} (ho : xop y pc = some (.iaload, n)) (hx : xix i (xa3 h a).1) : xf y pc L (.int i :: .ref a :: st) h = xf y n L (.int ((xa3 h a).2 i.toNatClampNeg) :: st) h := by
  rw [xo_loc ho rfl]; simp only [xloc, xa3_of hx.2]; rw [if_pos ⟨Or.inr trivial, hx.1, hx.2⟩]; rfl
theorem xo_aaload {i : Int32} {a : Nat} (ho : xop y pc = some (.aaload, n)) (hx : xix i (xaq h a).1) : xf y pc L (.int i :: .ref a :: st) h = xf y n L (va_rf ((xaq h a).2 i.toNatClampNeg) :: st) h := by
  rw [xo_loc ho rfl]; simp only [xloc, xaq_of2 hx.2]; rw [if_pos ⟨hx.1, hx.2⟩]; rfl
def xsi (h : xH) (a k : Nat) (v : Int32) : xH := xup h a (.inl (0, (xai h a).1, .inl (va_up (xai h a).2 k v)))
def xsl (h : xH) (a k : Nat) (v : Int64) : xH := xup h a (.inl (1, (xal h a).1, .inr (.inl (va_up (xal h a).2 k v))))
def xsq (h : xH) (a k v : Nat) : xH := xup h a (.inl (2, (xaq h a).1, .inr (.inr (.inr (.inr (va_up (xaq h a).2 k (some v)))))))
def xso (h : xH) (a k : Nat) (v : Value) : xH := xup h a (.inr ((xob h a).1, (xob h a).2.set k v))
theorem xo_iastore {i v : Int32} {a : Nat} (ho : xop y pc = some (.iastore, n)) (hx : xix i (xai h a).1) : xf y pc L (.int v :: .int i :: .ref a :: st) h = xf y n L st (xsi h a i.toNatClampNeg v) := by
  rw [xo_loc ho rfl]; simp only [xloc, xai_of hx.2]; rw [if_pos ⟨hx.1, hx.2⟩]; rfl
theorem xo_aastore {i : Int32} {a v : Nat} (ho : xop y pc = some (.aastore, n)) (hv : (xob h v).1 = 6) (hx : xix i (xaq h a).1) : xf y pc L (.ref v :: .int i :: .ref a :: st) h = xf y n L st (xsq h a i.toNatClampNeg v) := by
  have hr : xrcv h v 6 = true := by simp [xrcv, (xob_of hv (by decide)).1]
  rw [xo_loc ho rfl]; simp only [xloc, xaq_of2 hx.2]; rw [if_pos ⟨hr, hx.1, hx.2⟩]; rfl
theorem xo_alen {a : Nat} (ho : xop y pc = some (.arraylength, n)) (hx : 0 < (xai h a).1) : xf y pc L (.ref a :: st) h = xf y n L (.int (Int32.ofNat (xai h a).1) :: st) h := by
  rw [xo_loc ho rfl]; simp only [xloc, xai_of hx]; rfl
theorem xo_alenq {a : Nat} (ho : xop y pc = some (.arraylength, n)) (hx : 0 < (xaq h a).1) : xf y pc L (.ref a :: st) h = xf y n L (.int (Int32.ofNat (xaq h a).1) :: st) h := by
  rw [xo_loc ho rfl]; simp only [xloc, xaq_of2 hx]; rfl
theorem xo_alen3 {a : Nat} (ho : xop y pc = some (.arraylength, n)) (hx : xk3 h a = true) : xf y pc L (.ref a :: st) h = xf y n L (.int (Int32.ofNat (xa3 h a).1) :: st) h := by
  unfold xk3 at hx
  split at hx
  · rename_i m f he
    have : (xa3 h a).1 = m := by unfold xa3; simp only [he]
    rw [xo_loc ho rfl, this]; simp only [xloc, he]; rfl
  · cases hx
theorem xo_getf {r c k a : Nat} (ho : xop y pc = some (.getfield r, n)) (hr : r / 64 = c ∧ r % 64 = k ∧ c < 999 ∧ k < xN c) (hc : (xob h a).1 = c) : xf y pc L (.ref a :: st) h = xf y n L ((xob h a).2.getD k .null :: st) h := by
  obtain ⟨rfl, rfl, h9, hk⟩ := hr
  rw [xo_loc ho rfl]
  obtain ⟨h1, h2⟩ := xob_of hc h9
  have hk2 : r % 64 < (xob h a).2.length := by omega
  simp only [xloc, h1, if_true, List.getElem?_eq_getElem hk2, List.getD_eq_getElem?_getD, Option.getD_some]
  rfl
theorem xo_putf {r c k a : Nat} {v : Value} (ho : xop y pc = some (.putfield r, n)) (hr : r / 64 = c ∧ r % 64 = k ∧ c < 999 ∧ k < xN c) (hf : xfit (xty c k) v = true) (hc : (xob h a).1 = c) : xf y pc L (v :: .ref a :: st) h = xf y n L st (xso h a k v) := by
  obtain ⟨rfl, rfl, h9, hk⟩ := hr
  rw [xo_loc ho rfl]
  obtain ⟨h1, h2⟩ := xob_of hc h9
  have hk2 : r % 64 < (xob h a).2.length := by omega
  simp only [xloc, h1]
  rw [if_pos ⟨trivial, hk2, hf⟩]
  simp only [xso, hc]
  rfl
theorem xo_max {a b : Int32} (ho : xop y pc = some (.invokestatic 1001, n)) (hl : st.length ≤ 4) : xf y pc L (.int b :: .int a :: st) h = xf y n L (.int (if a < b then b else a) :: st) h := by
  have hk : xca (.invokestatic 1001) (.int b :: .int a :: st) h = none := by simp [xca]
  rw [xo_loc ho hk]; simp only [xloc]; rw [if_pos hl]; rfl
theorem xo_min {a b : Int32} (ho : xop y pc = some (.invokestatic 1002, n)) (hl : st.length ≤ 4) : xf y pc L (.int b :: .int a :: st) h = xf y n L (.int (if b < a then b else a) :: st) h := by
  have hk : xca (.invokestatic 1002) (.int b :: .int a :: st) h = none := by simp [xca]
  rw [xo_loc ho hk]; simp only [xloc]; rw [if_pos hl]; rfl
theorem xo_objinit {a : Nat} (ho : xop y pc = some (.invokespecial 1000, n)) (hl : st.length ≤ 4) : xf y pc L (.ref a :: st) h = xf y n L st h := by
  have hk : xca (.invokespecial 1000) (.ref a :: st) h = none := by simp [xca]
  rw [xo_loc ho hk]; simp only [xloc]; rw [if_pos ⟨trivial, hl⟩]; rfl
theorem xo_new {c : Nat} (ho : xop y pc = some (.new c, n)) (h9 : c < 100) (hn : h.2.1 ≠ 0) : xf y pc L st h = xf y n L (.ref h.2.1 :: st) (xnew h (.inr (c, xdef c)) (xN c)) := by
  rw [xo_loc ho rfl]; simp only [xloc]; rw [if_pos h9, if_pos hn]; rfl
theorem xo_throw {e : Nat} (ho : xop y pc = some (.new (100 + e), n)) (hl : st.length ≤ 4) : xf y pc L st h = some (.inr e, xdead h) := by
  rw [xo_loc ho rfl]; simp only [xloc]; rw [if_neg (by omega), if_pos hl, Nat.add_sub_cancel_left]; rfl
theorem xo_newi {i : Int32} {m : Nat} (ho : xop y pc = some (.newarray .int, n)) (hi : ¬ i < 0 ∧ i.toNatClampNeg = m ∧ m ≤ 1000) (hn : h.2.1 ≠ 0) : xf y pc L (.int i :: st) h = xf y n L (.ref h.2.1 :: st) (xnew h (.inl (0, m, .inl (fun _ => 0))) m) := by
  obtain ⟨h1, rfl, h3⟩ := hi
  rw [xo_loc ho rfl]; simp only [xloc]; rw [if_pos ⟨hn, h1, h3⟩]; rfl
theorem xo_newq {c : Nat} {i : Int32} {m : Nat} (ho : xop y pc = some (.anewarray c, n)) (hi : ¬ i < 0 ∧ i.toNatClampNeg = m ∧ m ≤ 1000) (hn : h.2.1 ≠ 0) : xf y pc L (.int i :: st) h = xf y n L (.ref h.2.1 :: st) (xnew h (.inl (2, m, .inr (.inr (.inr (.inr (fun _ => none)))))) m) := by
  obtain ⟨h1, rfl, h3⟩ := hi
  rw [xo_loc ho rfl]; simp only [xloc]; rw [if_pos ⟨hn, h1, h3⟩]; rfl
theorem xo_tswO {d lo hi : Int} {ts : Array Int} {a : Int32} {t' : Nat} (ho : xop y pc = some (.tableswitch d lo hi ts, n)) (ht : d.toNat = t') (hx : a.toInt < lo ∨ hi < a.toInt) : xf y pc L (.int a :: st) h = xf y t' L st h := by
  subst ht
  rw [xo_loc ho rfl]; simp only [xloc]; rw [if_pos hx]; rfl
theorem xo_tsw {d lo hi : Int} {ts : Array Int} {a : Int32} {t : Int} {t' : Nat} (ho : xop y pc = some (.tableswitch d lo hi ts, n)) (hx : ¬ (a.toInt < lo ∨ hi < a.toInt)) (h1 : ts[(a.toInt - lo).toNat]? = some t) (ht : t.toNat = t') : xf y pc L (.int a :: st) h = xf y t' L st h := by
  subst ht
  rw [xo_loc ho rfl]; simp only [xloc]; rw [if_neg hx]; simp only [h1]; rfl
theorem xo_ireturn {x : Int32} (ho : xop y pc = some (.ireturn, n)) (hr : xnr (xmr y) x = true) : xf y pc L [.int x] h = some (.inl (some (.int x)), h) := by
  rw [xo_loc ho rfl]; simp only [xloc]; rw [if_pos hr]; rfl
theorem xo_lreturn {x : Int64} (ho : xop y pc = some (.lreturn, n)) (hr : xmr y = some .long) : xf y pc L [.long x] h = some (.inl (some (.long x)), h) := by
  rw [xo_loc ho rfl]; simp only [xloc]; rw [if_pos hr]; rfl
theorem xo_dreturn {x : UInt64} (ho : xop y pc = some (.dreturn, n)) (hr : xmr y = some .double) : xf y pc L [.double x] h = some (.inl (some (.double x)), h) := by
  rw [xo_loc ho rfl]; simp only [xloc]; rw [if_pos hr]; rfl
theorem xo_return (ho : xop y pc = some (.return_, n)) (hr : xmr y = none) : xf y pc L [] h = some (.inl none, h) := by
  rw [xo_loc ho rfl]; simp only [xloc]; rw [if_pos hr]; rfl
/-- a call's result, on the way on -/
noncomputable def xgo (y pc n : Nat) (L : xL) (rest : List Value) (r : Option (xR × xH)) : Option (xR × xH) := xk y (xret false y pc n L rest r)
theorem xgo_some {y pc n : Nat} {L : xL} {rest : List Value} {v : Value} {h : xH} : xgo y pc n L rest (some (.inl (some v), h)) = xf y n L (v :: rest) h := rfl
theorem xgo_none {y pc n : Nat} {L : xL} {rest : List Value} {h : xH} : xgo y pc n L rest (some (.inl none, h)) = xf y n L rest h := rfl
theorem xgo_thr {y pc n hp k e : Nat} {L : xL} {rest : List Value} {h : xH} (hx : xhs y pc e (xmh y) = some (hp, k)) : xgo y pc n L rest (some (.inr e, h)) = xf y hp ((xs1 L k .null).set k none) [] h := by
  unfold xgo xret
  simp only [Bool.false_eq_true, if_false, hx]
  rfl
theorem xo_callV {z b c : Nat} {as rest : List Value} (ho : xop y pc = some (.invokevirtual z, n)) (hst : st = as.reverse ++ .ref b :: rest) (hk : xna z = as.length ∧ (xargs (.ref b :: as)).length ≤ xml z ∧ xmo z = c ∧ c < 999) (hb : (xob h b).1 = c) (hl : rest.length ≤ 4) : xf y pc L st h = xgo y pc n L rest (xev z (.ref b :: as) h) := by
  obtain ⟨hk, h2, rfl, h9⟩ := hk
  have hr : xrcv h b (xmo z) = true := by simp [xrcv, (xob_of hb h9).1]
  have hd : st.drop (xna z) = .ref b :: rest := by rw [hst, hk, ← List.length_reverse (as := as), List.drop_left]
  have ht : (st.take (xna z)).reverse = as := by rw [hst, hk, ← List.length_reverse (as := as), List.take_left, List.reverse_reverse]
  have hc : xca (.invokevirtual z) st h = some (z, .ref b :: as, rest) := by
    unfold xca
    simp only [hd, ht]
    rw [if_pos ⟨hr, hl, h2⟩]
  rw [xop_at ho]
  simp only [xstep, hc]
  rfl
theorem xo_callS {z : Nat} {as rest : List Value} (ho : xop y pc = some (.invokestatic z, n)) (hst : st = as.reverse ++ rest) (hk : xna z = as.length ∧ (xargs as).length ≤ xml z ∧ z < 1000) (hl : rest.length ≤ 4) : xf y pc L st h = xgo y pc n L rest (xev z as h) := by
  obtain ⟨hk, h2, h3⟩ := hk
  have hd : st.drop (xna z) = rest := by rw [hst, hk, ← List.length_reverse (as := as), List.drop_left]
  have ht : (st.take (xna z)).reverse = as := by rw [hst, hk, ← List.length_reverse (as := as), List.take_left, List.reverse_reverse]
  have hle : xna z ≤ st.length := by rw [hst, hk]; simp
  have hc : xca (.invokestatic z) st h = some (z, as, rest) := by
    unfold xca
    simp only [hd, ht]
    rw [if_pos ⟨h3, hl, hle, h2⟩]
  rw [xop_at ho]
  simp only [xstep, hc]
  rfl
noncomputable def xgoI (y pc n : Nat) (L : xL) (rest : List Value) (r : Option (xR × xH)) : Option (xR × xH) := xk y (xret true y pc n L rest r)
theorem xgoI_none {y pc n : Nat} {L : xL} {rest : List Value} {h : xH} : xgoI y pc n L rest (some (.inl none, h)) = xf y n L rest h := rfl
theorem xo_callI {z b : Nat} {as rest : List Value} (ho : xop y pc = some (.invokespecial z, n)) (hst : st = as.reverse ++ .ref b :: rest) (hk : xna z = as.length ∧ (xargs (.ref b :: as)).length ≤ xml z ∧ z < 1000) (hl : rest.length ≤ 4) : xf y pc L st h = xgoI y pc n L rest (xev z (.ref b :: as) h) := by
  obtain ⟨hk, h2, h3⟩ := hk
  have hd : st.drop (xna z) = .ref b :: rest := by rw [hst, hk, ← List.length_reverse (as := as), List.drop_left]
  have ht : (st.take (xna z)).reverse = as := by rw [hst, hk, ← List.length_reverse (as := as), List.take_left, List.reverse_reverse]
  have hc : xca (.invokespecial z) st h = some (z, .ref b :: as, rest) := by
    unfold xca
    simp only [hd, ht]
    rw [if_pos h3, if_pos ⟨hl, h2⟩]
  rw [xop_at ho]
  simp only [xstep, hc]
  rfl
theorem xi_ne {a b : Int32} (h : ¬ a = b) : a.toInt ≠ b.toInt := fun q => h (Int32.toInt_inj.mp q)
end OPS
