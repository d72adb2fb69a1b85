/-! A small machine: the instructions that occur, over a heap that is a function from addresses to cells; its runs are functions, so they can be reckoned with. That the real machine does the same is part 05. -/
abbrev xE : Type := (Nat × vp_A) ⊕ (Nat × List Value)
/-- the heap: its cells, the next address (0: not known any more), cells and slots made so far -/
abbrev xH : Type := (Nat → Option xE) × Nat × Nat × Nat
abbrev xL : Type := List (Option Value)
/-- returned, or thrown: the class's number -/
abbrev xR : Type := (Option Value) ⊕ Nat
abbrev xC : Type := Nat × xL × List Value × xH
def xup (h : xH) (a : Nat) (e : xE) : xH := (fun b => if b = a then some e else h.1 b, h.2)
def xnew (h : xH) (e : xE) (n : Nat) : xH := (fun b => if b = h.2.1 then some e else h.1 b, h.2.1 + 1, h.2.2.1 + 1, h.2.2.2 + n)
def xdead (h : xH) : xH := (h.1, 0, h.2.2.1 + 1, h.2.2.2 + 6)
/-- the pools' entries of the three exceptions' constructors in PairNames -/
def xic : Nat → Nat := fun e => match e with
  | 0 => 48
  | 1 => 69
  | _ => 98
def xtg (pc : Nat) (off : Int) : Option Int := if 0 ≤ (pc : Int) + off then some ((pc : Int) + off) else none
/-- an exception's making and throwing: the four instructions behind 'new' -/
def xthr (y pc e : Nat) : Bool := decide (xmo y = 7) && decide (e < 3) && decide (decode (xmb y) (pc + 3) = .ok (.dup, 1)) && (match decode (xmb y) (pc + 4) with
  | .ok (.ldc is, 2) => (match xpf 7 is with
    | some (11, _, _) => true
    | _ => false)
  | _ => false) && decide (decode (xmb y) (pc + 6) = .ok (.invokespecial (xic e), 3)) && decide (decode (xmb y) (pc + 9) = .ok (.athrow, 1)) && decide (xmh y = []) && decide (6 ≤ xmf y) && decide (90 ≤ xmc y)
/-- there is room for a call -/
def xrm (y z : Nat) : Bool := decide (xmf z + 1 ≤ xmf y) && decide (8 + (xml z + 11) + xmc z ≤ xmc y)
def xfin (y ci k : Nat) : Bool := (xT ci k).2.2.2 == false || ((xmy y).name == "<init>" && (xT ci k).1 == xcn (xmo y))
def xtr (y pc : Nat) (i : Instr) (len : Nat) : Option (Instr × Nat) := match i with
  | .iload_n k => if len = 1 then some (.iload k.val, pc + 1) else none
  | .iload k => if len = 2 then some (.iload k, pc + 2) else none
  | .aload_n k => if len = 1 then some (.aload k.val, pc + 1) else none
  | .aload k => if len = 2 then some (.aload k, pc + 2) else none
  | .lload_n k => if len = 1 then some (.lload k.val, pc + 1) else none
  | .lload k => if len = 2 then some (.lload k, pc + 2) else none
  | .dload_n k => if len = 1 then some (.dload k.val, pc + 1) else none
  | .dload k => if len = 2 then some (.dload k, pc + 2) else none
  | .istore_n k => if len = 1 then some (.istore k.val, pc + 1) else none
  | .istore k => if len = 2 then some (.istore k, pc + 2) else none
  | .astore_n k => if len = 1 then some (.astore k.val, pc + 1) else none
  | .astore k => if len = 2 then some (.astore k, pc + 2) else none
  | .lstore_n k => if len = 1 then some (.lstore k.val, pc + 1) else none
  | .lstore k => if len = 2 then some (.lstore k, pc + 2) else none
  | .dstore_n k => if len = 1 then some (.dstore k.val, pc + 1) else none
  | .dstore k => if len = 2 then some (.dstore k, pc + 2) else none
  | .iconst n => if len = 1 then some (.iconst n, pc + 1) else none
  | .bipush n => if len = 2 ∧ (Int8.ofInt n).toInt32 = Int32.ofInt n then some (.iconst n, pc + 2) else none
  | .sipush n => if len = 3 ∧ (Int16.ofInt n).toInt32 = Int32.ofInt n then some (.iconst n, pc + 3) else none
  | .lconst k => if len = 1 then some (.lconst k, pc + 1) else none
  | .dconst k => if len = 1 then some (.dconst k, pc + 1) else none
  | .ldc2_w i => if len = 3 then (match xpf (xmo y) i with
    | some (9, k, _) => some (.ldc2_w (2 * k), pc + 3)
    | some (10, k, _) => some (.ldc2_w (2 * k + 1), pc + 3)
    | _ => none) else none
  | .aconst_null => if len = 1 then some (.aconst_null, pc + 1) else none
  | .iadd => if len = 1 then some (.iadd, pc + 1) else none
  | .isub => if len = 1 then some (.isub, pc + 1) else none
  | .imul => if len = 1 then some (.imul, pc + 1) else none
  | .iand => if len = 1 then some (.iand, pc + 1) else none
  | .ior => if len = 1 then some (.ior, pc + 1) else none
  | .ixor => if len = 1 then some (.ixor, pc + 1) else none
  | .irem => if len = 1 then some (.irem, pc + 1) else none
  | .ishl => if len = 1 then some (.ishl, pc + 1) else none
  | .ishr => if len = 1 then some (.ishr, pc + 1) else none
  | .ldc i => if len = 2 then (match xpf (xmo y) i with
    | some (14, k, _) => some (.ldc k, pc + 2)
    | _ => none) else none
  | .ladd => if len = 1 then some (.ladd, pc + 1) else none
  | .lsub => if len = 1 then some (.lsub, pc + 1) else none
  | .lmul => if len = 1 then some (.lmul, pc + 1) else none
  | .lor => if len = 1 then some (.lor, pc + 1) else none
  | .lshl => if len = 1 then some (.lshl, pc + 1) else none
  | .lcmp => if len = 1 then some (.lcmp, pc + 1) else none
  | .dmul => if len = 1 then some (.dmul, pc + 1) else none
  | .dsub => if len = 1 then some (.dsub, pc + 1) else none
  | .ddiv => if len = 1 then some (.ddiv, pc + 1) else none
  | .dneg => if len = 1 then some (.dneg, pc + 1) else none
  | .dcmp o => if len = 1 then some (.dcmp o, pc + 1) else none
  | .i2l => if len = 1 then some (.i2l, pc + 1) else none
  | .i2d => if len = 1 then some (.i2d, pc + 1) else none
  | .l2d => if len = 1 then some (.l2d, pc + 1) else none
  | .d2l => if len = 1 then some (.d2l, pc + 1) else none
  | .dup => if len = 1 then some (.dup, pc + 1) else none
  | .dup2 => if len = 1 then some (.dup2, pc + 1) else none
  | .pop => if len = 1 then some (.pop, pc + 1) else none
  | .iinc k n => if len = 3 then some (.iinc k n, pc + 3) else none
  | .goto off => if len = 3 then (xtg pc off).map (fun t => (.goto t, pc + 3)) else none
  | .if_icmp c off => if len = 3 then (xtg pc off).map (fun t => (.if_icmp c t, pc + 3)) else none
  | .ifCond c off => if len = 3 then (xtg pc off).map (fun t => (.ifCond c t, pc + 3)) else none
  | .ifnull off => if len = 3 then (xtg pc off).map (fun t => (.ifnull t, pc + 3)) else none
  | .tableswitch d lo hi offs => if (0 ≤ (pc : Int) + d ∧ offs.all (fun o => decide (0 ≤ (pc : Int) + o)) = true) then some (.tableswitch (pc + d) lo hi (offs.map (fun o => pc + o)), pc) else none
  | .iaload => if len = 1 then some (.iaload, pc + 1) else none
  | .iastore => if len = 1 then some (.iastore, pc + 1) else none
  | .aaload => if len = 1 then some (.aaload, pc + 1) else none
  | .aastore => if len = 1 then some (.aastore, pc + 1) else none
  | .arraylength => if len = 1 then some (.arraylength, pc + 1) else none
  | .newarray t => if len = 2 then some (.newarray t, pc + 2) else none
  | .anewarray i => if len = 3 ∧ (xpf (xmo y) i = some (7, 6, 0)) then some (.anewarray 6, pc + 3) else none
  | .getfield i => if len = 3 then (match xpf (xmo y) i with
    | some (0, ci, k) => some (.getfield (64 * ci + k), pc + 3)
    | some (1, ci, k) => some (.getfield (64 * ci + k), pc + 3)
    | _ => none) else none
  | .putfield i => if len = 3 then (match xpf (xmo y) i with
    | some (0, ci, k) => if xfin y ci k = true then some (.putfield (64 * ci + k), pc + 3) else none
    | some (1, ci, k) => if (xT ci k).2.2.2 = false then some (.putfield (64 * ci + k), pc + 3) else none
    | _ => none) else none
  | .new i => if len = 3 then (match xpf (xmo y) i with
    | some (7, ci, _) => some (.new ci, pc + 3)
    | some (8, e, _) => if xthr y pc e = true then some (.new (100 + e), pc + 3) else none
    | _ => none) else none
  | .invokevirtual i => if len = 3 then (match xpf (xmo y) i with
    | some (2, z, _) => if xrm y z = true ∧ xmh z = [] ∧ z < 1000 then some (.invokevirtual z, pc + 3) else none
    | _ => none) else none
  | .invokestatic i => if len = 3 then (match xpf (xmo y) i with
    | some (3, z, _) => if xrm y z = true ∧ z < 1000 then some (.invokestatic z, pc + 3) else none
    | some (12, _, _) => if 1 ≤ xmf y ∧ 21 ≤ xmc y then some (.invokestatic 1001, pc + 3) else none
    | some (13, _, _) => if 1 ≤ xmf y ∧ 21 ≤ xmc y then some (.invokestatic 1002, pc + 3) else none
    | _ => none) else none
  | .invokespecial i => if len = 3 then (match xpf (xmo y) i with
    | some (4, z, _) => if xrm y z = true ∧ z < 1000 then some (.invokespecial z, pc + 3) else none
    | some (5, z, _) => if xrm y z = true ∧ z < 1000 then some (.invokespecial z, pc + 3) else none
    | some (6, _, _) => if 1 ≤ xmf y ∧ 20 ≤ xmc y then some (.invokespecial 1000, pc + 3) else none
    | _ => none) else none
  | .ireturn => if len = 1 then some (.ireturn, pc + 1) else none
  | .lreturn => if len = 1 then some (.lreturn, pc + 1) else none
  | .dreturn => if len = 1 then some (.dreturn, pc + 1) else none
  | .return_ => if len = 1 then some (.return_, pc + 1) else none
  | _ => none
/-- the instruction at a place, and the place behind it -/
def xop (y pc : Nat) : Option (Instr × Nat) := match decode (xmb y) pc with
  | .ok (i, len) => xtr y pc i len
  | _ => none
/-- the handler of a place: where it goes on behind its store of what was caught, and the local of that -/
def xhs (y pc e : Nat) : List (Nat × Nat × Nat × Nat) → Option (Nat × Nat)
  | [] => none
  | (s, t, hp, ct) :: r => if s ≤ pc ∧ pc < t then (if ct = 0 then none else (match xpf (xmo y) ct with
    | some (8, e', _) => if e' = e then (match decode (xmb y) hp with
      | .ok (.astore_n k, 1) => if k.val < xml y then some (hp + 1, k.val) else none
      | .ok (.astore k, 2) => if k < xml y then some (hp + 2, k) else none
      | _ => none) else xhs y pc e r
    | _ => none)) else xhs y pc e r
def xrcv (h : xH) (b c : Nat) : Bool := match h.1 b with
  | some (.inr (d, _)) => d == c
  | _ => false
def xcat (v : Option Value) : Option Value := match v with
  | some w => if w.category = 2 then none else some w
  | none => none
/-- storing a value of one slot, of two -/
def xs1 : xL → Nat → Value → xL
  | [], _, _ => []
  | _ :: r, 0, v => some v :: r
  | [_], _ + 1, _ => [none]
  | a :: _ :: r, 1, v => xcat a :: some v :: r
  | a :: b :: r, k + 2, v => a :: xs1 (b :: r) (k + 1) v
def xs2 : xL → Nat → Value → xL
  | [], _, _ => []
  | [_], _, _ => [none]
  | _ :: _ :: r, 0, v => some v :: none :: r
  | [_, _], _ + 1, _ => [none, none]
  | a :: _ :: _ :: r, 1, v => xcat a :: some v :: none :: r
  | a :: b :: c :: r, k + 2, v => a :: xs2 (b :: c :: r) (k + 1) v
def xnx (n : Nat) (L : xL) (st : List Value) (h : xH) : Option (xC ⊕ (xR × xH)) := some (.inl (n, L, st, h))
def xfit (ty : FieldType) (v : Value) : Bool := match ty, v with
  | .int, .int _ => true
  | .boolean, .int x => x == 0 || x == 1
  | .long, .long _ => true
  | .object _, .ref _ => true
  | .array _, .ref _ => true
  | _, _ => false
def xnr (ty : Option FieldType) (x : Int32) : Bool := match ty with
  | some .int => true
  | some .boolean => x == 0 || x == 1
  | _ => false
def xbr {α : Type} (c : Bool) (a b : α) : α := if c = true then a else b
def xcmp (c : ClassFile.Cond) (a b : Int32) : Bool := match c with
  | .eq => decide (a = b)
  | .ne => decide (a ≠ b)
  | .lt => decide (a < b)
  | .ge => decide (b ≤ a)
  | .gt => decide (b < a)
  | .le => decide (a ≤ b)
def xdef (ci : Nat) : List Value := (List.range (xN ci)).map (fun j => defaultValue (xty ci j))
def xargs : List Value → xL
  | [] => []
  | v :: vs => if v.category = 2 then some v :: none :: xargs vs else some v :: xargs vs
/-- a call: the method, its arguments, what stays on the stack -/
def xca (o : Instr) (st : List Value) (h : xH) : Option (Nat × List Value × List Value) := match o with
  | .invokevirtual z => (match st.drop (xna z) with
    | .ref b :: rest => if xrcv h b (xmo z) = true ∧ rest.length ≤ 4 ∧ (xargs (.ref b :: (st.take (xna z)).reverse)).length ≤ xml z then some (z, .ref b :: (st.take (xna z)).reverse, rest) else none
    | _ => none)
  | .invokestatic z => if z < 1000 ∧ (st.drop (xna z)).length ≤ 4 ∧ xna z ≤ st.length ∧ (xargs (st.take (xna z)).reverse).length ≤ xml z then some (z, (st.take (xna z)).reverse, st.drop (xna z)) else none
  | .invokespecial z => if z < 1000 then (match st.drop (xna z) with
    | .ref b :: rest => if rest.length ≤ 4 ∧ (xargs (.ref b :: (st.take (xna z)).reverse)).length ≤ xml z then some (z, .ref b :: (st.take (xna z)).reverse, rest) else none
    | _ => none) else none
  | _ => none
def xsp (i : Instr) : Bool := match i with
  | .invokespecial _ => true
  | _ => false
def xret (sp : Bool) (y pc n : Nat) (L : xL) (rest : List Value) (r : Option (xR × xH)) : Option (xC ⊕ (xR × xH)) := match r with
  | some (.inl (some v), h) => xnx n L (v :: rest) h
  | some (.inl none, h) => xnx n L rest h
  | some (.inr e, h) => (match (if sp = true then none else xhs y pc e (xmh y)) with
    | some (hp, k) => xnx hp ((xs1 L k .null).set k none) [] h
    | none => none)
  | none => none
/-- no NaN -/
def xnn (x : UInt64) : Bool := decide (x &&& 0x7fffffffffffffff ≤ 0x7ff0000000000000)
/-- the step of an instruction that calls nothing -/
def xloc (y : Nat) (i : Instr) (n : Nat) (L : xL) (st : List Value) (h : xH) : Option (xC ⊕ (xR × xH)) := match i with
  | .iload k => (match L[k]? with
    | some (some (.int x)) => xnx n L (.int x :: st) h
    | _ => none)
  | .aload k => (match L[k]? with
    | some (some (.ref x)) => xnx n L (.ref x :: st) h
    | some (some .null) => xnx n L (.null :: st) h
    | _ => none)
  | .lload k => (match L[k]? with
    | some (some (.long x)) => xnx n L (.long x :: st) h
    | _ => none)
  | .dload k => (match L[k]? with
    | some (some (.double x)) => xnx n L (.double x :: st) h
    | _ => none)
  | .istore k => (match st with
    | .int x :: st => if k < L.length then xnx n (xs1 L k (.int x)) st h else none
    | _ => none)
  | .astore k => (match st with
    | .ref x :: st => if k < L.length then xnx n (xs1 L k (.ref x)) st h else none
    | .null :: st => if k < L.length then xnx n (xs1 L k .null) st h else none
    | _ => none)
  | .lstore k => (match st with
    | .long x :: st => if k + 1 < L.length then xnx n (xs2 L k (.long x)) st h else none
    | _ => none)
  | .dstore k => (match st with
    | .double x :: st => if k + 1 < L.length then xnx n (xs2 L k (.double x)) st h else none
    | _ => none)
  | .iconst k => xnx n L (.int (Int32.ofInt k) :: st) h
  | .lconst k => xnx n L (.long (Int64.ofNat k.val) :: st) h
  | .dconst k => xnx n L (.double (if k = 0 then FP.dconst0 else FP.dconst1) :: st) h
  | .ldc2_w k => if k % 2 = 0 then xnx n L (.long ((xls[k / 2]?).getD 0) :: st) h else xnx n L (.double ((xds[k / 2]?).getD 0) :: st) h
  | .aconst_null => xnx n L (.null :: st) h
  | .iadd => (match st with
    | .int b :: .int a :: st => xnx n L (.int (a + b) :: st) h
    | _ => none)
  | .isub => (match st with
    | .int b :: .int a :: st => xnx n L (.int (a - b) :: st) h
    | _ => none)
  | .imul => (match st with
    | .int b :: .int a :: st => xnx n L (.int (a * b) :: st) h
    | _ => none)
  | .iand => (match st with
    | .int b :: .int a :: st => xnx n L (.int (a &&& b) :: st) h
    | _ => none)
  | .ior => (match st with
    | .int b :: .int a :: st => xnx n L (.int (a ||| b) :: st) h
    | _ => none)
  | .ixor => (match st with
    | .int b :: .int a :: st => xnx n L (.int (a ^^^ b) :: st) h
    | _ => none)
  | .ishl => (match st with
    | .int b :: .int a :: st => xnx n L (.int (a <<< (b &&& 31)) :: st) h
    | _ => none)
  | .ishr => (match st with
    | .int b :: .int a :: st => xnx n L (.int (a >>> (b &&& 31)) :: st) h
    | _ => none)
  | .irem => (match st with
    | .int b :: .int a :: st => if ¬ b = 0 then xnx n L (.int (a - a / b * b) :: st) h else none
    | _ => none)
  | .ldc k => xnx n L (.int ((xis[k]?).getD 0) :: st) h
  | .ladd => (match st with
    | .long b :: .long a :: st => xnx n L (.long (a + b) :: st) h
    | _ => none)
  | .lsub => (match st with
    | .long b :: .long a :: st => xnx n L (.long (a - b) :: st) h
    | _ => none)
  | .lmul => (match st with
    | .long b :: .long a :: st => xnx n L (.long (a * b) :: st) h
    | _ => none)
  | .lor => (match st with
    | .long b :: .long a :: st => xnx n L (.long (a ||| b) :: st) h
    | _ => none)
  | .lshl => (match st with
    | .int b :: .long a :: st => xnx n L (.long (a <<< (b.toInt64 &&& 63)) :: st) h
    | _ => none)
  | .lcmp => (match st with
    | .long b :: .long a :: st => xnx n L (.int (lg_cmp a b) :: st) h
    | _ => none)
  | .dmul => (match st with
    | .double b :: .double a :: st => if xnn (FP.dmul a b) = true then xnx n L (.double (FP.dmul a b) :: st) h else none
    | _ => none)
  | .dsub => (match st with
    | .double b :: .double a :: st => if xnn (FP.dsub a b) = true then xnx n L (.double (FP.dsub a b) :: st) h else none
    | _ => none)
  | .ddiv => (match st with
    | .double b :: .double a :: st => if xnn (FP.ddiv a b) = true then xnx n L (.double (FP.ddiv a b) :: st) h else none
    | _ => none)
  | .dneg => (match st with
    | .double a :: st => xnx n L (.double (FP.dneg a) :: st) h
    | _ => none)
  | .dcmp o => (match st with
    | .double b :: .double a :: st => xnx n L (.int (Op.cmpValue (FP.dcmp a b) o) :: st) h
    | _ => none)
  | .i2l => (match st with
    | .int a :: st => xnx n L (.long a.toInt64 :: st) h
    | _ => none)
  | .i2d => (match st with
    | .int a :: st => xnx n L (.double (FP.i2d a) :: st) h
    | _ => none)
  | .l2d => (match st with
    | .long a :: st => xnx n L (.double (FP.l2d a) :: st) h
    | _ => none)
  | .d2l => (match st with
    | .double a :: st => xnx n L (.long (FP.d2l a) :: st) h
    | _ => none)
  | .dup => (match st with
    | a :: st => if a.category = 1 then xnx n L (a :: a :: st) h else none
    | _ => none)
  | .dup2 => (match st with
    | a :: b :: st => if a.category = 1 ∧ b.category = 1 then xnx n L (a :: b :: a :: b :: st) h else none
    | _ => none)
  | .pop => (match st with
    | a :: st => if a.category = 1 then xnx n L st h else none
    | _ => none)
  | .iinc k c => (match L[k]? with
    | some (some (.int x)) => xnx n (xs1 L k (.int (x + Int32.ofInt c))) st h
    | _ => none)
  | .goto t => xnx t.toNat L st h
  | .if_icmp c t => (match st with
    | .int b :: .int a :: st => xbr (xcmp c a b) (xnx t.toNat L st h) (xnx n L st h)
    | _ => none)
  | .ifCond c t => (match st with
    | .int a :: st => xbr (xcmp c a 0) (xnx t.toNat L st h) (xnx n L st h)
    | _ => none)
  | .ifnull t => (match st with
    | .null :: st => xnx t.toNat L st h
    | .ref _ :: st => xnx n L st h
    | _ => none)
  | .tableswitch d lo hi ts => (match st with
    | .int a :: st => if a.toInt < lo ∨ hi < a.toInt then xnx d.toNat L st h else (match ts[(a.toInt - lo).toNat]? with
      | some t => xnx t.toNat L st h
      | none => none)
    | _ => none)
  | .iaload => (match st with
    | .int i :: .ref a :: st => (match h.1 a with
      | some (.inl (k, m, .inl f)) => if (k = 0 ∨ k = 3) ∧ ¬ i < 0 ∧ i.toNatClampNeg < m then xnx n L (.int (f i.toNatClampNeg) :: st) h else none
      | _ => none)
    | _ => none)
  | .aaload => (match st with
    | .int i :: .ref a :: st => (match h.1 a with
      | some (.inl (2, m, .inr (.inr (.inr (.inr f))))) => if ¬ i < 0 ∧ i.toNatClampNeg < m then xnx n L (va_rf (f i.toNatClampNeg) :: st) h else none
      | _ => none)
    | _ => none)
  | .iastore => (match st with
    | .int v :: .int i :: .ref a :: st => (match h.1 a with
      | some (.inl (0, m, .inl f)) => if ¬ i < 0 ∧ i.toNatClampNeg < m then xnx n L st (xup h a (.inl (0, m, .inl (va_up f i.toNatClampNeg v)))) else none
      | _ => none)
    | _ => none)
  | .aastore => (match st with
    | .ref v :: .int i :: .ref a :: st => (match h.1 a with
      | some (.inl (2, m, .inr (.inr (.inr (.inr f))))) => if xrcv h v 6 = true ∧ ¬ i < 0 ∧ i.toNatClampNeg < m then xnx n L st (xup h a (.inl (2, m, .inr (.inr (.inr (.inr (va_up f i.toNatClampNeg (some v)))))))) else none
      | _ => none)
    | _ => none)
  | .arraylength => (match st with
    | .ref a :: st => (match h.1 a with
      | some (.inl (_, m, _)) => xnx n L (.int (Int32.ofNat m) :: st) h
      | _ => none)
    | _ => none)
  | .newarray t => (match st with
    | .int i :: st => if h.2.1 ≠ 0 ∧ ¬ i < 0 ∧ i.toNatClampNeg ≤ 1000 then (match t with
      | .int => xnx n L (.ref h.2.1 :: st) (xnew h (.inl (0, i.toNatClampNeg, .inl (fun _ => 0))) i.toNatClampNeg)
      | _ => none) else none
    | _ => none)
  | .anewarray _ => (match st with
    | .int i :: st => if h.2.1 ≠ 0 ∧ ¬ i < 0 ∧ i.toNatClampNeg ≤ 1000 then xnx n L (.ref h.2.1 :: st) (xnew h (.inl (2, i.toNatClampNeg, .inr (.inr (.inr (.inr (fun _ => none)))))) i.toNatClampNeg) else none
    | _ => none)
  | .getfield r => (match st with
    | .ref a :: st => (match h.1 a with
      | some (.inr (c, fs)) => if c = r / 64 then (match fs[r % 64]? with
        | some v => xnx n L (v :: st) h
        | none => none) else none
      | _ => none)
    | _ => none)
  | .putfield r => (match st with
    | v :: .ref a :: st => (match h.1 a with
      | some (.inr (c, fs)) => if c = r / 64 ∧ r % 64 < fs.length ∧ xfit (xty (r / 64) (r % 64)) v = true then xnx n L st (xup h a (.inr (c, fs.set (r % 64) v))) else none
      | _ => none)
    | _ => none)
  | .new c => if c < 100 then (if h.2.1 ≠ 0 then xnx n L (.ref h.2.1 :: st) (xnew h (.inr (c, xdef c)) (xN c)) else none) else (if st.length ≤ 4 then some (.inr (.inr (c - 100), xdead h)) else none)
  | .invokestatic z => (match st with
    | .int b :: .int a :: st => if st.length ≤ 4 then (if z = 1001 then xnx n L (.int (if a < b then b else a) :: st) h else if z = 1002 then xnx n L (.int (if b < a then b else a) :: st) h else none) else none
    | _ => none)
  | .invokespecial z => (match st with
    | .ref _ :: st => if z = 1000 ∧ st.length ≤ 4 then xnx n L st h else none
    | _ => none)
  | .ireturn => (match st with
    | [.int x] => if xnr (xmr y) x = true then some (.inr (.inl (some (.int x)), h)) else none
    | _ => none)
  | .lreturn => (match st with
    | [.long x] => if xmr y = some .long then some (.inr (.inl (some (.long x)), h)) else none
    | _ => none)
  | .dreturn => (match st with
    | [.double x] => if xmr y = some .double then some (.inr (.inl (some (.double x)), h)) else none
    | _ => none)
  | .return_ => (match st with
    | [] => if xmr y = none then some (.inr (.inl none, h)) else none
    | _ => none)
  | _ => none
abbrev xCall : Type := Nat → List Value → xH → Option (xR × xH)
def xstep (call : xCall) (y : Nat) (o : Option (Instr × Nat)) (pc : Nat) (L : xL) (st : List Value) (h : xH) : Option (xC ⊕ (xR × xH)) := match o with
  | none => none
  | some (i, n) => (match xca i st h with
    | some (z, a, rest) => xret (xsp i) y pc n L rest (call z a h)
    | none => xloc y i n L st h)
/-- the locals at a method's entry -/
def xent (z : Nat) (a : List Value) : xL := xargs a ++ List.replicate (xml z - (xargs a).length) none
def xrun : Nat → Nat → Nat → xL → List Value → xH → Option (xR × xH)
  | 0, _, _, _, _, _ => none
  | k + 1, y, pc, L, st, h => (match xstep (fun z a h => xrun k z 0 (xent z a) [] h) y (xop y pc) pc L st h with
    | some (.inl (pc', L', st', h')) => xrun k y pc' L' st' h'
    | some (.inr r) => some r
    | none => none)
def xRuns (y pc : Nat) (L : xL) (st : List Value) (h : xH) (r : xR × xH) : Prop := ∃ k : Nat, xrun k y pc L st h = some r
/-- what a run from here comes to -/
noncomputable def xf (y pc : Nat) (L : xL) (st : List Value) (h : xH) : Option (xR × xH) := @dite _ (∃ r, xRuns y pc L st h r) (Classical.propDecidable _) (fun p => some (Classical.choose p)) (fun _ => none)
/-- what a call comes to -/
noncomputable def xev (z : Nat) (a : List Value) (h : xH) : Option (xR × xH) := xf z 0 (xent z a) [] h
noncomputable def xk (y : Nat) (c : Option (xC ⊕ (xR × xH))) : Option (xR × xH) := match c with
  | some (.inl (pc, L, st, h)) => xf y pc L st h
  | some (.inr r) => some r
  | none => none
theorem xstep_mono {c1 c2 : xCall} (hc : ∀ z a h r, c1 z a h = some r → c2 z a h = some r) {y : Nat} {o : Option (Instr × Nat)} {pc : Nat} {L : xL} {st : List Value} {h : xH} {r : xC ⊕ (xR × xH)} (hs : xstep c1 y o pc L st h = some r) : xstep c2 y o pc L st h = some r := by
  cases o with
  | none => exact hs
  | some q =>
    obtain ⟨i, n⟩ := q
    unfold xstep at hs ⊢
    cases ha : xca i st h with
    | none => simp only [ha] at hs ⊢; exact hs
    | some w =>
      obtain ⟨z, a, rest⟩ := w
      simp only [ha] at hs ⊢
      cases hz : c1 z a h with
      | none => rw [hz] at hs; simp [xret] at hs
      | some v => rw [hz] at hs; rw [hc _ _ _ _ hz]; exact hs
theorem xrun_succ : ∀ (k y pc : Nat) (L : xL) (st : List Value) (h : xH) (r : xR × xH), xrun k y pc L st h = some r → xrun (k + 1) y pc L st h = some r := by
  intro k
  induction k with
  | zero => intro y pc L st h r hr; simp [xrun] at hr
  | succ k ih =>
    intro y pc L st h r hr
    rw [xrun] at hr ⊢
    cases hs : xstep (fun z a h => xrun k z 0 (xent z a) [] h) y (xop y pc) pc L st h with
    | none => simp [hs] at hr
    | some q =>
      rw [xstep_mono (c2 := fun z a h => xrun (k + 1) z 0 (xent z a) [] h) (fun z a h r hr => ih _ _ _ _ _ _ hr) hs]
      rw [hs] at hr
      cases q with
      | inl c => obtain ⟨pc', L', st', h'⟩ := c; exact ih _ _ _ _ _ _ hr
      | inr r' => exact hr
theorem xrun_le {k m y pc : Nat} {L : xL} {st : List Value} {h : xH} {r : xR × xH} (hkm : k ≤ m) (hr : xrun k y pc L st h = some r) : xrun m y pc L st h = some r := by
  induction m with
  | zero => rw [Nat.le_zero.mp hkm] at hr; exact hr
  | succ m ih =>
    by_cases hk : k = m + 1
    · rw [← hk]; exact hr
    · exact xrun_succ _ _ _ _ _ _ _ (ih (by omega))
theorem xRuns_det {y pc : Nat} {L : xL} {st : List Value} {h : xH} {r r' : xR × xH} (h1 : xRuns y pc L st h r) (h2 : xRuns y pc L st h r') : r = r' := by
  obtain ⟨k, hk⟩ := h1
  obtain ⟨m, hm⟩ := h2
  have a := xrun_le (Nat.le_max_left k m) hk
  have b := xrun_le (Nat.le_max_right k m) hm
  exact Option.some.inj (a.symm.trans b)
theorem xf_of {y pc : Nat} {L : xL} {st : List Value} {h : xH} {r : xR × xH} (h1 : xRuns y pc L st h r) : xf y pc L st h = some r := by
  unfold xf
  have hx : ∃ r, xRuns y pc L st h r := ⟨r, h1⟩
  rw [dif_pos hx]
  exact congrArg some (xRuns_det (Classical.choose_spec hx) h1)
theorem xf_runs {y pc : Nat} {L : xL} {st : List Value} {h : xH} {r : xR × xH} (h1 : xf y pc L st h = some r) : xRuns y pc L st h r := by
  unfold xf at h1
  by_cases hx : ∃ r, xRuns y pc L st h r
  · rw [dif_pos hx] at h1
    have := Classical.choose_spec hx
    rw [Option.some.inj h1] at this
    exact this
  · rw [dif_neg hx] at h1
    cases h1
/-- THE STEP -/
theorem xf_step (y pc : Nat) (L : xL) (st : List Value) (h : xH) : xf y pc L st h = xk y (xstep xev y (xop y pc) pc L st h) := by
  have fwd : ∀ r, xRuns y pc L st h r → xk y (xstep xev y (xop y pc) pc L st h) = some r := by
    intro r ⟨k, hk⟩
    cases k with
    | zero => simp [xrun] at hk
    | succ k =>
      rw [xrun] at hk
      cases hs : xstep (fun z a h => xrun k z 0 (xent z a) [] h) y (xop y pc) pc L st h with
      | none => simp [hs] at hk
      | some q =>
        rw [xstep_mono (c2 := xev) (fun z a h r hr => xf_of ⟨k, hr⟩) hs]
        rw [hs] at hk
        cases q with
        | inl c => obtain ⟨pc', L', st', h'⟩ := c; exact xf_of ⟨k, hk⟩
        | inr r' => exact hk
  have bwd : ∀ r, xk y (xstep xev y (xop y pc) pc L st h) = some r → xRuns y pc L st h r := by
    intro r hr
    have key : ∀ q, xstep xev y (xop y pc) pc L st h = some q → ∃ k, xstep (fun z a h => xrun k z 0 (xent z a) [] h) y (xop y pc) pc L st h = some q := by
      intro q hq
      cases ho : xop y pc with
      | none => rw [ho] at hq; simp [xstep] at hq
      | some w =>
        obtain ⟨i, n⟩ := w
        rw [ho] at hq
        unfold xstep at hq ⊢
        cases ha : xca i st h with
        | none => simp only [ha] at hq ⊢; exact ⟨0, hq⟩
        | some w =>
          obtain ⟨z, a, rest⟩ := w
          simp only [ha] at hq ⊢
          cases hz : xev z a h with
          | none => rw [hz] at hq; simp [xret] at hq
          | some v =>
            obtain ⟨k, hk⟩ := xf_runs hz
            exact ⟨k, by rw [hk]; rw [hz] at hq; exact hq⟩
    cases hs : xstep xev y (xop y pc) pc L st h with
    | none => simp [hs, xk] at hr
    | some q =>
      obtain ⟨k, hk⟩ := key q hs
      rw [hs] at hr
      cases q with
      | inl c =>
        obtain ⟨pc', L', st', h'⟩ := c
        obtain ⟨m, hm⟩ := xf_runs (show xf y pc' L' st' h' = some r from hr)
        refine ⟨max k m + 1, ?_⟩
        rw [xrun, xstep_mono (c2 := fun z a h => xrun (max k m) z 0 (xent z a) [] h) (fun z a h r hr => xrun_le (Nat.le_max_left k m) hr) hk]
        exact xrun_le (Nat.le_max_right k m) hm
      | inr r' =>
        refine ⟨k + 1, ?_⟩
        rw [xrun, hk]
        exact hr
  cases hx : xf y pc L st h with
  | some r => exact (fwd r (xf_runs hx)).symm
  | none =>
    cases hy : xk y (xstep xev y (xop y pc) pc L st h) with
    | none => rfl
    | some r => rw [xf_of (bwd r hy)] at hx; cases hx
/-- the cells and slots made only grow -/
theorem xop_at {y pc : Nat} {o : Instr × Nat} (ho : xop y pc = some o) (L : xL) (st : List Value) (h : xH) : xf y pc L st h = xk y (xstep xev y (some o) pc L st h) := by
  rw [xf_step, ho]
