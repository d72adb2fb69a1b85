/-! Instructions as equations: written by gen_u.py. -/
set_option maxRecDepth 20000 in
theorem u_X8_init_0 (x : Nat) (st : List Value) (h : xH) : xf 97 0 [some (.ref x)] st h = xf 97 1 [some (.ref x)] (.ref x :: st) h := xo_aload (k := 0) (by decide +kernel) rfl
set_option maxRecDepth 20000 in
theorem u_X8_init_1 (L : xL) (a : Nat) (st : List Value) (h : xH) (hl : st.length ≤ 4) : xf 97 1 L (.ref a :: st) h = xf 97 4 L st h := xo_objinit (by decide +kernel) hl
set_option maxRecDepth 20000 in
theorem u_X8_init_4 (x : Nat) (st : List Value) (h : xH) : xf 97 4 [some (.ref x)] st h = xf 97 5 [some (.ref x)] (.ref x :: st) h := xo_aload (k := 0) (by decide +kernel) rfl
set_option maxRecDepth 20000 in
theorem u_X8_init_5 (L : xL) (st : List Value) (h : xH) : xf 97 5 L st h = xf 97 7 L (.int 117 :: st) h := xo_iconst (k := 117) (by decide +kernel) (by decide)
set_option maxRecDepth 20000 in
theorem u_X8_init_7 (L : xL) (i : Int32) (m : Nat) (st : List Value) (h : xH) (hi : ¬ i < 0 ∧ i.toNatClampNeg = m ∧ m ≤ 1000) (hn : h.2.1 ≠ 0) : xf 97 7 L (.int i :: st) h = xf 97 9 L (.ref h.2.1 :: st) (xnew h (.inl (0, m, .inl (fun _ => 0))) m) := xo_newi (by decide +kernel) hi hn
set_option maxRecDepth 20000 in
theorem u_X8_init_9 (L : xL) (v : Nat) (a : Nat) (st : List Value) (h : xH) (hc : (xob h a).1 = 8) : xf 97 9 L (.ref v :: .ref a :: st) h = xf 97 12 L st (xso h a 1 (.ref v)) := xo_putf (r := 513) (by decide +kernel) (by decide) rfl hc
set_option maxRecDepth 20000 in
theorem u_X8_init_12 (x : Nat) (st : List Value) (h : xH) : xf 97 12 [some (.ref x)] st h = xf 97 13 [some (.ref x)] (.ref x :: st) h := xo_aload (k := 0) (by decide +kernel) rfl
set_option maxRecDepth 20000 in
theorem u_X8_init_13 (L : xL) (st : List Value) (h : xH) : xf 97 13 L st h = xf 97 15 L (.int 117 :: st) h := xo_iconst (k := 117) (by decide +kernel) (by decide)
set_option maxRecDepth 20000 in
theorem u_X8_init_15 (L : xL) (i : Int32) (m : Nat) (st : List Value) (h : xH) (hi : ¬ i < 0 ∧ i.toNatClampNeg = m ∧ m ≤ 1000) (hn : h.2.1 ≠ 0) : xf 97 15 L (.int i :: st) h = xf 97 17 L (.ref h.2.1 :: st) (xnew h (.inl (0, m, .inl (fun _ => 0))) m) := xo_newi (by decide +kernel) hi hn
set_option maxRecDepth 20000 in
theorem u_X8_init_17 (L : xL) (v : Nat) (a : Nat) (st : List Value) (h : xH) (hc : (xob h a).1 = 8) : xf 97 17 L (.ref v :: .ref a :: st) h = xf 97 20 L st (xso h a 2 (.ref v)) := xo_putf (r := 514) (by decide +kernel) (by decide) rfl hc
set_option maxRecDepth 20000 in
theorem u_X8_init_20 (x : Nat) (st : List Value) (h : xH) : xf 97 20 [some (.ref x)] st h = xf 97 21 [some (.ref x)] (.ref x :: st) h := xo_aload (k := 0) (by decide +kernel) rfl
set_option maxRecDepth 20000 in
theorem u_X8_init_21 (L : xL) (st : List Value) (h : xH) : xf 97 21 L st h = xf 97 24 L (.int 702 :: st) h := xo_iconst (k := 702) (by decide +kernel) (by decide)
set_option maxRecDepth 20000 in
theorem u_X8_init_24 (L : xL) (i : Int32) (m : Nat) (st : List Value) (h : xH) (hi : ¬ i < 0 ∧ i.toNatClampNeg = m ∧ m ≤ 1000) (hn : h.2.1 ≠ 0) : xf 97 24 L (.int i :: st) h = xf 97 26 L (.ref h.2.1 :: st) (xnew h (.inl (0, m, .inl (fun _ => 0))) m) := xo_newi (by decide +kernel) hi hn
set_option maxRecDepth 20000 in
theorem u_X8_init_26 (L : xL) (v : Nat) (a : Nat) (st : List Value) (h : xH) (hc : (xob h a).1 = 8) : xf 97 26 L (.ref v :: .ref a :: st) h = xf 97 29 L st (xso h a 3 (.ref v)) := xo_putf (r := 515) (by decide +kernel) (by decide) rfl hc
set_option maxRecDepth 20000 in
theorem u_X8_init_29 (x : Nat) (st : List Value) (h : xH) : xf 97 29 [some (.ref x)] st h = xf 97 30 [some (.ref x)] (.ref x :: st) h := xo_aload (k := 0) (by decide +kernel) rfl
set_option maxRecDepth 20000 in
theorem u_X8_init_30 (L : xL) (st : List Value) (h : xH) : xf 97 30 L st h = xf 97 32 L (.int 60 :: st) h := xo_iconst (k := 60) (by decide +kernel) (by decide)
set_option maxRecDepth 20000 in
theorem u_X8_init_32 (L : xL) (i : Int32) (m : Nat) (st : List Value) (h : xH) (hi : ¬ i < 0 ∧ i.toNatClampNeg = m ∧ m ≤ 1000) (hn : h.2.1 ≠ 0) : xf 97 32 L (.int i :: st) h = xf 97 34 L (.ref h.2.1 :: st) (xnew h (.inl (0, m, .inl (fun _ => 0))) m) := xo_newi (by decide +kernel) hi hn
set_option maxRecDepth 20000 in
theorem u_X8_init_34 (L : xL) (v : Nat) (a : Nat) (st : List Value) (h : xH) (hc : (xob h a).1 = 8) : xf 97 34 L (.ref v :: .ref a :: st) h = xf 97 37 L st (xso h a 5 (.ref v)) := xo_putf (r := 517) (by decide +kernel) (by decide) rfl hc
set_option maxRecDepth 20000 in
theorem u_X8_init_37 (x : Nat) (st : List Value) (h : xH) : xf 97 37 [some (.ref x)] st h = xf 97 38 [some (.ref x)] (.ref x :: st) h := xo_aload (k := 0) (by decide +kernel) rfl
set_option maxRecDepth 20000 in
theorem u_X8_init_38 (L : xL) (st : List Value) (h : xH) : xf 97 38 L st h = xf 97 40 L (.int 24 :: st) h := xo_iconst (k := 24) (by decide +kernel) (by decide)
set_option maxRecDepth 20000 in
theorem u_X8_init_40 (L : xL) (i : Int32) (m : Nat) (st : List Value) (h : xH) (hi : ¬ i < 0 ∧ i.toNatClampNeg = m ∧ m ≤ 1000) (hn : h.2.1 ≠ 0) : xf 97 40 L (.int i :: st) h = xf 97 42 L (.ref h.2.1 :: st) (xnew h (.inl (0, m, .inl (fun _ => 0))) m) := xo_newi (by decide +kernel) hi hn
set_option maxRecDepth 20000 in
theorem u_X8_init_42 (L : xL) (v : Nat) (a : Nat) (st : List Value) (h : xH) (hc : (xob h a).1 = 8) : xf 97 42 L (.ref v :: .ref a :: st) h = xf 97 45 L st (xso h a 7 (.ref v)) := xo_putf (r := 519) (by decide +kernel) (by decide) rfl hc
set_option maxRecDepth 20000 in
theorem u_X8_init_45 (x : Nat) (st : List Value) (h : xH) : xf 97 45 [some (.ref x)] st h = xf 97 46 [some (.ref x)] (.ref x :: st) h := xo_aload (k := 0) (by decide +kernel) rfl
set_option maxRecDepth 20000 in
theorem u_X8_init_46 (L : xL) (st : List Value) (h : xH) : xf 97 46 L st h = xf 97 48 L (.int 24 :: st) h := xo_iconst (k := 24) (by decide +kernel) (by decide)
set_option maxRecDepth 20000 in
theorem u_X8_init_48 (L : xL) (i : Int32) (m : Nat) (st : List Value) (h : xH) (hi : ¬ i < 0 ∧ i.toNatClampNeg = m ∧ m ≤ 1000) (hn : h.2.1 ≠ 0) : xf 97 48 L (.int i :: st) h = xf 97 50 L (.ref h.2.1 :: st) (xnew h (.inl (0, m, .inl (fun _ => 0))) m) := xo_newi (by decide +kernel) hi hn
set_option maxRecDepth 20000 in
theorem u_X8_init_50 (L : xL) (v : Nat) (a : Nat) (st : List Value) (h : xH) (hc : (xob h a).1 = 8) : xf 97 50 L (.ref v :: .ref a :: st) h = xf 97 53 L st (xso h a 8 (.ref v)) := xo_putf (r := 520) (by decide +kernel) (by decide) rfl hc
set_option maxRecDepth 20000 in
theorem u_X8_init_53 (x : Nat) (st : List Value) (h : xH) : xf 97 53 [some (.ref x)] st h = xf 97 54 [some (.ref x)] (.ref x :: st) h := xo_aload (k := 0) (by decide +kernel) rfl
set_option maxRecDepth 20000 in
theorem u_X8_init_54 (L : xL) (st : List Value) (h : xH) : xf 97 54 L st h = xf 97 56 L (.int 24 :: st) h := xo_iconst (k := 24) (by decide +kernel) (by decide)
set_option maxRecDepth 20000 in
theorem u_X8_init_56 (L : xL) (i : Int32) (m : Nat) (st : List Value) (h : xH) (hi : ¬ i < 0 ∧ i.toNatClampNeg = m ∧ m ≤ 1000) (hn : h.2.1 ≠ 0) : xf 97 56 L (.int i :: st) h = xf 97 58 L (.ref h.2.1 :: st) (xnew h (.inl (0, m, .inl (fun _ => 0))) m) := xo_newi (by decide +kernel) hi hn
set_option maxRecDepth 20000 in
theorem u_X8_init_58 (L : xL) (v : Nat) (a : Nat) (st : List Value) (h : xH) (hc : (xob h a).1 = 8) : xf 97 58 L (.ref v :: .ref a :: st) h = xf 97 61 L st (xso h a 9 (.ref v)) := xo_putf (r := 521) (by decide +kernel) (by decide) rfl hc
set_option maxRecDepth 20000 in
theorem u_X8_init_61 (x : Nat) (st : List Value) (h : xH) : xf 97 61 [some (.ref x)] st h = xf 97 62 [some (.ref x)] (.ref x :: st) h := xo_aload (k := 0) (by decide +kernel) rfl
set_option maxRecDepth 20000 in
theorem u_X8_init_62 (L : xL) (st : List Value) (h : xH) : xf 97 62 L st h = xf 97 64 L (.int 24 :: st) h := xo_iconst (k := 24) (by decide +kernel) (by decide)
set_option maxRecDepth 20000 in
theorem u_X8_init_64 (L : xL) (i : Int32) (m : Nat) (st : List Value) (h : xH) (hi : ¬ i < 0 ∧ i.toNatClampNeg = m ∧ m ≤ 1000) (hn : h.2.1 ≠ 0) : xf 97 64 L (.int i :: st) h = xf 97 66 L (.ref h.2.1 :: st) (xnew h (.inl (0, m, .inl (fun _ => 0))) m) := xo_newi (by decide +kernel) hi hn
set_option maxRecDepth 20000 in
theorem u_X8_init_66 (L : xL) (v : Nat) (a : Nat) (st : List Value) (h : xH) (hc : (xob h a).1 = 8) : xf 97 66 L (.ref v :: .ref a :: st) h = xf 97 69 L st (xso h a 10 (.ref v)) := xo_putf (r := 522) (by decide +kernel) (by decide) rfl hc
set_option maxRecDepth 20000 in
theorem u_X8_init_69 (x : Nat) (st : List Value) (h : xH) : xf 97 69 [some (.ref x)] st h = xf 97 70 [some (.ref x)] (.ref x :: st) h := xo_aload (k := 0) (by decide +kernel) rfl
set_option maxRecDepth 20000 in
theorem u_X8_init_70 (L : xL) (st : List Value) (h : xH) : xf 97 70 L st h = xf 97 73 L (.int 192 :: st) h := xo_iconst (k := 192) (by decide +kernel) (by decide)
set_option maxRecDepth 20000 in
theorem u_X8_init_73 (L : xL) (i : Int32) (m : Nat) (st : List Value) (h : xH) (hi : ¬ i < 0 ∧ i.toNatClampNeg = m ∧ m ≤ 1000) (hn : h.2.1 ≠ 0) : xf 97 73 L (.int i :: st) h = xf 97 75 L (.ref h.2.1 :: st) (xnew h (.inl (0, m, .inl (fun _ => 0))) m) := xo_newi (by decide +kernel) hi hn
set_option maxRecDepth 20000 in
theorem u_X8_init_75 (L : xL) (v : Nat) (a : Nat) (st : List Value) (h : xH) (hc : (xob h a).1 = 8) : xf 97 75 L (.ref v :: .ref a :: st) h = xf 97 78 L st (xso h a 11 (.ref v)) := xo_putf (r := 523) (by decide +kernel) (by decide) rfl hc
set_option maxRecDepth 20000 in
theorem u_X8_init_78 (x : Nat) (st : List Value) (h : xH) : xf 97 78 [some (.ref x)] st h = xf 97 79 [some (.ref x)] (.ref x :: st) h := xo_aload (k := 0) (by decide +kernel) rfl
set_option maxRecDepth 20000 in
theorem u_X8_init_79 (L : xL) (a : Nat) (st : List Value) (h : xH) (hc : (xob h a).1 = 8) : xf 97 79 L (.ref a :: st) h = xf 97 82 L ((xob h a).2.getD 1 .null :: st) h := xo_getf (r := 513) (by decide +kernel) (by decide) hc
set_option maxRecDepth 20000 in
theorem u_X8_init_82 (L : xL) (st : List Value) (h : xH) : xf 97 82 L st h = xf 97 84 L (.int 113 :: st) h := xo_iconst (k := 113) (by decide +kernel) (by decide)
set_option maxRecDepth 20000 in
theorem u_X8_init_84 (L : xL) (st : List Value) (h : xH) : xf 97 84 L st h = xf 97 85 L (.int 2 :: st) h := xo_iconst (k := 2) (by decide +kernel) (by decide)
set_option maxRecDepth 20000 in
theorem u_X8_init_85 (L : xL) (v i : Int32) (a : Nat) (st : List Value) (h : xH) (hx : xix i (xai h a).1) : xf 97 85 L (.int v :: .int i :: .ref a :: st) h = xf 97 86 L st (xsi h a i.toNatClampNeg v) := xo_iastore (by decide +kernel) hx
set_option maxRecDepth 20000 in
theorem u_X8_init_86 (x : Nat) (st : List Value) (h : xH) : xf 97 86 [some (.ref x)] st h = xf 97 87 [some (.ref x)] (.ref x :: st) h := xo_aload (k := 0) (by decide +kernel) rfl
set_option maxRecDepth 20000 in
theorem u_X8_init_87 (L : xL) (a : Nat) (st : List Value) (h : xH) (hc : (xob h a).1 = 8) : xf 97 87 L (.ref a :: st) h = xf 97 90 L ((xob h a).2.getD 1 .null :: st) h := xo_getf (r := 513) (by decide +kernel) (by decide) hc
set_option maxRecDepth 20000 in
theorem u_X8_init_90 (L : xL) (st : List Value) (h : xH) : xf 97 90 L st h = xf 97 92 L (.int 114 :: st) h := xo_iconst (k := 114) (by decide +kernel) (by decide)
set_option maxRecDepth 20000 in
theorem u_X8_init_92 (L : xL) (st : List Value) (h : xH) : xf 97 92 L st h = xf 97 93 L (.int 2 :: st) h := xo_iconst (k := 2) (by decide +kernel) (by decide)
set_option maxRecDepth 20000 in
theorem u_X8_init_93 (L : xL) (v i : Int32) (a : Nat) (st : List Value) (h : xH) (hx : xix i (xai h a).1) : xf 97 93 L (.int v :: .int i :: .ref a :: st) h = xf 97 94 L st (xsi h a i.toNatClampNeg v) := xo_iastore (by decide +kernel) hx
set_option maxRecDepth 20000 in
theorem u_X8_init_94 (L : xL) (h : xH) : xf 97 94 L [] h = some (.inl none, h) := xo_return (n := 95) (by decide +kernel) rfl
set_option maxRecDepth 20000 in
theorem e_X8_init (v0 : Nat) (h : xH) : xev 97 [.ref v0] h = xf 97 0 [some (.ref v0)] [] h := rfl
set_option maxRecDepth 20000 in
theorem u_X8_thrown_0 (x : Nat) (st : List Value) (h : xH) : xf 98 0 [some (.ref x)] st h = xf 98 1 [some (.ref x)] (.ref x :: st) h := xo_aload (k := 0) (by decide +kernel) rfl
set_option maxRecDepth 20000 in
theorem u_X8_thrown_1 (L : xL) (a : Nat) (st : List Value) (h : xH) (hc : (xob h a).1 = 8) : xf 98 1 L (.ref a :: st) h = xf 98 4 L ((xob h a).2.getD 0 .null :: st) h := xo_getf (r := 512) (by decide +kernel) (by decide) hc
set_option maxRecDepth 20000 in
theorem u_X8_thrown_4 (L : xL) (x : Int32) (h : xH) : xf 98 4 L [.int x] h = some (.inl (some (.int x)), h) := xo_ireturn (n := 5) (by decide +kernel) rfl
set_option maxRecDepth 20000 in
theorem e_X8_thrown (v0 : Nat) (h : xH) : xev 98 [.ref v0] h = xf 98 0 [some (.ref v0)] [] h := rfl
set_option maxRecDepth 20000 in
theorem u_X8_in_0 (l1 l2 : Option Value) (x : Int32) (st : List Value) (h : xH) : xf 99 0 [some (.int x), l1, l2] st h = xf 99 1 [some (.int x), l1, l2] (.int x :: st) h := xo_iload (k := 0) (by decide +kernel) rfl
set_option maxRecDepth 20000 in
theorem u_X8_in_1 (l0 l2 : Option Value) (x : Int32) (st : List Value) (h : xH) : xf 99 1 [l0, some (.int x), l2] st h = xf 99 2 [l0, some (.int x), l2] (.int x :: st) h := xo_iload (k := 1) (by decide +kernel) rfl
set_option maxRecDepth 20000 in
theorem u_X8_in_2 (L : xL) (a b : Int32) (st : List Value) (h : xH) : xf 99 2 L (.int b :: .int a :: st) h = if a < b then xf 99 14 L st h else xf 99 5 L st h := xo_icmp_lt (t := 14) (by decide +kernel) rfl
set_option maxRecDepth 20000 in
theorem u_X8_in_5 (l1 l2 : Option Value) (x : Int32) (st : List Value) (h : xH) : xf 99 5 [some (.int x), l1, l2] st h = xf 99 6 [some (.int x), l1, l2] (.int x :: st) h := xo_iload (k := 0) (by decide +kernel) rfl
set_option maxRecDepth 20000 in
theorem u_X8_in_6 (l0 l1 : Option Value) (x : Int32) (st : List Value) (h : xH) : xf 99 6 [l0, l1, some (.int x)] st h = xf 99 7 [l0, l1, some (.int x)] (.int x :: st) h := xo_iload (k := 2) (by decide +kernel) rfl
set_option maxRecDepth 20000 in
theorem u_X8_in_7 (L : xL) (a b : Int32) (st : List Value) (h : xH) : xf 99 7 L (.int b :: .int a :: st) h = if b < a then xf 99 14 L st h else xf 99 10 L st h := xo_icmp_gt (t := 14) (by decide +kernel) rfl
set_option maxRecDepth 20000 in
theorem u_X8_in_10 (L : xL) (st : List Value) (h : xH) : xf 99 10 L st h = xf 99 11 L (.int 1 :: st) h := xo_iconst (k := 1) (by decide +kernel) (by decide)
set_option maxRecDepth 20000 in
theorem u_X8_in_11 (L : xL) (st : List Value) (h : xH) : xf 99 11 L st h = xf 99 15 L st h := xo_goto (n := 14) (t := 15) (by decide +kernel) rfl
set_option maxRecDepth 20000 in
theorem u_X8_in_14 (L : xL) (st : List Value) (h : xH) : xf 99 14 L st h = xf 99 15 L (.int 0 :: st) h := xo_iconst (k := 0) (by decide +kernel) (by decide)
set_option maxRecDepth 20000 in
theorem u_X8_in_15 (L : xL) (x : Int32) (h : xH) (hv : x = 0 ∨ x = 1) : xf 99 15 L [.int x] h = some (.inl (some (.int x)), h) := xo_ireturn (n := 16) (by decide +kernel) (by rcases hv with rfl | rfl <;> rfl)
set_option maxRecDepth 20000 in
theorem e_X8_in (v0 : Int32) (v1 : Int32) (v2 : Int32) (h : xH) : xev 99 [.int v0, .int v1, .int v2] h = xf 99 0 [some (.int v0), some (.int v1), some (.int v2)] [] h := rfl
set_option maxRecDepth 20000 in
theorem u_X8_holds_0 (l1 : Option Value) (x : Nat) (st : List Value) (h : xH) : xf 100 0 [some (.ref x), l1] st h = xf 100 1 [some (.ref x), l1] (.ref x :: st) h := xo_aload (k := 0) (by decide +kernel) rfl
set_option maxRecDepth 20000 in
theorem u_X8_holds_1 (l0 : Option Value) (x : Int32) (st : List Value) (h : xH) : xf 100 1 [l0, some (.int x)] st h = xf 100 2 [l0, some (.int x)] (.int x :: st) h := xo_iload (k := 1) (by decide +kernel) rfl
set_option maxRecDepth 20000 in
theorem u_X8_holds_2 (L : xL) (v : Int32) (a : Nat) (st : List Value) (h : xH) (hc : (xob h a).1 = 8) : xf 100 2 L (.int v :: .ref a :: st) h = xf 100 5 L st (xso h a 0 (.int v)) := xo_putf (r := 512) (by decide +kernel) (by decide) rfl hc
set_option maxRecDepth 20000 in
theorem u_X8_holds_5 (l0 : Option Value) (x : Int32) (st : List Value) (h : xH) : xf 100 5 [l0, some (.int x)] st h = xf 100 6 [l0, some (.int x)] (.int x :: st) h := xo_iload (k := 1) (by decide +kernel) rfl
set_option maxRecDepth 20000 in
theorem u_X8_holds_6 (L : xL) (a : Int32) (st : List Value) (h : xH) : xf 100 6 L (.int a :: st) h = if a = 0 then xf 100 9 L st h else xf 100 13 L st h := xo_if_ne (t := 13) (by decide +kernel) rfl
set_option maxRecDepth 20000 in
theorem u_X8_holds_9 (L : xL) (st : List Value) (h : xH) : xf 100 9 L st h = xf 100 10 L (.int 1 :: st) h := xo_iconst (k := 1) (by decide +kernel) (by decide)
set_option maxRecDepth 20000 in
theorem u_X8_holds_10 (L : xL) (st : List Value) (h : xH) : xf 100 10 L st h = xf 100 14 L st h := xo_goto (n := 13) (t := 14) (by decide +kernel) rfl
set_option maxRecDepth 20000 in
theorem u_X8_holds_13 (L : xL) (st : List Value) (h : xH) : xf 100 13 L st h = xf 100 14 L (.int 0 :: st) h := xo_iconst (k := 0) (by decide +kernel) (by decide)
set_option maxRecDepth 20000 in
theorem u_X8_holds_14 (L : xL) (x : Int32) (h : xH) (hv : x = 0 ∨ x = 1) : xf 100 14 L [.int x] h = some (.inl (some (.int x)), h) := xo_ireturn (n := 15) (by decide +kernel) (by rcases hv with rfl | rfl <;> rfl)
set_option maxRecDepth 20000 in
theorem e_X8_holds (v0 : Nat) (v1 : Int32) (h : xH) : xev 100 [.ref v0, .int v1] h = xf 100 0 [some (.ref v0), some (.int v1)] [] h := rfl
set_option maxRecDepth 20000 in
theorem u_X8_save_0 (l1 : Option Value) (x : Nat) (st : List Value) (h : xH) : xf 101 0 [some (.ref x), l1] st h = xf 101 1 [some (.ref x), l1] (.ref x :: st) h := xo_aload (k := 0) (by decide +kernel) rfl
set_option maxRecDepth 20000 in
theorem u_X8_save_1 (L : xL) (a : Nat) (st : List Value) (h : xH) (hc : (xob h a).1 = 8) : xf 101 1 L (.ref a :: st) h = xf 101 4 L ((xob h a).2.getD 4 .null :: st) h := xo_getf (r := 516) (by decide +kernel) (by decide) hc
set_option maxRecDepth 20000 in
theorem u_X8_save_4 (L : xL) (st : List Value) (h : xH) : xf 101 4 L st h = xf 101 6 L (.int 6 :: st) h := xo_iconst (k := 6) (by decide +kernel) (by decide)
set_option maxRecDepth 20000 in
theorem u_X8_save_6 (L : xL) (a b : Int32) (st : List Value) (h : xH) : xf 101 6 L (.int b :: .int a :: st) h = if a = b then xf 101 9 L st h else xf 101 49 L st h := xo_icmp_ne (t := 49) (by decide +kernel) rfl
set_option maxRecDepth 20000 in
theorem u_X8_save_9 (L : xL) (st : List Value) (h : xH) : xf 101 9 L st h = xf 101 10 L (.int 0 :: st) h := xo_iconst (k := 0) (by decide +kernel) (by decide)
set_option maxRecDepth 20000 in
theorem u_X8_save_10 (l0 l1 : Option Value) (x : Int32) (st : List Value) (h : xH) : xf 101 10 [l0, l1] (.int x :: st) h = xf 101 11 [xcat l0, some (.int x)] st h := xo_istore (k := 1) (by decide +kernel) (Nat.le_of_ble_eq_true rfl) rfl
set_option maxRecDepth 20000 in
theorem u_X8_save_11 (l0 : Option Value) (x : Int32) (st : List Value) (h : xH) : xf 101 11 [l0, some (.int x)] st h = xf 101 12 [l0, some (.int x)] (.int x :: st) h := xo_iload (k := 1) (by decide +kernel) rfl
set_option maxRecDepth 20000 in
theorem u_X8_save_12 (L : xL) (st : List Value) (h : xH) : xf 101 12 L st h = xf 101 15 L (.int 585 :: st) h := xo_iconst (k := 585) (by decide +kernel) (by decide)
set_option maxRecDepth 20000 in
theorem u_X8_save_15 (L : xL) (a b : Int32) (st : List Value) (h : xH) : xf 101 15 L (.int b :: .int a :: st) h = if a < b then xf 101 18 L st h else xf 101 39 L st h := xo_icmp_ge (t := 39) (by decide +kernel) rfl
set_option maxRecDepth 20000 in
theorem u_X8_save_18 (l1 : Option Value) (x : Nat) (st : List Value) (h : xH) : xf 101 18 [some (.ref x), l1] st h = xf 101 19 [some (.ref x), l1] (.ref x :: st) h := xo_aload (k := 0) (by decide +kernel) rfl
set_option maxRecDepth 20000 in
theorem u_X8_save_19 (L : xL) (a : Nat) (st : List Value) (h : xH) (hc : (xob h a).1 = 8) : xf 101 19 L (.ref a :: st) h = xf 101 22 L ((xob h a).2.getD 3 .null :: st) h := xo_getf (r := 515) (by decide +kernel) (by decide) hc
set_option maxRecDepth 20000 in
theorem u_X8_save_22 (l0 : Option Value) (x : Int32) (st : List Value) (h : xH) : xf 101 22 [l0, some (.int x)] st h = xf 101 23 [l0, some (.int x)] (.int x :: st) h := xo_iload (k := 1) (by decide +kernel) rfl
set_option maxRecDepth 20000 in
theorem u_X8_save_23 (l1 : Option Value) (x : Nat) (st : List Value) (h : xH) : xf 101 23 [some (.ref x), l1] st h = xf 101 24 [some (.ref x), l1] (.ref x :: st) h := xo_aload (k := 0) (by decide +kernel) rfl
set_option maxRecDepth 20000 in
theorem u_X8_save_24 (L : xL) (a : Nat) (st : List Value) (h : xH) (hc : (xob h a).1 = 8) : xf 101 24 L (.ref a :: st) h = xf 101 27 L ((xob h a).2.getD 3 .null :: st) h := xo_getf (r := 515) (by decide +kernel) (by decide) hc
set_option maxRecDepth 20000 in
theorem u_X8_save_27 (L : xL) (st : List Value) (h : xH) : xf 101 27 L st h = xf 101 29 L (.int 117 :: st) h := xo_iconst (k := 117) (by decide +kernel) (by decide)
set_option maxRecDepth 20000 in
theorem u_X8_save_29 (l0 : Option Value) (x : Int32) (st : List Value) (h : xH) : xf 101 29 [l0, some (.int x)] st h = xf 101 30 [l0, some (.int x)] (.int x :: st) h := xo_iload (k := 1) (by decide +kernel) rfl
set_option maxRecDepth 20000 in
theorem u_X8_save_30 (L : xL) (a b : Int32) (st : List Value) (h : xH) : xf 101 30 L (.int b :: .int a :: st) h = xf 101 31 L (.int (a + b) :: st) h := xo_iadd (by decide +kernel)
set_option maxRecDepth 20000 in
theorem u_X8_save_31 (L : xL) (i : Int32) (a : Nat) (st : List Value) (h : xH) (hx : xix i (xai h a).1) : xf 101 31 L (.int i :: .ref a :: st) h = xf 101 32 L (.int ((xai h a).2 i.toNatClampNeg) :: st) h := xo_iaload (by decide +kernel) hx
set_option maxRecDepth 20000 in
theorem u_X8_save_32 (L : xL) (v i : Int32) (a : Nat) (st : List Value) (h : xH) (hx : xix i (xai h a).1) : xf 101 32 L (.int v :: .int i :: .ref a :: st) h = xf 101 33 L st (xsi h a i.toNatClampNeg v) := xo_iastore (by decide +kernel) hx
set_option maxRecDepth 20000 in
theorem u_X8_save_33 (l0 : Option Value) (x : Int32) (st : List Value) (h : xH) : xf 101 33 [l0, some (.int x)] st h = xf 101 36 [xcat l0, some (.int (x + 1))] st h := xo_iinc (k := 1) (c := 1) (by decide +kernel) rfl (by decide) rfl
set_option maxRecDepth 20000 in
theorem u_X8_save_36 (L : xL) (st : List Value) (h : xH) : xf 101 36 L st h = xf 101 11 L st h := xo_goto (n := 39) (t := 11) (by decide +kernel) rfl
set_option maxRecDepth 20000 in
theorem u_X8_save_39 (l1 : Option Value) (x : Nat) (st : List Value) (h : xH) : xf 101 39 [some (.ref x), l1] st h = xf 101 40 [some (.ref x), l1] (.ref x :: st) h := xo_aload (k := 0) (by decide +kernel) rfl
set_option maxRecDepth 20000 in
theorem u_X8_save_40 (L : xL) (a : Nat) (st : List Value) (h : xH) : xf 101 40 L (.ref a :: st) h = xf 101 41 L (.ref a :: .ref a :: st) h := xo_dupR (by decide +kernel)
set_option maxRecDepth 20000 in
theorem u_X8_save_41 (L : xL) (a : Nat) (st : List Value) (h : xH) (hc : (xob h a).1 = 8) : xf 101 41 L (.ref a :: st) h = xf 101 44 L ((xob h a).2.getD 4 .null :: st) h := xo_getf (r := 516) (by decide +kernel) (by decide) hc
set_option maxRecDepth 20000 in
theorem u_X8_save_44 (L : xL) (st : List Value) (h : xH) : xf 101 44 L st h = xf 101 45 L (.int 1 :: st) h := xo_iconst (k := 1) (by decide +kernel) (by decide)
set_option maxRecDepth 20000 in
theorem u_X8_save_45 (L : xL) (a b : Int32) (st : List Value) (h : xH) : xf 101 45 L (.int b :: .int a :: st) h = xf 101 46 L (.int (a - b) :: st) h := xo_isub (by decide +kernel)
set_option maxRecDepth 20000 in
theorem u_X8_save_46 (L : xL) (v : Int32) (a : Nat) (st : List Value) (h : xH) (hc : (xob h a).1 = 8) : xf 101 46 L (.int v :: .ref a :: st) h = xf 101 49 L st (xso h a 4 (.int v)) := xo_putf (r := 516) (by decide +kernel) (by decide) rfl hc
set_option maxRecDepth 20000 in
theorem u_X8_save_49 (L : xL) (st : List Value) (h : xH) : xf 101 49 L st h = xf 101 50 L (.int 0 :: st) h := xo_iconst (k := 0) (by decide +kernel) (by decide)
set_option maxRecDepth 20000 in
theorem u_X8_save_50 (l0 l1 : Option Value) (x : Int32) (st : List Value) (h : xH) : xf 101 50 [l0, l1] (.int x :: st) h = xf 101 51 [xcat l0, some (.int x)] st h := xo_istore (k := 1) (by decide +kernel) (Nat.le_of_ble_eq_true rfl) rfl
set_option maxRecDepth 20000 in
theorem u_X8_save_51 (l0 : Option Value) (x : Int32) (st : List Value) (h : xH) : xf 101 51 [l0, some (.int x)] st h = xf 101 52 [l0, some (.int x)] (.int x :: st) h := xo_iload (k := 1) (by decide +kernel) rfl
set_option maxRecDepth 20000 in
theorem u_X8_save_52 (L : xL) (st : List Value) (h : xH) : xf 101 52 L st h = xf 101 54 L (.int 117 :: st) h := xo_iconst (k := 117) (by decide +kernel) (by decide)
set_option maxRecDepth 20000 in
theorem u_X8_save_54 (L : xL) (a b : Int32) (st : List Value) (h : xH) : xf 101 54 L (.int b :: .int a :: st) h = if a < b then xf 101 57 L st h else xf 101 83 L st h := xo_icmp_ge (t := 83) (by decide +kernel) rfl
set_option maxRecDepth 20000 in
theorem u_X8_save_57 (l1 : Option Value) (x : Nat) (st : List Value) (h : xH) : xf 101 57 [some (.ref x), l1] st h = xf 101 58 [some (.ref x), l1] (.ref x :: st) h := xo_aload (k := 0) (by decide +kernel) rfl
set_option maxRecDepth 20000 in
theorem u_X8_save_58 (L : xL) (a : Nat) (st : List Value) (h : xH) (hc : (xob h a).1 = 8) : xf 101 58 L (.ref a :: st) h = xf 101 61 L ((xob h a).2.getD 3 .null :: st) h := xo_getf (r := 515) (by decide +kernel) (by decide) hc
set_option maxRecDepth 20000 in
theorem u_X8_save_61 (L : xL) (st : List Value) (h : xH) : xf 101 61 L st h = xf 101 63 L (.int 117 :: st) h := xo_iconst (k := 117) (by decide +kernel) (by decide)
set_option maxRecDepth 20000 in
theorem u_X8_save_63 (l1 : Option Value) (x : Nat) (st : List Value) (h : xH) : xf 101 63 [some (.ref x), l1] st h = xf 101 64 [some (.ref x), l1] (.ref x :: st) h := xo_aload (k := 0) (by decide +kernel) rfl
set_option maxRecDepth 20000 in
theorem u_X8_save_64 (L : xL) (a : Nat) (st : List Value) (h : xH) (hc : (xob h a).1 = 8) : xf 101 64 L (.ref a :: st) h = xf 101 67 L ((xob h a).2.getD 4 .null :: st) h := xo_getf (r := 516) (by decide +kernel) (by decide) hc
set_option maxRecDepth 20000 in
theorem u_X8_save_67 (L : xL) (a b : Int32) (st : List Value) (h : xH) : xf 101 67 L (.int b :: .int a :: st) h = xf 101 68 L (.int (a * b) :: st) h := xo_imul (by decide +kernel)
set_option maxRecDepth 20000 in
theorem u_X8_save_68 (l0 : Option Value) (x : Int32) (st : List Value) (h : xH) : xf 101 68 [l0, some (.int x)] st h = xf 101 69 [l0, some (.int x)] (.int x :: st) h := xo_iload (k := 1) (by decide +kernel) rfl
set_option maxRecDepth 20000 in
theorem u_X8_save_69 (L : xL) (a b : Int32) (st : List Value) (h : xH) : xf 101 69 L (.int b :: .int a :: st) h = xf 101 70 L (.int (a + b) :: st) h := xo_iadd (by decide +kernel)
set_option maxRecDepth 20000 in
theorem u_X8_save_70 (l1 : Option Value) (x : Nat) (st : List Value) (h : xH) : xf 101 70 [some (.ref x), l1] st h = xf 101 71 [some (.ref x), l1] (.ref x :: st) h := xo_aload (k := 0) (by decide +kernel) rfl
set_option maxRecDepth 20000 in
theorem u_X8_save_71 (L : xL) (a : Nat) (st : List Value) (h : xH) (hc : (xob h a).1 = 8) : xf 101 71 L (.ref a :: st) h = xf 101 74 L ((xob h a).2.getD 1 .null :: st) h := xo_getf (r := 513) (by decide +kernel) (by decide) hc
set_option maxRecDepth 20000 in
theorem u_X8_save_74 (l0 : Option Value) (x : Int32) (st : List Value) (h : xH) : xf 101 74 [l0, some (.int x)] st h = xf 101 75 [l0, some (.int x)] (.int x :: st) h := xo_iload (k := 1) (by decide +kernel) rfl
set_option maxRecDepth 20000 in
theorem u_X8_save_75 (L : xL) (i : Int32) (a : Nat) (st : List Value) (h : xH) (hx : xix i (xai h a).1) : xf 101 75 L (.int i :: .ref a :: st) h = xf 101 76 L (.int ((xai h a).2 i.toNatClampNeg) :: st) h := xo_iaload (by decide +kernel) hx
set_option maxRecDepth 20000 in
theorem u_X8_save_76 (L : xL) (v i : Int32) (a : Nat) (st : List Value) (h : xH) (hx : xix i (xai h a).1) : xf 101 76 L (.int v :: .int i :: .ref a :: st) h = xf 101 77 L st (xsi h a i.toNatClampNeg v) := xo_iastore (by decide +kernel) hx
set_option maxRecDepth 20000 in
theorem u_X8_save_77 (l0 : Option Value) (x : Int32) (st : List Value) (h : xH) : xf 101 77 [l0, some (.int x)] st h = xf 101 80 [xcat l0, some (.int (x + 1))] st h := xo_iinc (k := 1) (c := 1) (by decide +kernel) rfl (by decide) rfl
set_option maxRecDepth 20000 in
theorem u_X8_save_80 (L : xL) (st : List Value) (h : xH) : xf 101 80 L st h = xf 101 51 L st h := xo_goto (n := 83) (t := 51) (by decide +kernel) rfl
set_option maxRecDepth 20000 in
theorem u_X8_save_83 (l1 : Option Value) (x : Nat) (st : List Value) (h : xH) : xf 101 83 [some (.ref x), l1] st h = xf 101 84 [some (.ref x), l1] (.ref x :: st) h := xo_aload (k := 0) (by decide +kernel) rfl
set_option maxRecDepth 20000 in
theorem u_X8_save_84 (L : xL) (a : Nat) (st : List Value) (h : xH) : xf 101 84 L (.ref a :: st) h = xf 101 85 L (.ref a :: .ref a :: st) h := xo_dupR (by decide +kernel)
set_option maxRecDepth 20000 in
theorem u_X8_save_85 (L : xL) (a : Nat) (st : List Value) (h : xH) (hc : (xob h a).1 = 8) : xf 101 85 L (.ref a :: st) h = xf 101 88 L ((xob h a).2.getD 4 .null :: st) h := xo_getf (r := 516) (by decide +kernel) (by decide) hc
set_option maxRecDepth 20000 in
theorem u_X8_save_88 (L : xL) (st : List Value) (h : xH) : xf 101 88 L st h = xf 101 89 L (.int 1 :: st) h := xo_iconst (k := 1) (by decide +kernel) (by decide)
set_option maxRecDepth 20000 in
theorem u_X8_save_89 (L : xL) (a b : Int32) (st : List Value) (h : xH) : xf 101 89 L (.int b :: .int a :: st) h = xf 101 90 L (.int (a + b) :: st) h := xo_iadd (by decide +kernel)
set_option maxRecDepth 20000 in
theorem u_X8_save_90 (L : xL) (v : Int32) (a : Nat) (st : List Value) (h : xH) (hc : (xob h a).1 = 8) : xf 101 90 L (.int v :: .ref a :: st) h = xf 101 93 L st (xso h a 4 (.int v)) := xo_putf (r := 516) (by decide +kernel) (by decide) rfl hc
set_option maxRecDepth 20000 in
theorem u_X8_save_93 (L : xL) (h : xH) : xf 101 93 L [] h = some (.inl none, h) := xo_return (n := 94) (by decide +kernel) rfl
set_option maxRecDepth 20000 in
theorem e_X8_save (v0 : Nat) (h : xH) : xev 101 [.ref v0] h = xf 101 0 [some (.ref v0), none] [] h := rfl
set_option maxRecDepth 20000 in
theorem u_X8_putAside_0 (L : xL) (st : List Value) (h : xH) : xf 102 0 L st h = xf 102 1 L (.int 0 :: st) h := xo_iconst (k := 0) (by decide +kernel) (by decide)
set_option maxRecDepth 20000 in
theorem u_X8_putAside_1 (l0 l1 : Option Value) (x : Int32) (st : List Value) (h : xH) : xf 102 1 [l0, l1] (.int x :: st) h = xf 102 2 [xcat l0, some (.int x)] st h := xo_istore (k := 1) (by decide +kernel) (Nat.le_of_ble_eq_true rfl) rfl
set_option maxRecDepth 20000 in
theorem u_X8_putAside_2 (l0 : Option Value) (x : Int32) (st : List Value) (h : xH) : xf 102 2 [l0, some (.int x)] st h = xf 102 3 [l0, some (.int x)] (.int x :: st) h := xo_iload (k := 1) (by decide +kernel) rfl
set_option maxRecDepth 20000 in
theorem u_X8_putAside_3 (L : xL) (st : List Value) (h : xH) : xf 102 3 L st h = xf 102 5 L (.int 117 :: st) h := xo_iconst (k := 117) (by decide +kernel) (by decide)
set_option maxRecDepth 20000 in
theorem u_X8_putAside_5 (L : xL) (a b : Int32) (st : List Value) (h : xH) : xf 102 5 L (.int b :: .int a :: st) h = if a < b then xf 102 8 L st h else xf 102 26 L st h := xo_icmp_ge (t := 26) (by decide +kernel) rfl
set_option maxRecDepth 20000 in
theorem u_X8_putAside_8 (l1 : Option Value) (x : Nat) (st : List Value) (h : xH) : xf 102 8 [some (.ref x), l1] st h = xf 102 9 [some (.ref x), l1] (.ref x :: st) h := xo_aload (k := 0) (by decide +kernel) rfl
set_option maxRecDepth 20000 in
theorem u_X8_putAside_9 (L : xL) (a : Nat) (st : List Value) (h : xH) (hc : (xob h a).1 = 8) : xf 102 9 L (.ref a :: st) h = xf 102 12 L ((xob h a).2.getD 2 .null :: st) h := xo_getf (r := 514) (by decide +kernel) (by decide) hc
set_option maxRecDepth 20000 in
theorem u_X8_putAside_12 (l0 : Option Value) (x : Int32) (st : List Value) (h : xH) : xf 102 12 [l0, some (.int x)] st h = xf 102 13 [l0, some (.int x)] (.int x :: st) h := xo_iload (k := 1) (by decide +kernel) rfl
set_option maxRecDepth 20000 in
theorem u_X8_putAside_13 (l1 : Option Value) (x : Nat) (st : List Value) (h : xH) : xf 102 13 [some (.ref x), l1] st h = xf 102 14 [some (.ref x), l1] (.ref x :: st) h := xo_aload (k := 0) (by decide +kernel) rfl
set_option maxRecDepth 20000 in
theorem u_X8_putAside_14 (L : xL) (a : Nat) (st : List Value) (h : xH) (hc : (xob h a).1 = 8) : xf 102 14 L (.ref a :: st) h = xf 102 17 L ((xob h a).2.getD 1 .null :: st) h := xo_getf (r := 513) (by decide +kernel) (by decide) hc
set_option maxRecDepth 20000 in
theorem u_X8_putAside_17 (l0 : Option Value) (x : Int32) (st : List Value) (h : xH) : xf 102 17 [l0, some (.int x)] st h = xf 102 18 [l0, some (.int x)] (.int x :: st) h := xo_iload (k := 1) (by decide +kernel) rfl
set_option maxRecDepth 20000 in
theorem u_X8_putAside_18 (L : xL) (i : Int32) (a : Nat) (st : List Value) (h : xH) (hx : xix i (xai h a).1) : xf 102 18 L (.int i :: .ref a :: st) h = xf 102 19 L (.int ((xai h a).2 i.toNatClampNeg) :: st) h := xo_iaload (by decide +kernel) hx
set_option maxRecDepth 20000 in
theorem u_X8_putAside_19 (L : xL) (v i : Int32) (a : Nat) (st : List Value) (h : xH) (hx : xix i (xai h a).1) : xf 102 19 L (.int v :: .int i :: .ref a :: st) h = xf 102 20 L st (xsi h a i.toNatClampNeg v) := xo_iastore (by decide +kernel) hx
set_option maxRecDepth 20000 in
theorem u_X8_putAside_20 (l0 : Option Value) (x : Int32) (st : List Value) (h : xH) : xf 102 20 [l0, some (.int x)] st h = xf 102 23 [xcat l0, some (.int (x + 1))] st h := xo_iinc (k := 1) (c := 1) (by decide +kernel) rfl (by decide) rfl
set_option maxRecDepth 20000 in
theorem u_X8_putAside_23 (L : xL) (st : List Value) (h : xH) : xf 102 23 L st h = xf 102 2 L st h := xo_goto (n := 26) (t := 2) (by decide +kernel) rfl
set_option maxRecDepth 20000 in
theorem u_X8_putAside_26 (L : xL) (h : xH) : xf 102 26 L [] h = some (.inl none, h) := xo_return (n := 27) (by decide +kernel) rfl
set_option maxRecDepth 20000 in
theorem e_X8_putAside (v0 : Nat) (h : xH) : xev 102 [.ref v0] h = xf 102 0 [some (.ref v0), none] [] h := rfl
set_option maxRecDepth 20000 in
theorem u_X8_putBack_0 (L : xL) (st : List Value) (h : xH) : xf 103 0 L st h = xf 103 1 L (.int 0 :: st) h := xo_iconst (k := 0) (by decide +kernel) (by decide)
set_option maxRecDepth 20000 in
theorem u_X8_putBack_1 (l0 l1 : Option Value) (x : Int32) (st : List Value) (h : xH) : xf 103 1 [l0, l1] (.int x :: st) h = xf 103 2 [xcat l0, some (.int x)] st h := xo_istore (k := 1) (by decide +kernel) (Nat.le_of_ble_eq_true rfl) rfl
set_option maxRecDepth 20000 in
theorem u_X8_putBack_2 (l0 : Option Value) (x : Int32) (st : List Value) (h : xH) : xf 103 2 [l0, some (.int x)] st h = xf 103 3 [l0, some (.int x)] (.int x :: st) h := xo_iload (k := 1) (by decide +kernel) rfl
set_option maxRecDepth 20000 in
theorem u_X8_putBack_3 (L : xL) (st : List Value) (h : xH) : xf 103 3 L st h = xf 103 5 L (.int 117 :: st) h := xo_iconst (k := 117) (by decide +kernel) (by decide)
set_option maxRecDepth 20000 in
theorem u_X8_putBack_5 (L : xL) (a b : Int32) (st : List Value) (h : xH) : xf 103 5 L (.int b :: .int a :: st) h = if a < b then xf 103 8 L st h else xf 103 26 L st h := xo_icmp_ge (t := 26) (by decide +kernel) rfl
set_option maxRecDepth 20000 in
theorem u_X8_putBack_8 (l1 : Option Value) (x : Nat) (st : List Value) (h : xH) : xf 103 8 [some (.ref x), l1] st h = xf 103 9 [some (.ref x), l1] (.ref x :: st) h := xo_aload (k := 0) (by decide +kernel) rfl
set_option maxRecDepth 20000 in
theorem u_X8_putBack_9 (L : xL) (a : Nat) (st : List Value) (h : xH) (hc : (xob h a).1 = 8) : xf 103 9 L (.ref a :: st) h = xf 103 12 L ((xob h a).2.getD 1 .null :: st) h := xo_getf (r := 513) (by decide +kernel) (by decide) hc
set_option maxRecDepth 20000 in
theorem u_X8_putBack_12 (l0 : Option Value) (x : Int32) (st : List Value) (h : xH) : xf 103 12 [l0, some (.int x)] st h = xf 103 13 [l0, some (.int x)] (.int x :: st) h := xo_iload (k := 1) (by decide +kernel) rfl
set_option maxRecDepth 20000 in
theorem u_X8_putBack_13 (l1 : Option Value) (x : Nat) (st : List Value) (h : xH) : xf 103 13 [some (.ref x), l1] st h = xf 103 14 [some (.ref x), l1] (.ref x :: st) h := xo_aload (k := 0) (by decide +kernel) rfl
set_option maxRecDepth 20000 in
theorem u_X8_putBack_14 (L : xL) (a : Nat) (st : List Value) (h : xH) (hc : (xob h a).1 = 8) : xf 103 14 L (.ref a :: st) h = xf 103 17 L ((xob h a).2.getD 2 .null :: st) h := xo_getf (r := 514) (by decide +kernel) (by decide) hc
set_option maxRecDepth 20000 in
theorem u_X8_putBack_17 (l0 : Option Value) (x : Int32) (st : List Value) (h : xH) : xf 103 17 [l0, some (.int x)] st h = xf 103 18 [l0, some (.int x)] (.int x :: st) h := xo_iload (k := 1) (by decide +kernel) rfl
set_option maxRecDepth 20000 in
theorem u_X8_putBack_18 (L : xL) (i : Int32) (a : Nat) (st : List Value) (h : xH) (hx : xix i (xai h a).1) : xf 103 18 L (.int i :: .ref a :: st) h = xf 103 19 L (.int ((xai h a).2 i.toNatClampNeg) :: st) h := xo_iaload (by decide +kernel) hx
set_option maxRecDepth 20000 in
theorem u_X8_putBack_19 (L : xL) (v i : Int32) (a : Nat) (st : List Value) (h : xH) (hx : xix i (xai h a).1) : xf 103 19 L (.int v :: .int i :: .ref a :: st) h = xf 103 20 L st (xsi h a i.toNatClampNeg v) := xo_iastore (by decide +kernel) hx
set_option maxRecDepth 20000 in
theorem u_X8_putBack_20 (l0 : Option Value) (x : Int32) (st : List Value) (h : xH) : xf 103 20 [l0, some (.int x)] st h = xf 103 23 [xcat l0, some (.int (x + 1))] st h := xo_iinc (k := 1) (c := 1) (by decide +kernel) rfl (by decide) rfl
set_option maxRecDepth 20000 in
theorem u_X8_putBack_23 (L : xL) (st : List Value) (h : xH) : xf 103 23 L st h = xf 103 2 L st h := xo_goto (n := 26) (t := 2) (by decide +kernel) rfl
set_option maxRecDepth 20000 in
theorem u_X8_putBack_26 (L : xL) (h : xH) : xf 103 26 L [] h = some (.inl none, h) := xo_return (n := 27) (by decide +kernel) rfl
set_option maxRecDepth 20000 in
theorem e_X8_putBack (v0 : Nat) (h : xH) : xev 103 [.ref v0] h = xf 103 0 [some (.ref v0), none] [] h := rfl
set_option maxRecDepth 20000 in
theorem u_X8_isPart_0 (l0 : Option Value) (x : Int32) (st : List Value) (h : xH) : xf 104 0 [l0, some (.int x)] st h = xf 104 1 [l0, some (.int x)] (.int x :: st) h := xo_iload (k := 1) (by decide +kernel) rfl
set_option maxRecDepth 20000 in
theorem u_X8_isPart_1 (L : xL) (st : List Value) (h : xH) : xf 104 1 L st h = xf 104 2 L (.int 0 :: st) h := xo_iconst (k := 0) (by decide +kernel) (by decide)
set_option maxRecDepth 20000 in
theorem u_X8_isPart_2 (L : xL) (st : List Value) (h : xH) : xf 104 2 L st h = xf 104 4 L (.int 7 :: st) h := xo_iconst (k := 7) (by decide +kernel) (by decide)
set_option maxRecDepth 20000 in
theorem u_X8_isPart_4 (L : xL) (v0 : Int32) (v1 : Int32) (v2 : Int32) (st : List Value) (h : xH) (hl : st.length ≤ 4) : xf 104 4 L (.int v2 :: .int v1 :: .int v0 :: st) h = xgo 104 4 7 L st (xev 99 [.int v0, .int v1, .int v2] h) := xo_callS (as := [.int v0, .int v1, .int v2]) (by decide +kernel) rfl ⟨(by decide +kernel : xna 99 = 3), Nat.le_of_ble_eq_true rfl, by decide⟩ hl
set_option maxRecDepth 20000 in
theorem u_X8_isPart_7 (L : xL) (a : Int32) (st : List Value) (h : xH) : xf 104 7 L (.int a :: st) h = if a = 0 then xf 104 10 L st h else xf 104 37 L st h := xo_if_ne (t := 37) (by decide +kernel) rfl
set_option maxRecDepth 20000 in
theorem u_X8_isPart_10 (l0 : Option Value) (x : Int32) (st : List Value) (h : xH) : xf 104 10 [l0, some (.int x)] st h = xf 104 11 [l0, some (.int x)] (.int x :: st) h := xo_iload (k := 1) (by decide +kernel) rfl
set_option maxRecDepth 20000 in
theorem u_X8_isPart_11 (L : xL) (st : List Value) (h : xH) : xf 104 11 L st h = xf 104 13 L (.int 8 :: st) h := xo_iconst (k := 8) (by decide +kernel) (by decide)
set_option maxRecDepth 20000 in
theorem u_X8_isPart_13 (L : xL) (st : List Value) (h : xH) : xf 104 13 L st h = xf 104 15 L (.int 23 :: st) h := xo_iconst (k := 23) (by decide +kernel) (by decide)
set_option maxRecDepth 20000 in
theorem u_X8_isPart_15 (L : xL) (v0 : Int32) (v1 : Int32) (v2 : Int32) (st : List Value) (h : xH) (hl : st.length ≤ 4) : xf 104 15 L (.int v2 :: .int v1 :: .int v0 :: st) h = xgo 104 15 18 L st (xev 99 [.int v0, .int v1, .int v2] h) := xo_callS (as := [.int v0, .int v1, .int v2]) (by decide +kernel) rfl ⟨(by decide +kernel : xna 99 = 3), Nat.le_of_ble_eq_true rfl, by decide⟩ hl
set_option maxRecDepth 20000 in
theorem u_X8_isPart_18 (L : xL) (a : Int32) (st : List Value) (h : xH) : xf 104 18 L (.int a :: st) h = if a = 0 then xf 104 41 L st h else xf 104 21 L st h := xo_if_eq (t := 41) (by decide +kernel) rfl
set_option maxRecDepth 20000 in
theorem u_X8_isPart_21 (l1 : Option Value) (x : Nat) (st : List Value) (h : xH) : xf 104 21 [some (.ref x), l1] st h = xf 104 22 [some (.ref x), l1] (.ref x :: st) h := xo_aload (k := 0) (by decide +kernel) rfl
set_option maxRecDepth 20000 in
theorem u_X8_isPart_22 (L : xL) (a : Nat) (st : List Value) (h : xH) (hc : (xob h a).1 = 8) : xf 104 22 L (.ref a :: st) h = xf 104 25 L ((xob h a).2.getD 1 .null :: st) h := xo_getf (r := 513) (by decide +kernel) (by decide) hc
set_option maxRecDepth 20000 in
theorem u_X8_isPart_25 (L : xL) (st : List Value) (h : xH) : xf 104 25 L st h = xf 104 27 L (.int 65 :: st) h := xo_iconst (k := 65) (by decide +kernel) (by decide)
set_option maxRecDepth 20000 in
theorem u_X8_isPart_27 (l0 : Option Value) (x : Int32) (st : List Value) (h : xH) : xf 104 27 [l0, some (.int x)] st h = xf 104 28 [l0, some (.int x)] (.int x :: st) h := xo_iload (k := 1) (by decide +kernel) rfl
set_option maxRecDepth 20000 in
theorem u_X8_isPart_28 (L : xL) (a b : Int32) (st : List Value) (h : xH) : xf 104 28 L (.int b :: .int a :: st) h = xf 104 29 L (.int (a + b) :: st) h := xo_iadd (by decide +kernel)
set_option maxRecDepth 20000 in
theorem u_X8_isPart_29 (L : xL) (st : List Value) (h : xH) : xf 104 29 L st h = xf 104 31 L (.int 8 :: st) h := xo_iconst (k := 8) (by decide +kernel) (by decide)
set_option maxRecDepth 20000 in
theorem u_X8_isPart_31 (L : xL) (a b : Int32) (st : List Value) (h : xH) : xf 104 31 L (.int b :: .int a :: st) h = xf 104 32 L (.int (a - b) :: st) h := xo_isub (by decide +kernel)
set_option maxRecDepth 20000 in
theorem u_X8_isPart_32 (L : xL) (i : Int32) (a : Nat) (st : List Value) (h : xH) (hx : xix i (xai h a).1) : xf 104 32 L (.int i :: .ref a :: st) h = xf 104 33 L (.int ((xai h a).2 i.toNatClampNeg) :: st) h := xo_iaload (by decide +kernel) hx
set_option maxRecDepth 20000 in
theorem u_X8_isPart_33 (L : xL) (st : List Value) (h : xH) : xf 104 33 L st h = xf 104 34 L (.int 1 :: st) h := xo_iconst (k := 1) (by decide +kernel) (by decide)
set_option maxRecDepth 20000 in
theorem u_X8_isPart_34 (L : xL) (a b : Int32) (st : List Value) (h : xH) : xf 104 34 L (.int b :: .int a :: st) h = if a = b then xf 104 37 L st h else xf 104 41 L st h := xo_icmp_ne (t := 41) (by decide +kernel) rfl
set_option maxRecDepth 20000 in
theorem u_X8_isPart_37 (L : xL) (st : List Value) (h : xH) : xf 104 37 L st h = xf 104 38 L (.int 1 :: st) h := xo_iconst (k := 1) (by decide +kernel) (by decide)
set_option maxRecDepth 20000 in
theorem u_X8_isPart_38 (L : xL) (st : List Value) (h : xH) : xf 104 38 L st h = xf 104 42 L st h := xo_goto (n := 41) (t := 42) (by decide +kernel) rfl
set_option maxRecDepth 20000 in
theorem u_X8_isPart_41 (L : xL) (st : List Value) (h : xH) : xf 104 41 L st h = xf 104 42 L (.int 0 :: st) h := xo_iconst (k := 0) (by decide +kernel) (by decide)
set_option maxRecDepth 20000 in
theorem u_X8_isPart_42 (L : xL) (x : Int32) (h : xH) (hv : x = 0 ∨ x = 1) : xf 104 42 L [.int x] h = some (.inl (some (.int x)), h) := xo_ireturn (n := 43) (by decide +kernel) (by rcases hv with rfl | rfl <;> rfl)
set_option maxRecDepth 20000 in
theorem e_X8_isPart (v0 : Nat) (v1 : Int32) (h : xH) : xev 104 [.ref v0, .int v1] h = xf 104 0 [some (.ref v0), some (.int v1)] [] h := rfl
set_option maxRecDepth 20000 in
theorem u_X8_first_0 (l1 : Option Value) (x : Nat) (st : List Value) (h : xH) : xf 105 0 [some (.ref x), l1] st h = xf 105 1 [some (.ref x), l1] (.ref x :: st) h := xo_aload (k := 0) (by decide +kernel) rfl
set_option maxRecDepth 20000 in
theorem u_X8_first_1 (L : xL) (a : Nat) (st : List Value) (h : xH) (hc : (xob h a).1 = 8) : xf 105 1 L (.ref a :: st) h = xf 105 4 L ((xob h a).2.getD 1 .null :: st) h := xo_getf (r := 513) (by decide +kernel) (by decide) hc
set_option maxRecDepth 20000 in
theorem u_X8_first_4 (L : xL) (st : List Value) (h : xH) : xf 105 4 L st h = xf 105 6 L (.int 81 :: st) h := xo_iconst (k := 81) (by decide +kernel) (by decide)
set_option maxRecDepth 20000 in
theorem u_X8_first_6 (l0 : Option Value) (x : Int32) (st : List Value) (h : xH) : xf 105 6 [l0, some (.int x)] st h = xf 105 7 [l0, some (.int x)] (.int x :: st) h := xo_iload (k := 1) (by decide +kernel) rfl
set_option maxRecDepth 20000 in
theorem u_X8_first_7 (L : xL) (a b : Int32) (st : List Value) (h : xH) : xf 105 7 L (.int b :: .int a :: st) h = xf 105 8 L (.int (a + b) :: st) h := xo_iadd (by decide +kernel)
set_option maxRecDepth 20000 in
theorem u_X8_first_8 (L : xL) (st : List Value) (h : xH) : xf 105 8 L st h = xf 105 10 L (.int 8 :: st) h := xo_iconst (k := 8) (by decide +kernel) (by decide)
set_option maxRecDepth 20000 in
theorem u_X8_first_10 (L : xL) (a b : Int32) (st : List Value) (h : xH) : xf 105 10 L (.int b :: .int a :: st) h = xf 105 11 L (.int (a - b) :: st) h := xo_isub (by decide +kernel)
set_option maxRecDepth 20000 in
theorem u_X8_first_11 (L : xL) (i : Int32) (a : Nat) (st : List Value) (h : xH) (hx : xix i (xai h a).1) : xf 105 11 L (.int i :: .ref a :: st) h = xf 105 12 L (.int ((xai h a).2 i.toNatClampNeg) :: st) h := xo_iaload (by decide +kernel) hx
set_option maxRecDepth 20000 in
theorem u_X8_first_12 (L : xL) (x : Int32) (h : xH) : xf 105 12 L [.int x] h = some (.inl (some (.int x)), h) := xo_ireturn (n := 13) (by decide +kernel) rfl
set_option maxRecDepth 20000 in
theorem e_X8_first (v0 : Nat) (v1 : Int32) (h : xH) : xev 105 [.ref v0, .int v1] h = xf 105 0 [some (.ref v0), some (.int v1)] [] h := rfl
set_option maxRecDepth 20000 in
theorem u_X8_second_0 (l1 : Option Value) (x : Nat) (st : List Value) (h : xH) : xf 106 0 [some (.ref x), l1] st h = xf 106 1 [some (.ref x), l1] (.ref x :: st) h := xo_aload (k := 0) (by decide +kernel) rfl
set_option maxRecDepth 20000 in
theorem u_X8_second_1 (L : xL) (a : Nat) (st : List Value) (h : xH) (hc : (xob h a).1 = 8) : xf 106 1 L (.ref a :: st) h = xf 106 4 L ((xob h a).2.getD 1 .null :: st) h := xo_getf (r := 513) (by decide +kernel) (by decide) hc
set_option maxRecDepth 20000 in
theorem u_X8_second_4 (L : xL) (st : List Value) (h : xH) : xf 106 4 L st h = xf 106 6 L (.int 97 :: st) h := xo_iconst (k := 97) (by decide +kernel) (by decide)
set_option maxRecDepth 20000 in
theorem u_X8_second_6 (l0 : Option Value) (x : Int32) (st : List Value) (h : xH) : xf 106 6 [l0, some (.int x)] st h = xf 106 7 [l0, some (.int x)] (.int x :: st) h := xo_iload (k := 1) (by decide +kernel) rfl
set_option maxRecDepth 20000 in
theorem u_X8_second_7 (L : xL) (a b : Int32) (st : List Value) (h : xH) : xf 106 7 L (.int b :: .int a :: st) h = xf 106 8 L (.int (a + b) :: st) h := xo_iadd (by decide +kernel)
set_option maxRecDepth 20000 in
theorem u_X8_second_8 (L : xL) (st : List Value) (h : xH) : xf 106 8 L st h = xf 106 10 L (.int 8 :: st) h := xo_iconst (k := 8) (by decide +kernel) (by decide)
set_option maxRecDepth 20000 in
theorem u_X8_second_10 (L : xL) (a b : Int32) (st : List Value) (h : xH) : xf 106 10 L (.int b :: .int a :: st) h = xf 106 11 L (.int (a - b) :: st) h := xo_isub (by decide +kernel)
set_option maxRecDepth 20000 in
theorem u_X8_second_11 (L : xL) (i : Int32) (a : Nat) (st : List Value) (h : xH) (hx : xix i (xai h a).1) : xf 106 11 L (.int i :: .ref a :: st) h = xf 106 12 L (.int ((xai h a).2 i.toNatClampNeg) :: st) h := xo_iaload (by decide +kernel) hx
set_option maxRecDepth 20000 in
theorem u_X8_second_12 (L : xL) (x : Int32) (h : xH) : xf 106 12 L [.int x] h = some (.inl (some (.int x)), h) := xo_ireturn (n := 13) (by decide +kernel) rfl
set_option maxRecDepth 20000 in
theorem e_X8_second (v0 : Nat) (v1 : Int32) (h : xH) : xev 106 [.ref v0, .int v1] h = xf 106 0 [some (.ref v0), some (.int v1)] [] h := rfl
set_option maxRecDepth 20000 in
theorem u_X8_layOut_0 (L : xL) (st : List Value) (h : xH) : xf 107 0 L st h = xf 107 1 L (.int 0 :: st) h := xo_iconst (k := 0) (by decide +kernel) (by decide)
set_option maxRecDepth 20000 in
theorem u_X8_layOut_1 (l0 l1 l2 : Option Value) (x : Int32) (st : List Value) (h : xH) : xf 107 1 [l0, l1, l2] (.int x :: st) h = xf 107 2 [xcat l0, some (.int x), l2] st h := xo_istore (k := 1) (by decide +kernel) (Nat.le_of_ble_eq_true rfl) rfl
set_option maxRecDepth 20000 in
theorem u_X8_layOut_2 (l0 l2 : Option Value) (x : Int32) (st : List Value) (h : xH) : xf 107 2 [l0, some (.int x), l2] st h = xf 107 3 [l0, some (.int x), l2] (.int x :: st) h := xo_iload (k := 1) (by decide +kernel) rfl
set_option maxRecDepth 20000 in
theorem u_X8_layOut_3 (L : xL) (st : List Value) (h : xH) : xf 107 3 L st h = xf 107 5 L (.int 24 :: st) h := xo_iconst (k := 24) (by decide +kernel) (by decide)
set_option maxRecDepth 20000 in
theorem u_X8_layOut_5 (L : xL) (a b : Int32) (st : List Value) (h : xH) : xf 107 5 L (.int b :: .int a :: st) h = if a < b then xf 107 8 L st h else xf 107 87 L st h := xo_icmp_ge (t := 87) (by decide +kernel) rfl
set_option maxRecDepth 20000 in
theorem u_X8_layOut_8 (l1 l2 : Option Value) (x : Nat) (st : List Value) (h : xH) : xf 107 8 [some (.ref x), l1, l2] st h = xf 107 9 [some (.ref x), l1, l2] (.ref x :: st) h := xo_aload (k := 0) (by decide +kernel) rfl
set_option maxRecDepth 20000 in
theorem u_X8_layOut_9 (L : xL) (a : Nat) (st : List Value) (h : xH) (hc : (xob h a).1 = 8) : xf 107 9 L (.ref a :: st) h = xf 107 12 L ((xob h a).2.getD 7 .null :: st) h := xo_getf (r := 519) (by decide +kernel) (by decide) hc
set_option maxRecDepth 20000 in
theorem u_X8_layOut_12 (l0 l2 : Option Value) (x : Int32) (st : List Value) (h : xH) : xf 107 12 [l0, some (.int x), l2] st h = xf 107 13 [l0, some (.int x), l2] (.int x :: st) h := xo_iload (k := 1) (by decide +kernel) rfl
set_option maxRecDepth 20000 in
theorem u_X8_layOut_13 (l0 l2 : Option Value) (x : Int32) (st : List Value) (h : xH) : xf 107 13 [l0, some (.int x), l2] st h = xf 107 14 [l0, some (.int x), l2] (.int x :: st) h := xo_iload (k := 1) (by decide +kernel) rfl
set_option maxRecDepth 20000 in
theorem u_X8_layOut_14 (L : xL) (st : List Value) (h : xH) : xf 107 14 L st h = xf 107 16 L (.int 8 :: st) h := xo_iconst (k := 8) (by decide +kernel) (by decide)
set_option maxRecDepth 20000 in
theorem u_X8_layOut_16 (L : xL) (a b : Int32) (st : List Value) (h : xH) : xf 107 16 L (.int b :: .int a :: st) h = if a < b then xf 107 19 L st h else xf 107 23 L st h := xo_icmp_ge (t := 23) (by decide +kernel) rfl
set_option maxRecDepth 20000 in
theorem u_X8_layOut_19 (L : xL) (st : List Value) (h : xH) : xf 107 19 L st h = xf 107 20 L (.int 0 :: st) h := xo_iconst (k := 0) (by decide +kernel) (by decide)
set_option maxRecDepth 20000 in
theorem u_X8_layOut_20 (L : xL) (st : List Value) (h : xH) : xf 107 20 L st h = xf 107 24 L st h := xo_goto (n := 23) (t := 24) (by decide +kernel) rfl
set_option maxRecDepth 20000 in
theorem u_X8_layOut_23 (L : xL) (st : List Value) (h : xH) : xf 107 23 L st h = xf 107 24 L (.int (-1) :: st) h := xo_iconst (k := (-1)) (by decide +kernel) (by decide)
set_option maxRecDepth 20000 in
theorem u_X8_layOut_24 (L : xL) (v i : Int32) (a : Nat) (st : List Value) (h : xH) (hx : xix i (xai h a).1) : xf 107 24 L (.int v :: .int i :: .ref a :: st) h = xf 107 25 L st (xsi h a i.toNatClampNeg v) := xo_iastore (by decide +kernel) hx
set_option maxRecDepth 20000 in
theorem u_X8_layOut_25 (l1 l2 : Option Value) (x : Nat) (st : List Value) (h : xH) : xf 107 25 [some (.ref x), l1, l2] st h = xf 107 26 [some (.ref x), l1, l2] (.ref x :: st) h := xo_aload (k := 0) (by decide +kernel) rfl
set_option maxRecDepth 20000 in
theorem u_X8_layOut_26 (L : xL) (a : Nat) (st : List Value) (h : xH) (hc : (xob h a).1 = 8) : xf 107 26 L (.ref a :: st) h = xf 107 29 L ((xob h a).2.getD 8 .null :: st) h := xo_getf (r := 520) (by decide +kernel) (by decide) hc
set_option maxRecDepth 20000 in
theorem u_X8_layOut_29 (l0 l2 : Option Value) (x : Int32) (st : List Value) (h : xH) : xf 107 29 [l0, some (.int x), l2] st h = xf 107 30 [l0, some (.int x), l2] (.int x :: st) h := xo_iload (k := 1) (by decide +kernel) rfl
set_option maxRecDepth 20000 in
theorem u_X8_layOut_30 (L : xL) (st : List Value) (h : xH) : xf 107 30 L st h = xf 107 31 L (.int 1 :: st) h := xo_iconst (k := 1) (by decide +kernel) (by decide)
set_option maxRecDepth 20000 in
theorem u_X8_layOut_31 (L : xL) (v i : Int32) (a : Nat) (st : List Value) (h : xH) (hx : xix i (xai h a).1) : xf 107 31 L (.int v :: .int i :: .ref a :: st) h = xf 107 32 L st (xsi h a i.toNatClampNeg v) := xo_iastore (by decide +kernel) hx
set_option maxRecDepth 20000 in
theorem u_X8_layOut_32 (l1 l2 : Option Value) (x : Nat) (st : List Value) (h : xH) : xf 107 32 [some (.ref x), l1, l2] st h = xf 107 33 [some (.ref x), l1, l2] (.ref x :: st) h := xo_aload (k := 0) (by decide +kernel) rfl
set_option maxRecDepth 20000 in
theorem u_X8_layOut_33 (L : xL) (a : Nat) (st : List Value) (h : xH) (hc : (xob h a).1 = 8) : xf 107 33 L (.ref a :: st) h = xf 107 36 L ((xob h a).2.getD 9 .null :: st) h := xo_getf (r := 521) (by decide +kernel) (by decide) hc
set_option maxRecDepth 20000 in
theorem u_X8_layOut_36 (l0 l2 : Option Value) (x : Int32) (st : List Value) (h : xH) : xf 107 36 [l0, some (.int x), l2] st h = xf 107 37 [l0, some (.int x), l2] (.int x :: st) h := xo_iload (k := 1) (by decide +kernel) rfl
set_option maxRecDepth 20000 in
theorem u_X8_layOut_37 (l0 l2 : Option Value) (x : Int32) (st : List Value) (h : xH) : xf 107 37 [l0, some (.int x), l2] st h = xf 107 38 [l0, some (.int x), l2] (.int x :: st) h := xo_iload (k := 1) (by decide +kernel) rfl
set_option maxRecDepth 20000 in
theorem u_X8_layOut_38 (L : xL) (v i : Int32) (a : Nat) (st : List Value) (h : xH) (hx : xix i (xai h a).1) : xf 107 38 L (.int v :: .int i :: .ref a :: st) h = xf 107 39 L st (xsi h a i.toNatClampNeg v) := xo_iastore (by decide +kernel) hx
set_option maxRecDepth 20000 in
theorem u_X8_layOut_39 (l1 l2 : Option Value) (x : Nat) (st : List Value) (h : xH) : xf 107 39 [some (.ref x), l1, l2] st h = xf 107 40 [some (.ref x), l1, l2] (.ref x :: st) h := xo_aload (k := 0) (by decide +kernel) rfl
set_option maxRecDepth 20000 in
theorem u_X8_layOut_40 (L : xL) (a : Nat) (st : List Value) (h : xH) (hc : (xob h a).1 = 8) : xf 107 40 L (.ref a :: st) h = xf 107 43 L ((xob h a).2.getD 10 .null :: st) h := xo_getf (r := 522) (by decide +kernel) (by decide) hc
set_option maxRecDepth 20000 in
theorem u_X8_layOut_43 (l0 l2 : Option Value) (x : Int32) (st : List Value) (h : xH) : xf 107 43 [l0, some (.int x), l2] st h = xf 107 44 [l0, some (.int x), l2] (.int x :: st) h := xo_iload (k := 1) (by decide +kernel) rfl
set_option maxRecDepth 20000 in
theorem u_X8_layOut_44 (l0 l2 : Option Value) (x : Int32) (st : List Value) (h : xH) : xf 107 44 [l0, some (.int x), l2] st h = xf 107 45 [l0, some (.int x), l2] (.int x :: st) h := xo_iload (k := 1) (by decide +kernel) rfl
set_option maxRecDepth 20000 in
theorem u_X8_layOut_45 (L : xL) (v i : Int32) (a : Nat) (st : List Value) (h : xH) (hx : xix i (xai h a).1) : xf 107 45 L (.int v :: .int i :: .ref a :: st) h = xf 107 46 L st (xsi h a i.toNatClampNeg v) := xo_iastore (by decide +kernel) hx
set_option maxRecDepth 20000 in
theorem u_X8_layOut_46 (L : xL) (st : List Value) (h : xH) : xf 107 46 L st h = xf 107 47 L (.int 0 :: st) h := xo_iconst (k := 0) (by decide +kernel) (by decide)
set_option maxRecDepth 20000 in
theorem u_X8_layOut_47 (l0 l1 l2 : Option Value) (x : Int32) (st : List Value) (h : xH) : xf 107 47 [l0, l1, l2] (.int x :: st) h = xf 107 48 [l0, xcat l1, some (.int x)] st h := xo_istore (k := 2) (by decide +kernel) (Nat.le_of_ble_eq_true rfl) rfl
set_option maxRecDepth 20000 in
theorem u_X8_layOut_48 (l0 l1 : Option Value) (x : Int32) (st : List Value) (h : xH) : xf 107 48 [l0, l1, some (.int x)] st h = xf 107 49 [l0, l1, some (.int x)] (.int x :: st) h := xo_iload (k := 2) (by decide +kernel) rfl
set_option maxRecDepth 20000 in
theorem u_X8_layOut_49 (L : xL) (st : List Value) (h : xH) : xf 107 49 L st h = xf 107 51 L (.int 8 :: st) h := xo_iconst (k := 8) (by decide +kernel) (by decide)
set_option maxRecDepth 20000 in
theorem u_X8_layOut_51 (L : xL) (a b : Int32) (st : List Value) (h : xH) : xf 107 51 L (.int b :: .int a :: st) h = if a < b then xf 107 54 L st h else xf 107 81 L st h := xo_icmp_ge (t := 81) (by decide +kernel) rfl
set_option maxRecDepth 20000 in
theorem u_X8_layOut_54 (l1 l2 : Option Value) (x : Nat) (st : List Value) (h : xH) : xf 107 54 [some (.ref x), l1, l2] st h = xf 107 55 [some (.ref x), l1, l2] (.ref x :: st) h := xo_aload (k := 0) (by decide +kernel) rfl
set_option maxRecDepth 20000 in
theorem u_X8_layOut_55 (L : xL) (a : Nat) (st : List Value) (h : xH) (hc : (xob h a).1 = 8) : xf 107 55 L (.ref a :: st) h = xf 107 58 L ((xob h a).2.getD 11 .null :: st) h := xo_getf (r := 523) (by decide +kernel) (by decide) hc
set_option maxRecDepth 20000 in
theorem u_X8_layOut_58 (L : xL) (st : List Value) (h : xH) : xf 107 58 L st h = xf 107 60 L (.int 8 :: st) h := xo_iconst (k := 8) (by decide +kernel) (by decide)
set_option maxRecDepth 20000 in
theorem u_X8_layOut_60 (l0 l2 : Option Value) (x : Int32) (st : List Value) (h : xH) : xf 107 60 [l0, some (.int x), l2] st h = xf 107 61 [l0, some (.int x), l2] (.int x :: st) h := xo_iload (k := 1) (by decide +kernel) rfl
set_option maxRecDepth 20000 in
theorem u_X8_layOut_61 (L : xL) (a b : Int32) (st : List Value) (h : xH) : xf 107 61 L (.int b :: .int a :: st) h = xf 107 62 L (.int (a * b) :: st) h := xo_imul (by decide +kernel)
set_option maxRecDepth 20000 in
theorem u_X8_layOut_62 (l0 l1 : Option Value) (x : Int32) (st : List Value) (h : xH) : xf 107 62 [l0, l1, some (.int x)] st h = xf 107 63 [l0, l1, some (.int x)] (.int x :: st) h := xo_iload (k := 2) (by decide +kernel) rfl
set_option maxRecDepth 20000 in
theorem u_X8_layOut_63 (L : xL) (a b : Int32) (st : List Value) (h : xH) : xf 107 63 L (.int b :: .int a :: st) h = xf 107 64 L (.int (a + b) :: st) h := xo_iadd (by decide +kernel)
set_option maxRecDepth 20000 in
theorem u_X8_layOut_64 (l0 l2 : Option Value) (x : Int32) (st : List Value) (h : xH) : xf 107 64 [l0, some (.int x), l2] st h = xf 107 65 [l0, some (.int x), l2] (.int x :: st) h := xo_iload (k := 1) (by decide +kernel) rfl
set_option maxRecDepth 20000 in
theorem u_X8_layOut_65 (l0 l1 : Option Value) (x : Int32) (st : List Value) (h : xH) : xf 107 65 [l0, l1, some (.int x)] st h = xf 107 66 [l0, l1, some (.int x)] (.int x :: st) h := xo_iload (k := 2) (by decide +kernel) rfl
set_option maxRecDepth 20000 in
theorem u_X8_layOut_66 (L : xL) (a b : Int32) (st : List Value) (h : xH) : xf 107 66 L (.int b :: .int a :: st) h = if a = b then xf 107 69 L st h else xf 107 73 L st h := xo_icmp_ne (t := 73) (by decide +kernel) rfl
set_option maxRecDepth 20000 in
theorem u_X8_layOut_69 (L : xL) (st : List Value) (h : xH) : xf 107 69 L st h = xf 107 70 L (.int 1 :: st) h := xo_iconst (k := 1) (by decide +kernel) (by decide)
set_option maxRecDepth 20000 in
theorem u_X8_layOut_70 (L : xL) (st : List Value) (h : xH) : xf 107 70 L st h = xf 107 74 L st h := xo_goto (n := 73) (t := 74) (by decide +kernel) rfl
set_option maxRecDepth 20000 in
theorem u_X8_layOut_73 (L : xL) (st : List Value) (h : xH) : xf 107 73 L st h = xf 107 74 L (.int 0 :: st) h := xo_iconst (k := 0) (by decide +kernel) (by decide)
set_option maxRecDepth 20000 in
theorem u_X8_layOut_74 (L : xL) (v i : Int32) (a : Nat) (st : List Value) (h : xH) (hx : xix i (xai h a).1) : xf 107 74 L (.int v :: .int i :: .ref a :: st) h = xf 107 75 L st (xsi h a i.toNatClampNeg v) := xo_iastore (by decide +kernel) hx
set_option maxRecDepth 20000 in
theorem u_X8_layOut_75 (l0 l1 : Option Value) (x : Int32) (st : List Value) (h : xH) : xf 107 75 [l0, l1, some (.int x)] st h = xf 107 78 [l0, xcat l1, some (.int (x + 1))] st h := xo_iinc (k := 2) (c := 1) (by decide +kernel) rfl (by decide) rfl
set_option maxRecDepth 20000 in
theorem u_X8_layOut_78 (L : xL) (st : List Value) (h : xH) : xf 107 78 L st h = xf 107 48 L st h := xo_goto (n := 81) (t := 48) (by decide +kernel) rfl
set_option maxRecDepth 20000 in
theorem u_X8_layOut_81 (l0 l2 : Option Value) (x : Int32) (st : List Value) (h : xH) : xf 107 81 [l0, some (.int x), l2] st h = xf 107 84 [xcat l0, some (.int (x + 1)), l2] st h := xo_iinc (k := 1) (c := 1) (by decide +kernel) rfl (by decide) rfl
set_option maxRecDepth 20000 in
theorem u_X8_layOut_84 (L : xL) (st : List Value) (h : xH) : xf 107 84 L st h = xf 107 2 L st h := xo_goto (n := 87) (t := 2) (by decide +kernel) rfl
set_option maxRecDepth 20000 in
theorem u_X8_layOut_87 (L : xL) (st : List Value) (h : xH) : xf 107 87 L st h = xf 107 88 L (.int 0 :: st) h := xo_iconst (k := 0) (by decide +kernel) (by decide)
set_option maxRecDepth 20000 in
theorem u_X8_layOut_88 (l0 l1 l2 : Option Value) (x : Int32) (st : List Value) (h : xH) : xf 107 88 [l0, l1, l2] (.int x :: st) h = xf 107 89 [xcat l0, some (.int x), l2] st h := xo_istore (k := 1) (by decide +kernel) (Nat.le_of_ble_eq_true rfl) rfl
set_option maxRecDepth 20000 in
theorem u_X8_layOut_89 (l0 l2 : Option Value) (x : Int32) (st : List Value) (h : xH) : xf 107 89 [l0, some (.int x), l2] st h = xf 107 90 [l0, some (.int x), l2] (.int x :: st) h := xo_iload (k := 1) (by decide +kernel) rfl
set_option maxRecDepth 20000 in
theorem u_X8_layOut_90 (L : xL) (st : List Value) (h : xH) : xf 107 90 L st h = xf 107 92 L (.int 16 :: st) h := xo_iconst (k := 16) (by decide +kernel) (by decide)
set_option maxRecDepth 20000 in
theorem u_X8_layOut_92 (L : xL) (a b : Int32) (st : List Value) (h : xH) : xf 107 92 L (.int b :: .int a :: st) h = if a < b then xf 107 95 L st h else xf 107 177 L st h := xo_icmp_ge (t := 177) (by decide +kernel) rfl
set_option maxRecDepth 20000 in
theorem u_X8_layOut_95 (L : xL) (st : List Value) (h : xH) : xf 107 95 L st h = xf 107 97 L (.int 8 :: st) h := xo_iconst (k := 8) (by decide +kernel) (by decide)
set_option maxRecDepth 20000 in
theorem u_X8_layOut_97 (l0 l1 l2 : Option Value) (x : Int32) (st : List Value) (h : xH) : xf 107 97 [l0, l1, l2] (.int x :: st) h = xf 107 98 [l0, xcat l1, some (.int x)] st h := xo_istore (k := 2) (by decide +kernel) (Nat.le_of_ble_eq_true rfl) rfl
set_option maxRecDepth 20000 in
theorem u_X8_layOut_98 (l0 l1 : Option Value) (x : Int32) (st : List Value) (h : xH) : xf 107 98 [l0, l1, some (.int x)] st h = xf 107 99 [l0, l1, some (.int x)] (.int x :: st) h := xo_iload (k := 2) (by decide +kernel) rfl
set_option maxRecDepth 20000 in
theorem u_X8_layOut_99 (L : xL) (st : List Value) (h : xH) : xf 107 99 L st h = xf 107 101 L (.int 24 :: st) h := xo_iconst (k := 24) (by decide +kernel) (by decide)
set_option maxRecDepth 20000 in
theorem u_X8_layOut_101 (L : xL) (a b : Int32) (st : List Value) (h : xH) : xf 107 101 L (.int b :: .int a :: st) h = if a < b then xf 107 104 L st h else xf 107 171 L st h := xo_icmp_ge (t := 171) (by decide +kernel) rfl
set_option maxRecDepth 20000 in
theorem u_X8_layOut_104 (l1 l2 : Option Value) (x : Nat) (st : List Value) (h : xH) : xf 107 104 [some (.ref x), l1, l2] st h = xf 107 105 [some (.ref x), l1, l2] (.ref x :: st) h := xo_aload (k := 0) (by decide +kernel) rfl
set_option maxRecDepth 20000 in
theorem u_X8_layOut_105 (l0 l1 : Option Value) (x : Int32) (st : List Value) (h : xH) : xf 107 105 [l0, l1, some (.int x)] st h = xf 107 106 [l0, l1, some (.int x)] (.int x :: st) h := xo_iload (k := 2) (by decide +kernel) rfl
set_option maxRecDepth 20000 in
theorem u_X8_layOut_106 (L : xL) (v0 : Int32) (b : Nat) (st : List Value) (h : xH) (hb : (xob h b).1 = 8) (hl : st.length ≤ 4) : xf 107 106 L (.int v0 :: .ref b :: st) h = xgo 107 106 109 L st (xev 104 [.ref b, .int v0] h) := xo_callV (as := [.int v0]) (by decide +kernel) rfl ⟨(by decide +kernel : xna 104 = 1), Nat.le_of_ble_eq_true rfl, rfl, by decide⟩ hb hl
set_option maxRecDepth 20000 in
theorem u_X8_layOut_109 (L : xL) (a : Int32) (st : List Value) (h : xH) : xf 107 109 L (.int a :: st) h = if a = 0 then xf 107 165 L st h else xf 107 112 L st h := xo_if_eq (t := 165) (by decide +kernel) rfl
set_option maxRecDepth 20000 in
theorem u_X8_layOut_112 (l1 l2 : Option Value) (x : Nat) (st : List Value) (h : xH) : xf 107 112 [some (.ref x), l1, l2] st h = xf 107 113 [some (.ref x), l1, l2] (.ref x :: st) h := xo_aload (k := 0) (by decide +kernel) rfl
set_option maxRecDepth 20000 in
theorem u_X8_layOut_113 (L : xL) (a : Nat) (st : List Value) (h : xH) (hc : (xob h a).1 = 8) : xf 107 113 L (.ref a :: st) h = xf 107 116 L ((xob h a).2.getD 7 .null :: st) h := xo_getf (r := 519) (by decide +kernel) (by decide) hc
set_option maxRecDepth 20000 in
theorem u_X8_layOut_116 (l0 l1 : Option Value) (x : Int32) (st : List Value) (h : xH) : xf 107 116 [l0, l1, some (.int x)] st h = xf 107 117 [l0, l1, some (.int x)] (.int x :: st) h := xo_iload (k := 2) (by decide +kernel) rfl
set_option maxRecDepth 20000 in
theorem u_X8_layOut_117 (L : xL) (i : Int32) (a : Nat) (st : List Value) (h : xH) (hx : xix i (xai h a).1) : xf 107 117 L (.int i :: .ref a :: st) h = xf 107 118 L (.int ((xai h a).2 i.toNatClampNeg) :: st) h := xo_iaload (by decide +kernel) hx
set_option maxRecDepth 20000 in
theorem u_X8_layOut_118 (L : xL) (st : List Value) (h : xH) : xf 107 118 L st h = xf 107 119 L (.int (-1) :: st) h := xo_iconst (k := (-1)) (by decide +kernel) (by decide)
set_option maxRecDepth 20000 in
theorem u_X8_layOut_119 (L : xL) (a b : Int32) (st : List Value) (h : xH) : xf 107 119 L (.int b :: .int a :: st) h = if a = b then xf 107 122 L st h else xf 107 165 L st h := xo_icmp_ne (t := 165) (by decide +kernel) rfl
set_option maxRecDepth 20000 in
theorem u_X8_layOut_122 (l1 l2 : Option Value) (x : Nat) (st : List Value) (h : xH) : xf 107 122 [some (.ref x), l1, l2] st h = xf 107 123 [some (.ref x), l1, l2] (.ref x :: st) h := xo_aload (k := 0) (by decide +kernel) rfl
set_option maxRecDepth 20000 in
theorem u_X8_layOut_123 (L : xL) (a : Nat) (st : List Value) (h : xH) (hc : (xob h a).1 = 8) : xf 107 123 L (.ref a :: st) h = xf 107 126 L ((xob h a).2.getD 7 .null :: st) h := xo_getf (r := 519) (by decide +kernel) (by decide) hc
set_option maxRecDepth 20000 in
theorem u_X8_layOut_126 (l1 l2 : Option Value) (x : Nat) (st : List Value) (h : xH) : xf 107 126 [some (.ref x), l1, l2] st h = xf 107 127 [some (.ref x), l1, l2] (.ref x :: st) h := xo_aload (k := 0) (by decide +kernel) rfl
set_option maxRecDepth 20000 in
theorem u_X8_layOut_127 (l0 l1 : Option Value) (x : Int32) (st : List Value) (h : xH) : xf 107 127 [l0, l1, some (.int x)] st h = xf 107 128 [l0, l1, some (.int x)] (.int x :: st) h := xo_iload (k := 2) (by decide +kernel) rfl
set_option maxRecDepth 20000 in
theorem u_X8_layOut_128 (L : xL) (v0 : Int32) (b : Nat) (st : List Value) (h : xH) (hb : (xob h b).1 = 8) (hl : st.length ≤ 4) : xf 107 128 L (.int v0 :: .ref b :: st) h = xgo 107 128 131 L st (xev 105 [.ref b, .int v0] h) := xo_callV (as := [.int v0]) (by decide +kernel) rfl ⟨(by decide +kernel : xna 105 = 1), Nat.le_of_ble_eq_true rfl, rfl, by decide⟩ hb hl
set_option maxRecDepth 20000 in
theorem u_X8_layOut_131 (L : xL) (i : Int32) (a : Nat) (st : List Value) (h : xH) (hx : xix i (xai h a).1) : xf 107 131 L (.int i :: .ref a :: st) h = xf 107 132 L (.int ((xai h a).2 i.toNatClampNeg) :: st) h := xo_iaload (by decide +kernel) hx
set_option maxRecDepth 20000 in
theorem u_X8_layOut_132 (L : xL) (st : List Value) (h : xH) : xf 107 132 L st h = xf 107 133 L (.int (-1) :: st) h := xo_iconst (k := (-1)) (by decide +kernel) (by decide)
set_option maxRecDepth 20000 in
theorem u_X8_layOut_133 (L : xL) (a b : Int32) (st : List Value) (h : xH) : xf 107 133 L (.int b :: .int a :: st) h = if a = b then xf 107 165 L st h else xf 107 136 L st h := xo_icmp_eq (t := 165) (by decide +kernel) rfl
set_option maxRecDepth 20000 in
theorem u_X8_layOut_136 (l1 l2 : Option Value) (x : Nat) (st : List Value) (h : xH) : xf 107 136 [some (.ref x), l1, l2] st h = xf 107 137 [some (.ref x), l1, l2] (.ref x :: st) h := xo_aload (k := 0) (by decide +kernel) rfl
set_option maxRecDepth 20000 in
theorem u_X8_layOut_137 (L : xL) (a : Nat) (st : List Value) (h : xH) (hc : (xob h a).1 = 8) : xf 107 137 L (.ref a :: st) h = xf 107 140 L ((xob h a).2.getD 7 .null :: st) h := xo_getf (r := 519) (by decide +kernel) (by decide) hc
set_option maxRecDepth 20000 in
theorem u_X8_layOut_140 (l1 l2 : Option Value) (x : Nat) (st : List Value) (h : xH) : xf 107 140 [some (.ref x), l1, l2] st h = xf 107 141 [some (.ref x), l1, l2] (.ref x :: st) h := xo_aload (k := 0) (by decide +kernel) rfl
set_option maxRecDepth 20000 in
theorem u_X8_layOut_141 (l0 l1 : Option Value) (x : Int32) (st : List Value) (h : xH) : xf 107 141 [l0, l1, some (.int x)] st h = xf 107 142 [l0, l1, some (.int x)] (.int x :: st) h := xo_iload (k := 2) (by decide +kernel) rfl
set_option maxRecDepth 20000 in
theorem u_X8_layOut_142 (L : xL) (v0 : Int32) (b : Nat) (st : List Value) (h : xH) (hb : (xob h b).1 = 8) (hl : st.length ≤ 4) : xf 107 142 L (.int v0 :: .ref b :: st) h = xgo 107 142 145 L st (xev 106 [.ref b, .int v0] h) := xo_callV (as := [.int v0]) (by decide +kernel) rfl ⟨(by decide +kernel : xna 106 = 1), Nat.le_of_ble_eq_true rfl, rfl, by decide⟩ hb hl
set_option maxRecDepth 20000 in
theorem u_X8_layOut_145 (L : xL) (i : Int32) (a : Nat) (st : List Value) (h : xH) (hx : xix i (xai h a).1) : xf 107 145 L (.int i :: .ref a :: st) h = xf 107 146 L (.int ((xai h a).2 i.toNatClampNeg) :: st) h := xo_iaload (by decide +kernel) hx
set_option maxRecDepth 20000 in
theorem u_X8_layOut_146 (L : xL) (st : List Value) (h : xH) : xf 107 146 L st h = xf 107 147 L (.int (-1) :: st) h := xo_iconst (k := (-1)) (by decide +kernel) (by decide)
set_option maxRecDepth 20000 in
theorem u_X8_layOut_147 (L : xL) (a b : Int32) (st : List Value) (h : xH) : xf 107 147 L (.int b :: .int a :: st) h = if a = b then xf 107 165 L st h else xf 107 150 L st h := xo_icmp_eq (t := 165) (by decide +kernel) rfl
set_option maxRecDepth 20000 in
theorem u_X8_layOut_150 (l1 l2 : Option Value) (x : Nat) (st : List Value) (h : xH) : xf 107 150 [some (.ref x), l1, l2] st h = xf 107 151 [some (.ref x), l1, l2] (.ref x :: st) h := xo_aload (k := 0) (by decide +kernel) rfl
set_option maxRecDepth 20000 in
theorem u_X8_layOut_151 (l0 l1 : Option Value) (x : Int32) (st : List Value) (h : xH) : xf 107 151 [l0, l1, some (.int x)] st h = xf 107 152 [l0, l1, some (.int x)] (.int x :: st) h := xo_iload (k := 2) (by decide +kernel) rfl
set_option maxRecDepth 20000 in
theorem u_X8_layOut_152 (l1 l2 : Option Value) (x : Nat) (st : List Value) (h : xH) : xf 107 152 [some (.ref x), l1, l2] st h = xf 107 153 [some (.ref x), l1, l2] (.ref x :: st) h := xo_aload (k := 0) (by decide +kernel) rfl
set_option maxRecDepth 20000 in
theorem u_X8_layOut_153 (l0 l1 : Option Value) (x : Int32) (st : List Value) (h : xH) : xf 107 153 [l0, l1, some (.int x)] st h = xf 107 154 [l0, l1, some (.int x)] (.int x :: st) h := xo_iload (k := 2) (by decide +kernel) rfl
set_option maxRecDepth 20000 in
theorem u_X8_layOut_154 (L : xL) (v0 : Int32) (b : Nat) (st : List Value) (h : xH) (hb : (xob h b).1 = 8) (hl : st.length ≤ 4) : xf 107 154 L (.int v0 :: .ref b :: st) h = xgo 107 154 157 L st (xev 105 [.ref b, .int v0] h) := xo_callV (as := [.int v0]) (by decide +kernel) rfl ⟨(by decide +kernel : xna 105 = 1), Nat.le_of_ble_eq_true rfl, rfl, by decide⟩ hb hl
set_option maxRecDepth 20000 in
theorem u_X8_layOut_157 (l1 l2 : Option Value) (x : Nat) (st : List Value) (h : xH) : xf 107 157 [some (.ref x), l1, l2] st h = xf 107 158 [some (.ref x), l1, l2] (.ref x :: st) h := xo_aload (k := 0) (by decide +kernel) rfl
set_option maxRecDepth 20000 in
theorem u_X8_layOut_158 (l0 l1 : Option Value) (x : Int32) (st : List Value) (h : xH) : xf 107 158 [l0, l1, some (.int x)] st h = xf 107 159 [l0, l1, some (.int x)] (.int x :: st) h := xo_iload (k := 2) (by decide +kernel) rfl
set_option maxRecDepth 20000 in
theorem u_X8_layOut_159 (L : xL) (v0 : Int32) (b : Nat) (st : List Value) (h : xH) (hb : (xob h b).1 = 8) (hl : st.length ≤ 4) : xf 107 159 L (.int v0 :: .ref b :: st) h = xgo 107 159 162 L st (xev 106 [.ref b, .int v0] h) := xo_callV (as := [.int v0]) (by decide +kernel) rfl ⟨(by decide +kernel : xna 106 = 1), Nat.le_of_ble_eq_true rfl, rfl, by decide⟩ hb hl
set_option maxRecDepth 20000 in
theorem u_X8_layOut_162 (L : xL) (v0 : Int32) (v1 : Int32) (v2 : Int32) (b : Nat) (st : List Value) (h : xH) (hb : (xob h b).1 = 8) (hl : st.length ≤ 4) : xf 107 162 L (.int v2 :: .int v1 :: .int v0 :: .ref b :: st) h = xgo 107 162 165 L st (xev 108 [.ref b, .int v0, .int v1, .int v2] h) := xo_callV (as := [.int v0, .int v1, .int v2]) (by decide +kernel) rfl ⟨(by decide +kernel : xna 108 = 3), Nat.le_of_ble_eq_true rfl, rfl, by decide⟩ hb hl
set_option maxRecDepth 20000 in
theorem u_X8_layOut_165 (l0 l1 : Option Value) (x : Int32) (st : List Value) (h : xH) : xf 107 165 [l0, l1, some (.int x)] st h = xf 107 168 [l0, xcat l1, some (.int (x + 1))] st h := xo_iinc (k := 2) (c := 1) (by decide +kernel) rfl (by decide) rfl
set_option maxRecDepth 20000 in
theorem u_X8_layOut_168 (L : xL) (st : List Value) (h : xH) : xf 107 168 L st h = xf 107 98 L st h := xo_goto (n := 171) (t := 98) (by decide +kernel) rfl
set_option maxRecDepth 20000 in
theorem u_X8_layOut_171 (l0 l2 : Option Value) (x : Int32) (st : List Value) (h : xH) : xf 107 171 [l0, some (.int x), l2] st h = xf 107 174 [xcat l0, some (.int (x + 1)), l2] st h := xo_iinc (k := 1) (c := 1) (by decide +kernel) rfl (by decide) rfl
set_option maxRecDepth 20000 in
theorem u_X8_layOut_174 (L : xL) (st : List Value) (h : xH) : xf 107 174 L st h = xf 107 89 L st h := xo_goto (n := 177) (t := 89) (by decide +kernel) rfl
set_option maxRecDepth 20000 in
theorem u_X8_layOut_177 (L : xL) (h : xH) : xf 107 177 L [] h = some (.inl none, h) := xo_return (n := 178) (by decide +kernel) rfl
set_option maxRecDepth 20000 in
theorem e_X8_layOut (v0 : Nat) (h : xH) : xev 107 [.ref v0] h = xf 107 0 [some (.ref v0), none, none] [] h := rfl
set_option maxRecDepth 20000 in
theorem u_X8_layOne_0 (l1 l2 l3 l4 : Option Value) (x : Nat) (st : List Value) (h : xH) : xf 108 0 [some (.ref x), l1, l2, l3, l4] st h = xf 108 1 [some (.ref x), l1, l2, l3, l4] (.ref x :: st) h := xo_aload (k := 0) (by decide +kernel) rfl
set_option maxRecDepth 20000 in
theorem u_X8_layOne_1 (L : xL) (a : Nat) (st : List Value) (h : xH) (hc : (xob h a).1 = 8) : xf 108 1 L (.ref a :: st) h = xf 108 4 L ((xob h a).2.getD 7 .null :: st) h := xo_getf (r := 519) (by decide +kernel) (by decide) hc
set_option maxRecDepth 20000 in
theorem u_X8_layOne_4 (l0 l2 l3 l4 : Option Value) (x : Int32) (st : List Value) (h : xH) : xf 108 4 [l0, some (.int x), l2, l3, l4] st h = xf 108 5 [l0, some (.int x), l2, l3, l4] (.int x :: st) h := xo_iload (k := 1) (by decide +kernel) rfl
set_option maxRecDepth 20000 in
theorem u_X8_layOne_5 (L : xL) (st : List Value) (h : xH) : xf 108 5 L st h = xf 108 6 L (.int 1 :: st) h := xo_iconst (k := 1) (by decide +kernel) (by decide)
set_option maxRecDepth 20000 in
theorem u_X8_layOne_6 (l1 l2 l3 l4 : Option Value) (x : Nat) (st : List Value) (h : xH) : xf 108 6 [some (.ref x), l1, l2, l3, l4] st h = xf 108 7 [some (.ref x), l1, l2, l3, l4] (.ref x :: st) h := xo_aload (k := 0) (by decide +kernel) rfl
set_option maxRecDepth 20000 in
theorem u_X8_layOne_7 (L : xL) (a : Nat) (st : List Value) (h : xH) (hc : (xob h a).1 = 8) : xf 108 7 L (.ref a :: st) h = xf 108 10 L ((xob h a).2.getD 7 .null :: st) h := xo_getf (r := 519) (by decide +kernel) (by decide) hc
set_option maxRecDepth 20000 in
theorem u_X8_layOne_10 (l0 l1 l3 l4 : Option Value) (x : Int32) (st : List Value) (h : xH) : xf 108 10 [l0, l1, some (.int x), l3, l4] st h = xf 108 11 [l0, l1, some (.int x), l3, l4] (.int x :: st) h := xo_iload (k := 2) (by decide +kernel) rfl
set_option maxRecDepth 20000 in
theorem u_X8_layOne_11 (L : xL) (i : Int32) (a : Nat) (st : List Value) (h : xH) (hx : xix i (xai h a).1) : xf 108 11 L (.int i :: .ref a :: st) h = xf 108 12 L (.int ((xai h a).2 i.toNatClampNeg) :: st) h := xo_iaload (by decide +kernel) hx
set_option maxRecDepth 20000 in
theorem u_X8_layOne_12 (l1 l2 l3 l4 : Option Value) (x : Nat) (st : List Value) (h : xH) : xf 108 12 [some (.ref x), l1, l2, l3, l4] st h = xf 108 13 [some (.ref x), l1, l2, l3, l4] (.ref x :: st) h := xo_aload (k := 0) (by decide +kernel) rfl
set_option maxRecDepth 20000 in
theorem u_X8_layOne_13 (L : xL) (a : Nat) (st : List Value) (h : xH) (hc : (xob h a).1 = 8) : xf 108 13 L (.ref a :: st) h = xf 108 16 L ((xob h a).2.getD 7 .null :: st) h := xo_getf (r := 519) (by decide +kernel) (by decide) hc
set_option maxRecDepth 20000 in
theorem u_X8_layOne_16 (l0 l1 l2 l4 : Option Value) (x : Int32) (st : List Value) (h : xH) : xf 108 16 [l0, l1, l2, some (.int x), l4] st h = xf 108 17 [l0, l1, l2, some (.int x), l4] (.int x :: st) h := xo_iload (k := 3) (by decide +kernel) rfl
set_option maxRecDepth 20000 in
theorem u_X8_layOne_17 (L : xL) (i : Int32) (a : Nat) (st : List Value) (h : xH) (hx : xix i (xai h a).1) : xf 108 17 L (.int i :: .ref a :: st) h = xf 108 18 L (.int ((xai h a).2 i.toNatClampNeg) :: st) h := xo_iaload (by decide +kernel) hx
set_option maxRecDepth 20000 in
theorem u_X8_layOne_18 (L : xL) (a b : Int32) (st : List Value) (h : xH) : xf 108 18 L (.int b :: .int a :: st) h = if b < a then xf 108 21 L st h else xf 108 30 L st h := xo_icmp_le (t := 30) (by decide +kernel) rfl
set_option maxRecDepth 20000 in
theorem u_X8_layOne_21 (l1 l2 l3 l4 : Option Value) (x : Nat) (st : List Value) (h : xH) : xf 108 21 [some (.ref x), l1, l2, l3, l4] st h = xf 108 22 [some (.ref x), l1, l2, l3, l4] (.ref x :: st) h := xo_aload (k := 0) (by decide +kernel) rfl
set_option maxRecDepth 20000 in
theorem u_X8_layOne_22 (L : xL) (a : Nat) (st : List Value) (h : xH) (hc : (xob h a).1 = 8) : xf 108 22 L (.ref a :: st) h = xf 108 25 L ((xob h a).2.getD 7 .null :: st) h := xo_getf (r := 519) (by decide +kernel) (by decide) hc
set_option maxRecDepth 20000 in
theorem u_X8_layOne_25 (l0 l1 l3 l4 : Option Value) (x : Int32) (st : List Value) (h : xH) : xf 108 25 [l0, l1, some (.int x), l3, l4] st h = xf 108 26 [l0, l1, some (.int x), l3, l4] (.int x :: st) h := xo_iload (k := 2) (by decide +kernel) rfl
set_option maxRecDepth 20000 in
theorem u_X8_layOne_26 (L : xL) (i : Int32) (a : Nat) (st : List Value) (h : xH) (hx : xix i (xai h a).1) : xf 108 26 L (.int i :: .ref a :: st) h = xf 108 27 L (.int ((xai h a).2 i.toNatClampNeg) :: st) h := xo_iaload (by decide +kernel) hx
set_option maxRecDepth 20000 in
theorem u_X8_layOne_27 (L : xL) (st : List Value) (h : xH) : xf 108 27 L st h = xf 108 36 L st h := xo_goto (n := 30) (t := 36) (by decide +kernel) rfl
set_option maxRecDepth 20000 in
theorem u_X8_layOne_30 (l1 l2 l3 l4 : Option Value) (x : Nat) (st : List Value) (h : xH) : xf 108 30 [some (.ref x), l1, l2, l3, l4] st h = xf 108 31 [some (.ref x), l1, l2, l3, l4] (.ref x :: st) h := xo_aload (k := 0) (by decide +kernel) rfl
set_option maxRecDepth 20000 in
theorem u_X8_layOne_31 (L : xL) (a : Nat) (st : List Value) (h : xH) (hc : (xob h a).1 = 8) : xf 108 31 L (.ref a :: st) h = xf 108 34 L ((xob h a).2.getD 7 .null :: st) h := xo_getf (r := 519) (by decide +kernel) (by decide) hc
set_option maxRecDepth 20000 in
theorem u_X8_layOne_34 (l0 l1 l2 l4 : Option Value) (x : Int32) (st : List Value) (h : xH) : xf 108 34 [l0, l1, l2, some (.int x), l4] st h = xf 108 35 [l0, l1, l2, some (.int x), l4] (.int x :: st) h := xo_iload (k := 3) (by decide +kernel) rfl
set_option maxRecDepth 20000 in
theorem u_X8_layOne_35 (L : xL) (i : Int32) (a : Nat) (st : List Value) (h : xH) (hx : xix i (xai h a).1) : xf 108 35 L (.int i :: .ref a :: st) h = xf 108 36 L (.int ((xai h a).2 i.toNatClampNeg) :: st) h := xo_iaload (by decide +kernel) hx
set_option maxRecDepth 20000 in
theorem u_X8_layOne_36 (L : xL) (a b : Int32) (st : List Value) (h : xH) : xf 108 36 L (.int b :: .int a :: st) h = xf 108 37 L (.int (a + b) :: st) h := xo_iadd (by decide +kernel)
set_option maxRecDepth 20000 in
theorem u_X8_layOne_37 (L : xL) (v i : Int32) (a : Nat) (st : List Value) (h : xH) (hx : xix i (xai h a).1) : xf 108 37 L (.int v :: .int i :: .ref a :: st) h = xf 108 38 L st (xsi h a i.toNatClampNeg v) := xo_iastore (by decide +kernel) hx
set_option maxRecDepth 20000 in
theorem u_X8_layOne_38 (l1 l2 l3 l4 : Option Value) (x : Nat) (st : List Value) (h : xH) : xf 108 38 [some (.ref x), l1, l2, l3, l4] st h = xf 108 39 [some (.ref x), l1, l2, l3, l4] (.ref x :: st) h := xo_aload (k := 0) (by decide +kernel) rfl
set_option maxRecDepth 20000 in
theorem u_X8_layOne_39 (L : xL) (a : Nat) (st : List Value) (h : xH) (hc : (xob h a).1 = 8) : xf 108 39 L (.ref a :: st) h = xf 108 42 L ((xob h a).2.getD 8 .null :: st) h := xo_getf (r := 520) (by decide +kernel) (by decide) hc
set_option maxRecDepth 20000 in
theorem u_X8_layOne_42 (l0 l2 l3 l4 : Option Value) (x : Int32) (st : List Value) (h : xH) : xf 108 42 [l0, some (.int x), l2, l3, l4] st h = xf 108 43 [l0, some (.int x), l2, l3, l4] (.int x :: st) h := xo_iload (k := 1) (by decide +kernel) rfl
set_option maxRecDepth 20000 in
theorem u_X8_layOne_43 (l1 l2 l3 l4 : Option Value) (x : Nat) (st : List Value) (h : xH) : xf 108 43 [some (.ref x), l1, l2, l3, l4] st h = xf 108 44 [some (.ref x), l1, l2, l3, l4] (.ref x :: st) h := xo_aload (k := 0) (by decide +kernel) rfl
set_option maxRecDepth 20000 in
theorem u_X8_layOne_44 (L : xL) (a : Nat) (st : List Value) (h : xH) (hc : (xob h a).1 = 8) : xf 108 44 L (.ref a :: st) h = xf 108 47 L ((xob h a).2.getD 8 .null :: st) h := xo_getf (r := 520) (by decide +kernel) (by decide) hc
set_option maxRecDepth 20000 in
theorem u_X8_layOne_47 (l0 l1 l3 l4 : Option Value) (x : Int32) (st : List Value) (h : xH) : xf 108 47 [l0, l1, some (.int x), l3, l4] st h = xf 108 48 [l0, l1, some (.int x), l3, l4] (.int x :: st) h := xo_iload (k := 2) (by decide +kernel) rfl
set_option maxRecDepth 20000 in
theorem u_X8_layOne_48 (L : xL) (i : Int32) (a : Nat) (st : List Value) (h : xH) (hx : xix i (xai h a).1) : xf 108 48 L (.int i :: .ref a :: st) h = xf 108 49 L (.int ((xai h a).2 i.toNatClampNeg) :: st) h := xo_iaload (by decide +kernel) hx
set_option maxRecDepth 20000 in
theorem u_X8_layOne_49 (l1 l2 l3 l4 : Option Value) (x : Nat) (st : List Value) (h : xH) : xf 108 49 [some (.ref x), l1, l2, l3, l4] st h = xf 108 50 [some (.ref x), l1, l2, l3, l4] (.ref x :: st) h := xo_aload (k := 0) (by decide +kernel) rfl
set_option maxRecDepth 20000 in
theorem u_X8_layOne_50 (L : xL) (a : Nat) (st : List Value) (h : xH) (hc : (xob h a).1 = 8) : xf 108 50 L (.ref a :: st) h = xf 108 53 L ((xob h a).2.getD 8 .null :: st) h := xo_getf (r := 520) (by decide +kernel) (by decide) hc
set_option maxRecDepth 20000 in
theorem u_X8_layOne_53 (l0 l1 l2 l4 : Option Value) (x : Int32) (st : List Value) (h : xH) : xf 108 53 [l0, l1, l2, some (.int x), l4] st h = xf 108 54 [l0, l1, l2, some (.int x), l4] (.int x :: st) h := xo_iload (k := 3) (by decide +kernel) rfl
set_option maxRecDepth 20000 in
theorem u_X8_layOne_54 (L : xL) (i : Int32) (a : Nat) (st : List Value) (h : xH) (hx : xix i (xai h a).1) : xf 108 54 L (.int i :: .ref a :: st) h = xf 108 55 L (.int ((xai h a).2 i.toNatClampNeg) :: st) h := xo_iaload (by decide +kernel) hx
set_option maxRecDepth 20000 in
theorem u_X8_layOne_55 (L : xL) (a b : Int32) (st : List Value) (h : xH) : xf 108 55 L (.int b :: .int a :: st) h = xf 108 56 L (.int (a + b) :: st) h := xo_iadd (by decide +kernel)
set_option maxRecDepth 20000 in
theorem u_X8_layOne_56 (L : xL) (v i : Int32) (a : Nat) (st : List Value) (h : xH) (hx : xix i (xai h a).1) : xf 108 56 L (.int v :: .int i :: .ref a :: st) h = xf 108 57 L st (xsi h a i.toNatClampNeg v) := xo_iastore (by decide +kernel) hx
set_option maxRecDepth 20000 in
theorem u_X8_layOne_57 (l1 l2 l3 l4 : Option Value) (x : Nat) (st : List Value) (h : xH) : xf 108 57 [some (.ref x), l1, l2, l3, l4] st h = xf 108 58 [some (.ref x), l1, l2, l3, l4] (.ref x :: st) h := xo_aload (k := 0) (by decide +kernel) rfl
set_option maxRecDepth 20000 in
theorem u_X8_layOne_58 (L : xL) (a : Nat) (st : List Value) (h : xH) (hc : (xob h a).1 = 8) : xf 108 58 L (.ref a :: st) h = xf 108 61 L ((xob h a).2.getD 9 .null :: st) h := xo_getf (r := 521) (by decide +kernel) (by decide) hc
set_option maxRecDepth 20000 in
theorem u_X8_layOne_61 (l0 l2 l3 l4 : Option Value) (x : Int32) (st : List Value) (h : xH) : xf 108 61 [l0, some (.int x), l2, l3, l4] st h = xf 108 62 [l0, some (.int x), l2, l3, l4] (.int x :: st) h := xo_iload (k := 1) (by decide +kernel) rfl
set_option maxRecDepth 20000 in
theorem u_X8_layOne_62 (l1 l2 l3 l4 : Option Value) (x : Nat) (st : List Value) (h : xH) : xf 108 62 [some (.ref x), l1, l2, l3, l4] st h = xf 108 63 [some (.ref x), l1, l2, l3, l4] (.ref x :: st) h := xo_aload (k := 0) (by decide +kernel) rfl
set_option maxRecDepth 20000 in
theorem u_X8_layOne_63 (L : xL) (a : Nat) (st : List Value) (h : xH) (hc : (xob h a).1 = 8) : xf 108 63 L (.ref a :: st) h = xf 108 66 L ((xob h a).2.getD 9 .null :: st) h := xo_getf (r := 521) (by decide +kernel) (by decide) hc
set_option maxRecDepth 20000 in
theorem u_X8_layOne_66 (l0 l1 l3 l4 : Option Value) (x : Int32) (st : List Value) (h : xH) : xf 108 66 [l0, l1, some (.int x), l3, l4] st h = xf 108 67 [l0, l1, some (.int x), l3, l4] (.int x :: st) h := xo_iload (k := 2) (by decide +kernel) rfl
set_option maxRecDepth 20000 in
theorem u_X8_layOne_67 (L : xL) (i : Int32) (a : Nat) (st : List Value) (h : xH) (hx : xix i (xai h a).1) : xf 108 67 L (.int i :: .ref a :: st) h = xf 108 68 L (.int ((xai h a).2 i.toNatClampNeg) :: st) h := xo_iaload (by decide +kernel) hx
set_option maxRecDepth 20000 in
theorem u_X8_layOne_68 (L : xL) (v i : Int32) (a : Nat) (st : List Value) (h : xH) (hx : xix i (xai h a).1) : xf 108 68 L (.int v :: .int i :: .ref a :: st) h = xf 108 69 L st (xsi h a i.toNatClampNeg v) := xo_iastore (by decide +kernel) hx
set_option maxRecDepth 20000 in
theorem u_X8_layOne_69 (l1 l2 l3 l4 : Option Value) (x : Nat) (st : List Value) (h : xH) : xf 108 69 [some (.ref x), l1, l2, l3, l4] st h = xf 108 70 [some (.ref x), l1, l2, l3, l4] (.ref x :: st) h := xo_aload (k := 0) (by decide +kernel) rfl
set_option maxRecDepth 20000 in
theorem u_X8_layOne_70 (L : xL) (a : Nat) (st : List Value) (h : xH) (hc : (xob h a).1 = 8) : xf 108 70 L (.ref a :: st) h = xf 108 73 L ((xob h a).2.getD 10 .null :: st) h := xo_getf (r := 522) (by decide +kernel) (by decide) hc
set_option maxRecDepth 20000 in
theorem u_X8_layOne_73 (l0 l2 l3 l4 : Option Value) (x : Int32) (st : List Value) (h : xH) : xf 108 73 [l0, some (.int x), l2, l3, l4] st h = xf 108 74 [l0, some (.int x), l2, l3, l4] (.int x :: st) h := xo_iload (k := 1) (by decide +kernel) rfl
set_option maxRecDepth 20000 in
theorem u_X8_layOne_74 (l1 l2 l3 l4 : Option Value) (x : Nat) (st : List Value) (h : xH) : xf 108 74 [some (.ref x), l1, l2, l3, l4] st h = xf 108 75 [some (.ref x), l1, l2, l3, l4] (.ref x :: st) h := xo_aload (k := 0) (by decide +kernel) rfl
set_option maxRecDepth 20000 in
theorem u_X8_layOne_75 (L : xL) (a : Nat) (st : List Value) (h : xH) (hc : (xob h a).1 = 8) : xf 108 75 L (.ref a :: st) h = xf 108 78 L ((xob h a).2.getD 10 .null :: st) h := xo_getf (r := 522) (by decide +kernel) (by decide) hc
set_option maxRecDepth 20000 in
theorem u_X8_layOne_78 (l0 l1 l2 l4 : Option Value) (x : Int32) (st : List Value) (h : xH) : xf 108 78 [l0, l1, l2, some (.int x), l4] st h = xf 108 79 [l0, l1, l2, some (.int x), l4] (.int x :: st) h := xo_iload (k := 3) (by decide +kernel) rfl
set_option maxRecDepth 20000 in
theorem u_X8_layOne_79 (L : xL) (i : Int32) (a : Nat) (st : List Value) (h : xH) (hx : xix i (xai h a).1) : xf 108 79 L (.int i :: .ref a :: st) h = xf 108 80 L (.int ((xai h a).2 i.toNatClampNeg) :: st) h := xo_iaload (by decide +kernel) hx
set_option maxRecDepth 20000 in
theorem u_X8_layOne_80 (L : xL) (v i : Int32) (a : Nat) (st : List Value) (h : xH) (hx : xix i (xai h a).1) : xf 108 80 L (.int v :: .int i :: .ref a :: st) h = xf 108 81 L st (xsi h a i.toNatClampNeg v) := xo_iastore (by decide +kernel) hx
set_option maxRecDepth 20000 in
theorem u_X8_layOne_81 (L : xL) (st : List Value) (h : xH) : xf 108 81 L st h = xf 108 82 L (.int 0 :: st) h := xo_iconst (k := 0) (by decide +kernel) (by decide)
set_option maxRecDepth 20000 in
theorem u_X8_layOne_82 (l0 l1 l2 l3 l4 : Option Value) (x : Int32) (st : List Value) (h : xH) : xf 108 82 [l0, l1, l2, l3, l4] (.int x :: st) h = xf 108 84 [l0, l1, l2, xcat l3, some (.int x)] st h := xo_istore (k := 4) (by decide +kernel) (Nat.le_of_ble_eq_true rfl) rfl
set_option maxRecDepth 20000 in
theorem u_X8_layOne_84 (l0 l1 l2 l3 : Option Value) (x : Int32) (st : List Value) (h : xH) : xf 108 84 [l0, l1, l2, l3, some (.int x)] st h = xf 108 86 [l0, l1, l2, l3, some (.int x)] (.int x :: st) h := xo_iload (k := 4) (by decide +kernel) rfl
set_option maxRecDepth 20000 in
theorem u_X8_layOne_86 (L : xL) (st : List Value) (h : xH) : xf 108 86 L st h = xf 108 88 L (.int 8 :: st) h := xo_iconst (k := 8) (by decide +kernel) (by decide)
set_option maxRecDepth 20000 in
theorem u_X8_layOne_88 (L : xL) (a b : Int32) (st : List Value) (h : xH) : xf 108 88 L (.int b :: .int a :: st) h = if a < b then xf 108 91 L st h else xf 108 134 L st h := xo_icmp_ge (t := 134) (by decide +kernel) rfl
set_option maxRecDepth 20000 in
theorem u_X8_layOne_91 (l1 l2 l3 l4 : Option Value) (x : Nat) (st : List Value) (h : xH) : xf 108 91 [some (.ref x), l1, l2, l3, l4] st h = xf 108 92 [some (.ref x), l1, l2, l3, l4] (.ref x :: st) h := xo_aload (k := 0) (by decide +kernel) rfl
set_option maxRecDepth 20000 in
theorem u_X8_layOne_92 (L : xL) (a : Nat) (st : List Value) (h : xH) (hc : (xob h a).1 = 8) : xf 108 92 L (.ref a :: st) h = xf 108 95 L ((xob h a).2.getD 11 .null :: st) h := xo_getf (r := 523) (by decide +kernel) (by decide) hc
set_option maxRecDepth 20000 in
theorem u_X8_layOne_95 (L : xL) (st : List Value) (h : xH) : xf 108 95 L st h = xf 108 97 L (.int 8 :: st) h := xo_iconst (k := 8) (by decide +kernel) (by decide)
set_option maxRecDepth 20000 in
theorem u_X8_layOne_97 (l0 l2 l3 l4 : Option Value) (x : Int32) (st : List Value) (h : xH) : xf 108 97 [l0, some (.int x), l2, l3, l4] st h = xf 108 98 [l0, some (.int x), l2, l3, l4] (.int x :: st) h := xo_iload (k := 1) (by decide +kernel) rfl
set_option maxRecDepth 20000 in
theorem u_X8_layOne_98 (L : xL) (a b : Int32) (st : List Value) (h : xH) : xf 108 98 L (.int b :: .int a :: st) h = xf 108 99 L (.int (a * b) :: st) h := xo_imul (by decide +kernel)
set_option maxRecDepth 20000 in
theorem u_X8_layOne_99 (l0 l1 l2 l3 : Option Value) (x : Int32) (st : List Value) (h : xH) : xf 108 99 [l0, l1, l2, l3, some (.int x)] st h = xf 108 101 [l0, l1, l2, l3, some (.int x)] (.int x :: st) h := xo_iload (k := 4) (by decide +kernel) rfl
set_option maxRecDepth 20000 in
theorem u_X8_layOne_101 (L : xL) (a b : Int32) (st : List Value) (h : xH) : xf 108 101 L (.int b :: .int a :: st) h = xf 108 102 L (.int (a + b) :: st) h := xo_iadd (by decide +kernel)
set_option maxRecDepth 20000 in
theorem u_X8_layOne_102 (l1 l2 l3 l4 : Option Value) (x : Nat) (st : List Value) (h : xH) : xf 108 102 [some (.ref x), l1, l2, l3, l4] st h = xf 108 103 [some (.ref x), l1, l2, l3, l4] (.ref x :: st) h := xo_aload (k := 0) (by decide +kernel) rfl
set_option maxRecDepth 20000 in
theorem u_X8_layOne_103 (L : xL) (a : Nat) (st : List Value) (h : xH) (hc : (xob h a).1 = 8) : xf 108 103 L (.ref a :: st) h = xf 108 106 L ((xob h a).2.getD 11 .null :: st) h := xo_getf (r := 523) (by decide +kernel) (by decide) hc
set_option maxRecDepth 20000 in
theorem u_X8_layOne_106 (L : xL) (st : List Value) (h : xH) : xf 108 106 L st h = xf 108 108 L (.int 8 :: st) h := xo_iconst (k := 8) (by decide +kernel) (by decide)
set_option maxRecDepth 20000 in
theorem u_X8_layOne_108 (l0 l1 l3 l4 : Option Value) (x : Int32) (st : List Value) (h : xH) : xf 108 108 [l0, l1, some (.int x), l3, l4] st h = xf 108 109 [l0, l1, some (.int x), l3, l4] (.int x :: st) h := xo_iload (k := 2) (by decide +kernel) rfl
set_option maxRecDepth 20000 in
theorem u_X8_layOne_109 (L : xL) (a b : Int32) (st : List Value) (h : xH) : xf 108 109 L (.int b :: .int a :: st) h = xf 108 110 L (.int (a * b) :: st) h := xo_imul (by decide +kernel)
set_option maxRecDepth 20000 in
theorem u_X8_layOne_110 (l0 l1 l2 l3 : Option Value) (x : Int32) (st : List Value) (h : xH) : xf 108 110 [l0, l1, l2, l3, some (.int x)] st h = xf 108 112 [l0, l1, l2, l3, some (.int x)] (.int x :: st) h := xo_iload (k := 4) (by decide +kernel) rfl
set_option maxRecDepth 20000 in
theorem u_X8_layOne_112 (L : xL) (a b : Int32) (st : List Value) (h : xH) : xf 108 112 L (.int b :: .int a :: st) h = xf 108 113 L (.int (a + b) :: st) h := xo_iadd (by decide +kernel)
set_option maxRecDepth 20000 in
theorem u_X8_layOne_113 (L : xL) (i : Int32) (a : Nat) (st : List Value) (h : xH) (hx : xix i (xai h a).1) : xf 108 113 L (.int i :: .ref a :: st) h = xf 108 114 L (.int ((xai h a).2 i.toNatClampNeg) :: st) h := xo_iaload (by decide +kernel) hx
set_option maxRecDepth 20000 in
theorem u_X8_layOne_114 (l1 l2 l3 l4 : Option Value) (x : Nat) (st : List Value) (h : xH) : xf 108 114 [some (.ref x), l1, l2, l3, l4] st h = xf 108 115 [some (.ref x), l1, l2, l3, l4] (.ref x :: st) h := xo_aload (k := 0) (by decide +kernel) rfl
set_option maxRecDepth 20000 in
theorem u_X8_layOne_115 (L : xL) (a : Nat) (st : List Value) (h : xH) (hc : (xob h a).1 = 8) : xf 108 115 L (.ref a :: st) h = xf 108 118 L ((xob h a).2.getD 11 .null :: st) h := xo_getf (r := 523) (by decide +kernel) (by decide) hc
set_option maxRecDepth 20000 in
theorem u_X8_layOne_118 (L : xL) (st : List Value) (h : xH) : xf 108 118 L st h = xf 108 120 L (.int 8 :: st) h := xo_iconst (k := 8) (by decide +kernel) (by decide)
set_option maxRecDepth 20000 in
theorem u_X8_layOne_120 (l0 l1 l2 l4 : Option Value) (x : Int32) (st : List Value) (h : xH) : xf 108 120 [l0, l1, l2, some (.int x), l4] st h = xf 108 121 [l0, l1, l2, some (.int x), l4] (.int x :: st) h := xo_iload (k := 3) (by decide +kernel) rfl
set_option maxRecDepth 20000 in
theorem u_X8_layOne_121 (L : xL) (a b : Int32) (st : List Value) (h : xH) : xf 108 121 L (.int b :: .int a :: st) h = xf 108 122 L (.int (a * b) :: st) h := xo_imul (by decide +kernel)
set_option maxRecDepth 20000 in
theorem u_X8_layOne_122 (l0 l1 l2 l3 : Option Value) (x : Int32) (st : List Value) (h : xH) : xf 108 122 [l0, l1, l2, l3, some (.int x)] st h = xf 108 124 [l0, l1, l2, l3, some (.int x)] (.int x :: st) h := xo_iload (k := 4) (by decide +kernel) rfl
set_option maxRecDepth 20000 in
theorem u_X8_layOne_124 (L : xL) (a b : Int32) (st : List Value) (h : xH) : xf 108 124 L (.int b :: .int a :: st) h = xf 108 125 L (.int (a + b) :: st) h := xo_iadd (by decide +kernel)
set_option maxRecDepth 20000 in
theorem u_X8_layOne_125 (L : xL) (i : Int32) (a : Nat) (st : List Value) (h : xH) (hx : xix i (xai h a).1) : xf 108 125 L (.int i :: .ref a :: st) h = xf 108 126 L (.int ((xai h a).2 i.toNatClampNeg) :: st) h := xo_iaload (by decide +kernel) hx
set_option maxRecDepth 20000 in
theorem u_X8_layOne_126 (L : xL) (a b : Int32) (st : List Value) (h : xH) : xf 108 126 L (.int b :: .int a :: st) h = xf 108 127 L (.int (a + b) :: st) h := xo_iadd (by decide +kernel)
set_option maxRecDepth 20000 in
theorem u_X8_layOne_127 (L : xL) (v i : Int32) (a : Nat) (st : List Value) (h : xH) (hx : xix i (xai h a).1) : xf 108 127 L (.int v :: .int i :: .ref a :: st) h = xf 108 128 L st (xsi h a i.toNatClampNeg v) := xo_iastore (by decide +kernel) hx
set_option maxRecDepth 20000 in
theorem u_X8_layOne_128 (l0 l1 l2 l3 : Option Value) (x : Int32) (st : List Value) (h : xH) : xf 108 128 [l0, l1, l2, l3, some (.int x)] st h = xf 108 131 [l0, l1, l2, xcat l3, some (.int (x + 1))] st h := xo_iinc (k := 4) (c := 1) (by decide +kernel) rfl (by decide) rfl
set_option maxRecDepth 20000 in
theorem u_X8_layOne_131 (L : xL) (st : List Value) (h : xH) : xf 108 131 L st h = xf 108 84 L st h := xo_goto (n := 134) (t := 84) (by decide +kernel) rfl
set_option maxRecDepth 20000 in
theorem u_X8_layOne_134 (L : xL) (h : xH) : xf 108 134 L [] h = some (.inl none, h) := xo_return (n := 135) (by decide +kernel) rfl
set_option maxRecDepth 20000 in
theorem e_X8_layOne (v0 : Nat) (v1 : Int32) (v2 : Int32) (v3 : Int32) (h : xH) : xev 108 [.ref v0, .int v1, .int v2, .int v3] h = xf 108 0 [some (.ref v0), some (.int v1), some (.int v2), some (.int v3), none] [] h := rfl
set_option maxRecDepth 20000 in
theorem u_X8_inRow_0 (L : xL) (st : List Value) (h : xH) : xf 109 0 L st h = xf 109 1 L (.int 0 :: st) h := xo_iconst (k := 0) (by decide +kernel) (by decide)
set_option maxRecDepth 20000 in
theorem u_X8_inRow_1 (l0 l1 l2 l3 : Option Value) (x : Int32) (st : List Value) (h : xH) : xf 109 1 [l0, l1, l2, l3] (.int x :: st) h = xf 109 2 [l0, xcat l1, some (.int x), l3] st h := xo_istore (k := 2) (by decide +kernel) (Nat.le_of_ble_eq_true rfl) rfl
set_option maxRecDepth 20000 in
theorem u_X8_inRow_2 (L : xL) (st : List Value) (h : xH) : xf 109 2 L st h = xf 109 3 L (.int 0 :: st) h := xo_iconst (k := 0) (by decide +kernel) (by decide)
set_option maxRecDepth 20000 in
theorem u_X8_inRow_3 (l0 l1 l2 l3 : Option Value) (x : Int32) (st : List Value) (h : xH) : xf 109 3 [l0, l1, l2, l3] (.int x :: st) h = xf 109 4 [l0, l1, xcat l2, some (.int x)] st h := xo_istore (k := 3) (by decide +kernel) (Nat.le_of_ble_eq_true rfl) rfl
set_option maxRecDepth 20000 in
theorem u_X8_inRow_4 (l0 l1 l2 : Option Value) (x : Int32) (st : List Value) (h : xH) : xf 109 4 [l0, l1, l2, some (.int x)] st h = xf 109 5 [l0, l1, l2, some (.int x)] (.int x :: st) h := xo_iload (k := 3) (by decide +kernel) rfl
set_option maxRecDepth 20000 in
theorem u_X8_inRow_5 (l1 l2 l3 : Option Value) (x : Nat) (st : List Value) (h : xH) : xf 109 5 [some (.ref x), l1, l2, l3] st h = xf 109 6 [some (.ref x), l1, l2, l3] (.ref x :: st) h := xo_aload (k := 0) (by decide +kernel) rfl
set_option maxRecDepth 20000 in
theorem u_X8_inRow_6 (L : xL) (a : Nat) (st : List Value) (h : xH) (hc : (xob h a).1 = 8) : xf 109 6 L (.ref a :: st) h = xf 109 9 L ((xob h a).2.getD 1 .null :: st) h := xo_getf (r := 513) (by decide +kernel) (by decide) hc
set_option maxRecDepth 20000 in
theorem u_X8_inRow_9 (L : xL) (st : List Value) (h : xH) : xf 109 9 L st h = xf 109 10 L (.int 0 :: st) h := xo_iconst (k := 0) (by decide +kernel) (by decide)
set_option maxRecDepth 20000 in
theorem u_X8_inRow_10 (L : xL) (i : Int32) (a : Nat) (st : List Value) (h : xH) (hx : xix i (xai h a).1) : xf 109 10 L (.int i :: .ref a :: st) h = xf 109 11 L (.int ((xai h a).2 i.toNatClampNeg) :: st) h := xo_iaload (by decide +kernel) hx
set_option maxRecDepth 20000 in
theorem u_X8_inRow_11 (L : xL) (a b : Int32) (st : List Value) (h : xH) : xf 109 11 L (.int b :: .int a :: st) h = if a < b then xf 109 14 L st h else xf 109 40 L st h := xo_icmp_ge (t := 40) (by decide +kernel) rfl
set_option maxRecDepth 20000 in
theorem u_X8_inRow_14 (l0 l1 l3 : Option Value) (x : Int32) (st : List Value) (h : xH) : xf 109 14 [l0, l1, some (.int x), l3] st h = xf 109 15 [l0, l1, some (.int x), l3] (.int x :: st) h := xo_iload (k := 2) (by decide +kernel) rfl
set_option maxRecDepth 20000 in
theorem u_X8_inRow_15 (l1 l2 l3 : Option Value) (x : Nat) (st : List Value) (h : xH) : xf 109 15 [some (.ref x), l1, l2, l3] st h = xf 109 16 [some (.ref x), l1, l2, l3] (.ref x :: st) h := xo_aload (k := 0) (by decide +kernel) rfl
set_option maxRecDepth 20000 in
theorem u_X8_inRow_16 (L : xL) (a : Nat) (st : List Value) (h : xH) (hc : (xob h a).1 = 8) : xf 109 16 L (.ref a :: st) h = xf 109 19 L ((xob h a).2.getD 1 .null :: st) h := xo_getf (r := 513) (by decide +kernel) (by decide) hc
set_option maxRecDepth 20000 in
theorem u_X8_inRow_19 (L : xL) (st : List Value) (h : xH) : xf 109 19 L st h = xf 109 20 L (.int 1 :: st) h := xo_iconst (k := 1) (by decide +kernel) (by decide)
set_option maxRecDepth 20000 in
theorem u_X8_inRow_20 (l0 l1 l2 : Option Value) (x : Int32) (st : List Value) (h : xH) : xf 109 20 [l0, l1, l2, some (.int x)] st h = xf 109 21 [l0, l1, l2, some (.int x)] (.int x :: st) h := xo_iload (k := 3) (by decide +kernel) rfl
set_option maxRecDepth 20000 in
theorem u_X8_inRow_21 (L : xL) (a b : Int32) (st : List Value) (h : xH) : xf 109 21 L (.int b :: .int a :: st) h = xf 109 22 L (.int (a + b) :: st) h := xo_iadd (by decide +kernel)
set_option maxRecDepth 20000 in
theorem u_X8_inRow_22 (L : xL) (i : Int32) (a : Nat) (st : List Value) (h : xH) (hx : xix i (xai h a).1) : xf 109 22 L (.int i :: .ref a :: st) h = xf 109 23 L (.int ((xai h a).2 i.toNatClampNeg) :: st) h := xo_iaload (by decide +kernel) hx
set_option maxRecDepth 20000 in
theorem u_X8_inRow_23 (l0 l2 l3 : Option Value) (x : Int32) (st : List Value) (h : xH) : xf 109 23 [l0, some (.int x), l2, l3] st h = xf 109 24 [l0, some (.int x), l2, l3] (.int x :: st) h := xo_iload (k := 1) (by decide +kernel) rfl
set_option maxRecDepth 20000 in
theorem u_X8_inRow_24 (L : xL) (a b : Int32) (st : List Value) (h : xH) : xf 109 24 L (.int b :: .int a :: st) h = if a = b then xf 109 27 L st h else xf 109 31 L st h := xo_icmp_ne (t := 31) (by decide +kernel) rfl
set_option maxRecDepth 20000 in
theorem u_X8_inRow_27 (L : xL) (st : List Value) (h : xH) : xf 109 27 L st h = xf 109 28 L (.int 1 :: st) h := xo_iconst (k := 1) (by decide +kernel) (by decide)
set_option maxRecDepth 20000 in
theorem u_X8_inRow_28 (L : xL) (st : List Value) (h : xH) : xf 109 28 L st h = xf 109 32 L st h := xo_goto (n := 31) (t := 32) (by decide +kernel) rfl
set_option maxRecDepth 20000 in
theorem u_X8_inRow_31 (L : xL) (st : List Value) (h : xH) : xf 109 31 L st h = xf 109 32 L (.int 0 :: st) h := xo_iconst (k := 0) (by decide +kernel) (by decide)
set_option maxRecDepth 20000 in
theorem u_X8_inRow_32 (L : xL) (a b : Int32) (st : List Value) (h : xH) : xf 109 32 L (.int b :: .int a :: st) h = xf 109 33 L (.int (a + b) :: st) h := xo_iadd (by decide +kernel)
set_option maxRecDepth 20000 in
theorem u_X8_inRow_33 (l0 l1 l2 l3 : Option Value) (x : Int32) (st : List Value) (h : xH) : xf 109 33 [l0, l1, l2, l3] (.int x :: st) h = xf 109 34 [l0, xcat l1, some (.int x), l3] st h := xo_istore (k := 2) (by decide +kernel) (Nat.le_of_ble_eq_true rfl) rfl
set_option maxRecDepth 20000 in
theorem u_X8_inRow_34 (l0 l1 l2 : Option Value) (x : Int32) (st : List Value) (h : xH) : xf 109 34 [l0, l1, l2, some (.int x)] st h = xf 109 37 [l0, l1, xcat l2, some (.int (x + 1))] st h := xo_iinc (k := 3) (c := 1) (by decide +kernel) rfl (by decide) rfl
set_option maxRecDepth 20000 in
theorem u_X8_inRow_37 (L : xL) (st : List Value) (h : xH) : xf 109 37 L st h = xf 109 4 L st h := xo_goto (n := 40) (t := 4) (by decide +kernel) rfl
set_option maxRecDepth 20000 in
theorem u_X8_inRow_40 (l0 l1 l3 : Option Value) (x : Int32) (st : List Value) (h : xH) : xf 109 40 [l0, l1, some (.int x), l3] st h = xf 109 41 [l0, l1, some (.int x), l3] (.int x :: st) h := xo_iload (k := 2) (by decide +kernel) rfl
set_option maxRecDepth 20000 in
theorem u_X8_inRow_41 (L : xL) (x : Int32) (h : xH) : xf 109 41 L [.int x] h = some (.inl (some (.int x)), h) := xo_ireturn (n := 42) (by decide +kernel) rfl
set_option maxRecDepth 20000 in
theorem e_X8_inRow (v0 : Nat) (v1 : Int32) (h : xH) : xev 109 [.ref v0, .int v1] h = xf 109 0 [some (.ref v0), some (.int v1), none, none] [] h := rfl
set_option maxRecDepth 20000 in
theorem u_X8_inPairs_0 (L : xL) (st : List Value) (h : xH) : xf 110 0 L st h = xf 110 1 L (.int 0 :: st) h := xo_iconst (k := 0) (by decide +kernel) (by decide)
set_option maxRecDepth 20000 in
theorem u_X8_inPairs_1 (l0 l1 l2 l3 : Option Value) (x : Int32) (st : List Value) (h : xH) : xf 110 1 [l0, l1, l2, l3] (.int x :: st) h = xf 110 2 [l0, xcat l1, some (.int x), l3] st h := xo_istore (k := 2) (by decide +kernel) (Nat.le_of_ble_eq_true rfl) rfl
set_option maxRecDepth 20000 in
theorem u_X8_inPairs_2 (L : xL) (st : List Value) (h : xH) : xf 110 2 L st h = xf 110 4 L (.int 8 :: st) h := xo_iconst (k := 8) (by decide +kernel) (by decide)
set_option maxRecDepth 20000 in
theorem u_X8_inPairs_4 (l0 l1 l2 l3 : Option Value) (x : Int32) (st : List Value) (h : xH) : xf 110 4 [l0, l1, l2, l3] (.int x :: st) h = xf 110 5 [l0, l1, xcat l2, some (.int x)] st h := xo_istore (k := 3) (by decide +kernel) (Nat.le_of_ble_eq_true rfl) rfl
set_option maxRecDepth 20000 in
theorem u_X8_inPairs_5 (l0 l1 l2 : Option Value) (x : Int32) (st : List Value) (h : xH) : xf 110 5 [l0, l1, l2, some (.int x)] st h = xf 110 6 [l0, l1, l2, some (.int x)] (.int x :: st) h := xo_iload (k := 3) (by decide +kernel) rfl
set_option maxRecDepth 20000 in
theorem u_X8_inPairs_6 (L : xL) (st : List Value) (h : xH) : xf 110 6 L st h = xf 110 8 L (.int 24 :: st) h := xo_iconst (k := 24) (by decide +kernel) (by decide)
set_option maxRecDepth 20000 in
theorem u_X8_inPairs_8 (L : xL) (a b : Int32) (st : List Value) (h : xH) : xf 110 8 L (.int b :: .int a :: st) h = if a < b then xf 110 11 L st h else xf 110 61 L st h := xo_icmp_ge (t := 61) (by decide +kernel) rfl
set_option maxRecDepth 20000 in
theorem u_X8_inPairs_11 (l0 l1 l3 : Option Value) (x : Int32) (st : List Value) (h : xH) : xf 110 11 [l0, l1, some (.int x), l3] st h = xf 110 12 [l0, l1, some (.int x), l3] (.int x :: st) h := xo_iload (k := 2) (by decide +kernel) rfl
set_option maxRecDepth 20000 in
theorem u_X8_inPairs_12 (l1 l2 l3 : Option Value) (x : Nat) (st : List Value) (h : xH) : xf 110 12 [some (.ref x), l1, l2, l3] st h = xf 110 13 [some (.ref x), l1, l2, l3] (.ref x :: st) h := xo_aload (k := 0) (by decide +kernel) rfl
set_option maxRecDepth 20000 in
theorem u_X8_inPairs_13 (l0 l1 l2 : Option Value) (x : Int32) (st : List Value) (h : xH) : xf 110 13 [l0, l1, l2, some (.int x)] st h = xf 110 14 [l0, l1, l2, some (.int x)] (.int x :: st) h := xo_iload (k := 3) (by decide +kernel) rfl
set_option maxRecDepth 20000 in
theorem u_X8_inPairs_14 (L : xL) (v0 : Int32) (b : Nat) (st : List Value) (h : xH) (hb : (xob h b).1 = 8) (hl : st.length ≤ 4) : xf 110 14 L (.int v0 :: .ref b :: st) h = xgo 110 14 17 L st (xev 104 [.ref b, .int v0] h) := xo_callV (as := [.int v0]) (by decide +kernel) rfl ⟨(by decide +kernel : xna 104 = 1), Nat.le_of_ble_eq_true rfl, rfl, by decide⟩ hb hl
set_option maxRecDepth 20000 in
theorem u_X8_inPairs_17 (L : xL) (a : Int32) (st : List Value) (h : xH) : xf 110 17 L (.int a :: st) h = if a = 0 then xf 110 52 L st h else xf 110 20 L st h := xo_if_eq (t := 52) (by decide +kernel) rfl
set_option maxRecDepth 20000 in
theorem u_X8_inPairs_20 (l1 l2 l3 : Option Value) (x : Nat) (st : List Value) (h : xH) : xf 110 20 [some (.ref x), l1, l2, l3] st h = xf 110 21 [some (.ref x), l1, l2, l3] (.ref x :: st) h := xo_aload (k := 0) (by decide +kernel) rfl
set_option maxRecDepth 20000 in
theorem u_X8_inPairs_21 (l0 l1 l2 : Option Value) (x : Int32) (st : List Value) (h : xH) : xf 110 21 [l0, l1, l2, some (.int x)] st h = xf 110 22 [l0, l1, l2, some (.int x)] (.int x :: st) h := xo_iload (k := 3) (by decide +kernel) rfl
set_option maxRecDepth 20000 in
theorem u_X8_inPairs_22 (L : xL) (v0 : Int32) (b : Nat) (st : List Value) (h : xH) (hb : (xob h b).1 = 8) (hl : st.length ≤ 4) : xf 110 22 L (.int v0 :: .ref b :: st) h = xgo 110 22 25 L st (xev 105 [.ref b, .int v0] h) := xo_callV (as := [.int v0]) (by decide +kernel) rfl ⟨(by decide +kernel : xna 105 = 1), Nat.le_of_ble_eq_true rfl, rfl, by decide⟩ hb hl
set_option maxRecDepth 20000 in
theorem u_X8_inPairs_25 (l0 l2 l3 : Option Value) (x : Int32) (st : List Value) (h : xH) : xf 110 25 [l0, some (.int x), l2, l3] st h = xf 110 26 [l0, some (.int x), l2, l3] (.int x :: st) h := xo_iload (k := 1) (by decide +kernel) rfl
set_option maxRecDepth 20000 in
theorem u_X8_inPairs_26 (L : xL) (a b : Int32) (st : List Value) (h : xH) : xf 110 26 L (.int b :: .int a :: st) h = if a = b then xf 110 29 L st h else xf 110 33 L st h := xo_icmp_ne (t := 33) (by decide +kernel) rfl
set_option maxRecDepth 20000 in
theorem u_X8_inPairs_29 (L : xL) (st : List Value) (h : xH) : xf 110 29 L st h = xf 110 30 L (.int 1 :: st) h := xo_iconst (k := 1) (by decide +kernel) (by decide)
set_option maxRecDepth 20000 in
theorem u_X8_inPairs_30 (L : xL) (st : List Value) (h : xH) : xf 110 30 L st h = xf 110 34 L st h := xo_goto (n := 33) (t := 34) (by decide +kernel) rfl
set_option maxRecDepth 20000 in
theorem u_X8_inPairs_33 (L : xL) (st : List Value) (h : xH) : xf 110 33 L st h = xf 110 34 L (.int 0 :: st) h := xo_iconst (k := 0) (by decide +kernel) (by decide)
set_option maxRecDepth 20000 in
theorem u_X8_inPairs_34 (l1 l2 l3 : Option Value) (x : Nat) (st : List Value) (h : xH) : xf 110 34 [some (.ref x), l1, l2, l3] st h = xf 110 35 [some (.ref x), l1, l2, l3] (.ref x :: st) h := xo_aload (k := 0) (by decide +kernel) rfl
set_option maxRecDepth 20000 in
theorem u_X8_inPairs_35 (l0 l1 l2 : Option Value) (x : Int32) (st : List Value) (h : xH) : xf 110 35 [l0, l1, l2, some (.int x)] st h = xf 110 36 [l0, l1, l2, some (.int x)] (.int x :: st) h := xo_iload (k := 3) (by decide +kernel) rfl
set_option maxRecDepth 20000 in
theorem u_X8_inPairs_36 (L : xL) (v0 : Int32) (b : Nat) (st : List Value) (h : xH) (hb : (xob h b).1 = 8) (hl : st.length ≤ 4) : xf 110 36 L (.int v0 :: .ref b :: st) h = xgo 110 36 39 L st (xev 106 [.ref b, .int v0] h) := xo_callV (as := [.int v0]) (by decide +kernel) rfl ⟨(by decide +kernel : xna 106 = 1), Nat.le_of_ble_eq_true rfl, rfl, by decide⟩ hb hl
set_option maxRecDepth 20000 in
theorem u_X8_inPairs_39 (l0 l2 l3 : Option Value) (x : Int32) (st : List Value) (h : xH) : xf 110 39 [l0, some (.int x), l2, l3] st h = xf 110 40 [l0, some (.int x), l2, l3] (.int x :: st) h := xo_iload (k := 1) (by decide +kernel) rfl
set_option maxRecDepth 20000 in
theorem u_X8_inPairs_40 (L : xL) (a b : Int32) (st : List Value) (h : xH) : xf 110 40 L (.int b :: .int a :: st) h = if a = b then xf 110 43 L st h else xf 110 47 L st h := xo_icmp_ne (t := 47) (by decide +kernel) rfl
set_option maxRecDepth 20000 in
theorem u_X8_inPairs_43 (L : xL) (st : List Value) (h : xH) : xf 110 43 L st h = xf 110 44 L (.int 1 :: st) h := xo_iconst (k := 1) (by decide +kernel) (by decide)
set_option maxRecDepth 20000 in
theorem u_X8_inPairs_44 (L : xL) (st : List Value) (h : xH) : xf 110 44 L st h = xf 110 48 L st h := xo_goto (n := 47) (t := 48) (by decide +kernel) rfl
set_option maxRecDepth 20000 in
theorem u_X8_inPairs_47 (L : xL) (st : List Value) (h : xH) : xf 110 47 L st h = xf 110 48 L (.int 0 :: st) h := xo_iconst (k := 0) (by decide +kernel) (by decide)
set_option maxRecDepth 20000 in
theorem u_X8_inPairs_48 (L : xL) (a b : Int32) (st : List Value) (h : xH) : xf 110 48 L (.int b :: .int a :: st) h = xf 110 49 L (.int (a + b) :: st) h := xo_iadd (by decide +kernel)
set_option maxRecDepth 20000 in
theorem u_X8_inPairs_49 (L : xL) (st : List Value) (h : xH) : xf 110 49 L st h = xf 110 53 L st h := xo_goto (n := 52) (t := 53) (by decide +kernel) rfl
set_option maxRecDepth 20000 in
theorem u_X8_inPairs_52 (L : xL) (st : List Value) (h : xH) : xf 110 52 L st h = xf 110 53 L (.int 0 :: st) h := xo_iconst (k := 0) (by decide +kernel) (by decide)
set_option maxRecDepth 20000 in
theorem u_X8_inPairs_53 (L : xL) (a b : Int32) (st : List Value) (h : xH) : xf 110 53 L (.int b :: .int a :: st) h = xf 110 54 L (.int (a + b) :: st) h := xo_iadd (by decide +kernel)
set_option maxRecDepth 20000 in
theorem u_X8_inPairs_54 (l0 l1 l2 l3 : Option Value) (x : Int32) (st : List Value) (h : xH) : xf 110 54 [l0, l1, l2, l3] (.int x :: st) h = xf 110 55 [l0, xcat l1, some (.int x), l3] st h := xo_istore (k := 2) (by decide +kernel) (Nat.le_of_ble_eq_true rfl) rfl
set_option maxRecDepth 20000 in
theorem u_X8_inPairs_55 (l0 l1 l2 : Option Value) (x : Int32) (st : List Value) (h : xH) : xf 110 55 [l0, l1, l2, some (.int x)] st h = xf 110 58 [l0, l1, xcat l2, some (.int (x + 1))] st h := xo_iinc (k := 3) (c := 1) (by decide +kernel) rfl (by decide) rfl
set_option maxRecDepth 20000 in
theorem u_X8_inPairs_58 (L : xL) (st : List Value) (h : xH) : xf 110 58 L st h = xf 110 5 L st h := xo_goto (n := 61) (t := 5) (by decide +kernel) rfl
set_option maxRecDepth 20000 in
theorem u_X8_inPairs_61 (l0 l1 l3 : Option Value) (x : Int32) (st : List Value) (h : xH) : xf 110 61 [l0, l1, some (.int x), l3] st h = xf 110 62 [l0, l1, some (.int x), l3] (.int x :: st) h := xo_iload (k := 2) (by decide +kernel) rfl
set_option maxRecDepth 20000 in
theorem u_X8_inPairs_62 (L : xL) (x : Int32) (h : xH) : xf 110 62 L [.int x] h = some (.inl (some (.int x)), h) := xo_ireturn (n := 63) (by decide +kernel) rfl
set_option maxRecDepth 20000 in
theorem e_X8_inPairs (v0 : Nat) (v1 : Int32) (h : xH) : xev 110 [.ref v0, .int v1] h = xf 110 0 [some (.ref v0), some (.int v1), none, none] [] h := rfl
set_option maxRecDepth 20000 in
theorem u_X8_names_0 (L : xL) (st : List Value) (h : xH) : xf 111 0 L st h = xf 111 1 L (.int 0 :: st) h := xo_iconst (k := 0) (by decide +kernel) (by decide)
set_option maxRecDepth 20000 in
theorem u_X8_names_1 (l0 l1 l2 : Option Value) (x : Int32) (st : List Value) (h : xH) : xf 111 1 [l0, l1, l2] (.int x :: st) h = xf 111 2 [xcat l0, some (.int x), l2] st h := xo_istore (k := 1) (by decide +kernel) (Nat.le_of_ble_eq_true rfl) rfl
set_option maxRecDepth 20000 in
theorem u_X8_names_2 (L : xL) (st : List Value) (h : xH) : xf 111 2 L st h = xf 111 3 L (.int 0 :: st) h := xo_iconst (k := 0) (by decide +kernel) (by decide)
set_option maxRecDepth 20000 in
theorem u_X8_names_3 (l0 l1 l2 : Option Value) (x : Int32) (st : List Value) (h : xH) : xf 111 3 [l0, l1, l2] (.int x :: st) h = xf 111 4 [l0, xcat l1, some (.int x)] st h := xo_istore (k := 2) (by decide +kernel) (Nat.le_of_ble_eq_true rfl) rfl
set_option maxRecDepth 20000 in
theorem u_X8_names_4 (l0 l1 : Option Value) (x : Int32) (st : List Value) (h : xH) : xf 111 4 [l0, l1, some (.int x)] st h = xf 111 5 [l0, l1, some (.int x)] (.int x :: st) h := xo_iload (k := 2) (by decide +kernel) rfl
set_option maxRecDepth 20000 in
theorem u_X8_names_5 (L : xL) (st : List Value) (h : xH) : xf 111 5 L st h = xf 111 7 L (.int 16 :: st) h := xo_iconst (k := 16) (by decide +kernel) (by decide)
set_option maxRecDepth 20000 in
theorem u_X8_names_7 (L : xL) (a b : Int32) (st : List Value) (h : xH) : xf 111 7 L (.int b :: .int a :: st) h = if a < b then xf 111 10 L st h else xf 111 28 L st h := xo_icmp_ge (t := 28) (by decide +kernel) rfl
set_option maxRecDepth 20000 in
theorem u_X8_names_10 (l0 l2 : Option Value) (x : Int32) (st : List Value) (h : xH) : xf 111 10 [l0, some (.int x), l2] st h = xf 111 11 [l0, some (.int x), l2] (.int x :: st) h := xo_iload (k := 1) (by decide +kernel) rfl
set_option maxRecDepth 20000 in
theorem u_X8_names_11 (l1 l2 : Option Value) (x : Nat) (st : List Value) (h : xH) : xf 111 11 [some (.ref x), l1, l2] st h = xf 111 12 [some (.ref x), l1, l2] (.ref x :: st) h := xo_aload (k := 0) (by decide +kernel) rfl
set_option maxRecDepth 20000 in
theorem u_X8_names_12 (L : xL) (a : Nat) (st : List Value) (h : xH) (hc : (xob h a).1 = 8) : xf 111 12 L (.ref a :: st) h = xf 111 15 L ((xob h a).2.getD 1 .null :: st) h := xo_getf (r := 513) (by decide +kernel) (by decide) hc
set_option maxRecDepth 20000 in
theorem u_X8_names_15 (L : xL) (st : List Value) (h : xH) : xf 111 15 L st h = xf 111 17 L (.int 65 :: st) h := xo_iconst (k := 65) (by decide +kernel) (by decide)
set_option maxRecDepth 20000 in
theorem u_X8_names_17 (l0 l1 : Option Value) (x : Int32) (st : List Value) (h : xH) : xf 111 17 [l0, l1, some (.int x)] st h = xf 111 18 [l0, l1, some (.int x)] (.int x :: st) h := xo_iload (k := 2) (by decide +kernel) rfl
set_option maxRecDepth 20000 in
theorem u_X8_names_18 (L : xL) (a b : Int32) (st : List Value) (h : xH) : xf 111 18 L (.int b :: .int a :: st) h = xf 111 19 L (.int (a + b) :: st) h := xo_iadd (by decide +kernel)
set_option maxRecDepth 20000 in
theorem u_X8_names_19 (L : xL) (i : Int32) (a : Nat) (st : List Value) (h : xH) (hx : xix i (xai h a).1) : xf 111 19 L (.int i :: .ref a :: st) h = xf 111 20 L (.int ((xai h a).2 i.toNatClampNeg) :: st) h := xo_iaload (by decide +kernel) hx
set_option maxRecDepth 20000 in
theorem u_X8_names_20 (L : xL) (a b : Int32) (st : List Value) (h : xH) : xf 111 20 L (.int b :: .int a :: st) h = xf 111 21 L (.int (a + b) :: st) h := xo_iadd (by decide +kernel)
set_option maxRecDepth 20000 in
theorem u_X8_names_21 (l0 l1 l2 : Option Value) (x : Int32) (st : List Value) (h : xH) : xf 111 21 [l0, l1, l2] (.int x :: st) h = xf 111 22 [xcat l0, some (.int x), l2] st h := xo_istore (k := 1) (by decide +kernel) (Nat.le_of_ble_eq_true rfl) rfl
set_option maxRecDepth 20000 in
theorem u_X8_names_22 (l0 l1 : Option Value) (x : Int32) (st : List Value) (h : xH) : xf 111 22 [l0, l1, some (.int x)] st h = xf 111 25 [l0, xcat l1, some (.int (x + 1))] st h := xo_iinc (k := 2) (c := 1) (by decide +kernel) rfl (by decide) rfl
set_option maxRecDepth 20000 in
theorem u_X8_names_25 (L : xL) (st : List Value) (h : xH) : xf 111 25 L st h = xf 111 4 L st h := xo_goto (n := 28) (t := 4) (by decide +kernel) rfl
set_option maxRecDepth 20000 in
theorem u_X8_names_28 (l0 l2 : Option Value) (x : Int32) (st : List Value) (h : xH) : xf 111 28 [l0, some (.int x), l2] st h = xf 111 29 [l0, some (.int x), l2] (.int x :: st) h := xo_iload (k := 1) (by decide +kernel) rfl
set_option maxRecDepth 20000 in
theorem u_X8_names_29 (L : xL) (x : Int32) (h : xH) : xf 111 29 L [.int x] h = some (.inl (some (.int x)), h) := xo_ireturn (n := 30) (by decide +kernel) rfl
set_option maxRecDepth 20000 in
theorem e_X8_names (v0 : Nat) (h : xH) : xev 111 [.ref v0] h = xf 111 0 [some (.ref v0), none, none] [] h := rfl
set_option maxRecDepth 20000 in
theorem u_X8_size_0 (x : Nat) (st : List Value) (h : xH) : xf 112 0 [some (.ref x)] st h = xf 112 1 [some (.ref x)] (.ref x :: st) h := xo_aload (k := 0) (by decide +kernel) rfl
set_option maxRecDepth 20000 in
theorem u_X8_size_1 (L : xL) (a : Nat) (st : List Value) (h : xH) (hc : (xob h a).1 = 8) : xf 112 1 L (.ref a :: st) h = xf 112 4 L ((xob h a).2.getD 1 .null :: st) h := xo_getf (r := 513) (by decide +kernel) (by decide) hc
set_option maxRecDepth 20000 in
theorem u_X8_size_4 (L : xL) (st : List Value) (h : xH) : xf 112 4 L st h = xf 112 5 L (.int 0 :: st) h := xo_iconst (k := 0) (by decide +kernel) (by decide)
set_option maxRecDepth 20000 in
theorem u_X8_size_5 (L : xL) (i : Int32) (a : Nat) (st : List Value) (h : xH) (hx : xix i (xai h a).1) : xf 112 5 L (.int i :: .ref a :: st) h = xf 112 6 L (.int ((xai h a).2 i.toNatClampNeg) :: st) h := xo_iaload (by decide +kernel) hx
set_option maxRecDepth 20000 in
theorem u_X8_size_6 (L : xL) (st : List Value) (h : xH) : xf 112 6 L st h = xf 112 7 L (.int 2 :: st) h := xo_iconst (k := 2) (by decide +kernel) (by decide)
set_option maxRecDepth 20000 in
theorem u_X8_size_7 (x : Nat) (st : List Value) (h : xH) : xf 112 7 [some (.ref x)] st h = xf 112 8 [some (.ref x)] (.ref x :: st) h := xo_aload (k := 0) (by decide +kernel) rfl
set_option maxRecDepth 20000 in
theorem u_X8_size_8 (L : xL) (b : Nat) (st : List Value) (h : xH) (hb : (xob h b).1 = 8) (hl : st.length ≤ 4) : xf 112 8 L (.ref b :: st) h = xgo 112 8 11 L st (xev 111 [.ref b] h) := xo_callV (as := []) (by decide +kernel) rfl ⟨(by decide +kernel : xna 111 = 0), Nat.le_of_ble_eq_true rfl, rfl, by decide⟩ hb hl
set_option maxRecDepth 20000 in
theorem u_X8_size_11 (L : xL) (a b : Int32) (st : List Value) (h : xH) : xf 112 11 L (.int b :: .int a :: st) h = xf 112 12 L (.int (a * b) :: st) h := xo_imul (by decide +kernel)
set_option maxRecDepth 20000 in
theorem u_X8_size_12 (L : xL) (a b : Int32) (st : List Value) (h : xH) : xf 112 12 L (.int b :: .int a :: st) h = xf 112 13 L (.int (a + b) :: st) h := xo_iadd (by decide +kernel)
set_option maxRecDepth 20000 in
theorem u_X8_size_13 (L : xL) (x : Int32) (h : xH) : xf 112 13 L [.int x] h = some (.inl (some (.int x)), h) := xo_ireturn (n := 14) (by decide +kernel) rfl
set_option maxRecDepth 20000 in
theorem e_X8_size (v0 : Nat) (h : xH) : xev 112 [.ref v0] h = xf 112 0 [some (.ref v0)] [] h := rfl
set_option maxRecDepth 20000 in
theorem u_X8_textLong_0 (L : xL) (st : List Value) (h : xH) : xf 113 0 L st h = xf 113 1 L (.int 0 :: st) h := xo_iconst (k := 0) (by decide +kernel) (by decide)
set_option maxRecDepth 20000 in
theorem u_X8_textLong_1 (l0 l1 l2 : Option Value) (x : Int32) (st : List Value) (h : xH) : xf 113 1 [l0, l1, l2] (.int x :: st) h = xf 113 2 [xcat l0, some (.int x), l2] st h := xo_istore (k := 1) (by decide +kernel) (Nat.le_of_ble_eq_true rfl) rfl
set_option maxRecDepth 20000 in
theorem u_X8_textLong_2 (L : xL) (st : List Value) (h : xH) : xf 113 2 L st h = xf 113 3 L (.int 0 :: st) h := xo_iconst (k := 0) (by decide +kernel) (by decide)
set_option maxRecDepth 20000 in
theorem u_X8_textLong_3 (l0 l1 l2 : Option Value) (x : Int32) (st : List Value) (h : xH) : xf 113 3 [l0, l1, l2] (.int x :: st) h = xf 113 4 [l0, xcat l1, some (.int x)] st h := xo_istore (k := 2) (by decide +kernel) (Nat.le_of_ble_eq_true rfl) rfl
set_option maxRecDepth 20000 in
theorem u_X8_textLong_4 (l0 l1 : Option Value) (x : Int32) (st : List Value) (h : xH) : xf 113 4 [l0, l1, some (.int x)] st h = xf 113 5 [l0, l1, some (.int x)] (.int x :: st) h := xo_iload (k := 2) (by decide +kernel) rfl
set_option maxRecDepth 20000 in
theorem u_X8_textLong_5 (l1 l2 : Option Value) (x : Nat) (st : List Value) (h : xH) : xf 113 5 [some (.ref x), l1, l2] st h = xf 113 6 [some (.ref x), l1, l2] (.ref x :: st) h := xo_aload (k := 0) (by decide +kernel) rfl
set_option maxRecDepth 20000 in
theorem u_X8_textLong_6 (L : xL) (a : Nat) (st : List Value) (h : xH) (hc : (xob h a).1 = 8) : xf 113 6 L (.ref a :: st) h = xf 113 9 L ((xob h a).2.getD 1 .null :: st) h := xo_getf (r := 513) (by decide +kernel) (by decide) hc
set_option maxRecDepth 20000 in
theorem u_X8_textLong_9 (L : xL) (st : List Value) (h : xH) : xf 113 9 L st h = xf 113 10 L (.int 0 :: st) h := xo_iconst (k := 0) (by decide +kernel) (by decide)
set_option maxRecDepth 20000 in
theorem u_X8_textLong_10 (L : xL) (i : Int32) (a : Nat) (st : List Value) (h : xH) (hx : xix i (xai h a).1) : xf 113 10 L (.int i :: .ref a :: st) h = xf 113 11 L (.int ((xai h a).2 i.toNatClampNeg) :: st) h := xo_iaload (by decide +kernel) hx
set_option maxRecDepth 20000 in
theorem u_X8_textLong_11 (L : xL) (a b : Int32) (st : List Value) (h : xH) : xf 113 11 L (.int b :: .int a :: st) h = if a < b then xf 113 14 L st h else xf 113 36 L st h := xo_icmp_ge (t := 36) (by decide +kernel) rfl
set_option maxRecDepth 20000 in
theorem u_X8_textLong_14 (l0 l2 : Option Value) (x : Int32) (st : List Value) (h : xH) : xf 113 14 [l0, some (.int x), l2] st h = xf 113 15 [l0, some (.int x), l2] (.int x :: st) h := xo_iload (k := 1) (by decide +kernel) rfl
set_option maxRecDepth 20000 in
theorem u_X8_textLong_15 (l1 l2 : Option Value) (x : Nat) (st : List Value) (h : xH) : xf 113 15 [some (.ref x), l1, l2] st h = xf 113 16 [some (.ref x), l1, l2] (.ref x :: st) h := xo_aload (k := 0) (by decide +kernel) rfl
set_option maxRecDepth 20000 in
theorem u_X8_textLong_16 (L : xL) (a : Nat) (st : List Value) (h : xH) (hc : (xob h a).1 = 8) : xf 113 16 L (.ref a :: st) h = xf 113 19 L ((xob h a).2.getD 8 .null :: st) h := xo_getf (r := 520) (by decide +kernel) (by decide) hc
set_option maxRecDepth 20000 in
theorem u_X8_textLong_19 (l1 l2 : Option Value) (x : Nat) (st : List Value) (h : xH) : xf 113 19 [some (.ref x), l1, l2] st h = xf 113 20 [some (.ref x), l1, l2] (.ref x :: st) h := xo_aload (k := 0) (by decide +kernel) rfl
set_option maxRecDepth 20000 in
theorem u_X8_textLong_20 (L : xL) (a : Nat) (st : List Value) (h : xH) (hc : (xob h a).1 = 8) : xf 113 20 L (.ref a :: st) h = xf 113 23 L ((xob h a).2.getD 1 .null :: st) h := xo_getf (r := 513) (by decide +kernel) (by decide) hc
set_option maxRecDepth 20000 in
theorem u_X8_textLong_23 (L : xL) (st : List Value) (h : xH) : xf 113 23 L st h = xf 113 24 L (.int 1 :: st) h := xo_iconst (k := 1) (by decide +kernel) (by decide)
set_option maxRecDepth 20000 in
theorem u_X8_textLong_24 (l0 l1 : Option Value) (x : Int32) (st : List Value) (h : xH) : xf 113 24 [l0, l1, some (.int x)] st h = xf 113 25 [l0, l1, some (.int x)] (.int x :: st) h := xo_iload (k := 2) (by decide +kernel) rfl
set_option maxRecDepth 20000 in
theorem u_X8_textLong_25 (L : xL) (a b : Int32) (st : List Value) (h : xH) : xf 113 25 L (.int b :: .int a :: st) h = xf 113 26 L (.int (a + b) :: st) h := xo_iadd (by decide +kernel)
set_option maxRecDepth 20000 in
theorem u_X8_textLong_26 (L : xL) (i : Int32) (a : Nat) (st : List Value) (h : xH) (hx : xix i (xai h a).1) : xf 113 26 L (.int i :: .ref a :: st) h = xf 113 27 L (.int ((xai h a).2 i.toNatClampNeg) :: st) h := xo_iaload (by decide +kernel) hx
set_option maxRecDepth 20000 in
theorem u_X8_textLong_27 (L : xL) (i : Int32) (a : Nat) (st : List Value) (h : xH) (hx : xix i (xai h a).1) : xf 113 27 L (.int i :: .ref a :: st) h = xf 113 28 L (.int ((xai h a).2 i.toNatClampNeg) :: st) h := xo_iaload (by decide +kernel) hx
set_option maxRecDepth 20000 in
theorem u_X8_textLong_28 (L : xL) (a b : Int32) (st : List Value) (h : xH) : xf 113 28 L (.int b :: .int a :: st) h = xf 113 29 L (.int (a + b) :: st) h := xo_iadd (by decide +kernel)
set_option maxRecDepth 20000 in
theorem u_X8_textLong_29 (l0 l1 l2 : Option Value) (x : Int32) (st : List Value) (h : xH) : xf 113 29 [l0, l1, l2] (.int x :: st) h = xf 113 30 [xcat l0, some (.int x), l2] st h := xo_istore (k := 1) (by decide +kernel) (Nat.le_of_ble_eq_true rfl) rfl
set_option maxRecDepth 20000 in
theorem u_X8_textLong_30 (l0 l1 : Option Value) (x : Int32) (st : List Value) (h : xH) : xf 113 30 [l0, l1, some (.int x)] st h = xf 113 33 [l0, xcat l1, some (.int (x + 1))] st h := xo_iinc (k := 2) (c := 1) (by decide +kernel) rfl (by decide) rfl
set_option maxRecDepth 20000 in
theorem u_X8_textLong_33 (L : xL) (st : List Value) (h : xH) : xf 113 33 L st h = xf 113 4 L st h := xo_goto (n := 36) (t := 4) (by decide +kernel) rfl
set_option maxRecDepth 20000 in
theorem u_X8_textLong_36 (l0 l2 : Option Value) (x : Int32) (st : List Value) (h : xH) : xf 113 36 [l0, some (.int x), l2] st h = xf 113 37 [l0, some (.int x), l2] (.int x :: st) h := xo_iload (k := 1) (by decide +kernel) rfl
set_option maxRecDepth 20000 in
theorem u_X8_textLong_37 (L : xL) (x : Int32) (h : xH) : xf 113 37 L [.int x] h = some (.inl (some (.int x)), h) := xo_ireturn (n := 38) (by decide +kernel) rfl
set_option maxRecDepth 20000 in
theorem e_X8_textLong (v0 : Nat) (h : xH) : xev 113 [.ref v0] h = xf 113 0 [some (.ref v0), none, none] [] h := rfl
set_option maxRecDepth 20000 in
theorem u_X8_deepest_0 (L : xL) (st : List Value) (h : xH) : xf 114 0 L st h = xf 114 1 L (.int 0 :: st) h := xo_iconst (k := 0) (by decide +kernel) (by decide)
set_option maxRecDepth 20000 in
theorem u_X8_deepest_1 (l0 l1 l2 : Option Value) (x : Int32) (st : List Value) (h : xH) : xf 114 1 [l0, l1, l2] (.int x :: st) h = xf 114 2 [xcat l0, some (.int x), l2] st h := xo_istore (k := 1) (by decide +kernel) (Nat.le_of_ble_eq_true rfl) rfl
set_option maxRecDepth 20000 in
theorem u_X8_deepest_2 (L : xL) (st : List Value) (h : xH) : xf 114 2 L st h = xf 114 3 L (.int 0 :: st) h := xo_iconst (k := 0) (by decide +kernel) (by decide)
set_option maxRecDepth 20000 in
theorem u_X8_deepest_3 (l0 l1 l2 : Option Value) (x : Int32) (st : List Value) (h : xH) : xf 114 3 [l0, l1, l2] (.int x :: st) h = xf 114 4 [l0, xcat l1, some (.int x)] st h := xo_istore (k := 2) (by decide +kernel) (Nat.le_of_ble_eq_true rfl) rfl
set_option maxRecDepth 20000 in
theorem u_X8_deepest_4 (l0 l1 : Option Value) (x : Int32) (st : List Value) (h : xH) : xf 114 4 [l0, l1, some (.int x)] st h = xf 114 5 [l0, l1, some (.int x)] (.int x :: st) h := xo_iload (k := 2) (by decide +kernel) rfl
set_option maxRecDepth 20000 in
theorem u_X8_deepest_5 (l1 l2 : Option Value) (x : Nat) (st : List Value) (h : xH) : xf 114 5 [some (.ref x), l1, l2] st h = xf 114 6 [some (.ref x), l1, l2] (.ref x :: st) h := xo_aload (k := 0) (by decide +kernel) rfl
set_option maxRecDepth 20000 in
theorem u_X8_deepest_6 (L : xL) (a : Nat) (st : List Value) (h : xH) (hc : (xob h a).1 = 8) : xf 114 6 L (.ref a :: st) h = xf 114 9 L ((xob h a).2.getD 1 .null :: st) h := xo_getf (r := 513) (by decide +kernel) (by decide) hc
set_option maxRecDepth 20000 in
theorem u_X8_deepest_9 (L : xL) (st : List Value) (h : xH) : xf 114 9 L st h = xf 114 10 L (.int 0 :: st) h := xo_iconst (k := 0) (by decide +kernel) (by decide)
set_option maxRecDepth 20000 in
theorem u_X8_deepest_10 (L : xL) (i : Int32) (a : Nat) (st : List Value) (h : xH) (hx : xix i (xai h a).1) : xf 114 10 L (.int i :: .ref a :: st) h = xf 114 11 L (.int ((xai h a).2 i.toNatClampNeg) :: st) h := xo_iaload (by decide +kernel) hx
set_option maxRecDepth 20000 in
theorem u_X8_deepest_11 (L : xL) (a b : Int32) (st : List Value) (h : xH) : xf 114 11 L (.int b :: .int a :: st) h = if a < b then xf 114 14 L st h else xf 114 55 L st h := xo_icmp_ge (t := 55) (by decide +kernel) rfl
set_option maxRecDepth 20000 in
theorem u_X8_deepest_14 (l1 l2 : Option Value) (x : Nat) (st : List Value) (h : xH) : xf 114 14 [some (.ref x), l1, l2] st h = xf 114 15 [some (.ref x), l1, l2] (.ref x :: st) h := xo_aload (k := 0) (by decide +kernel) rfl
set_option maxRecDepth 20000 in
theorem u_X8_deepest_15 (L : xL) (a : Nat) (st : List Value) (h : xH) (hc : (xob h a).1 = 8) : xf 114 15 L (.ref a :: st) h = xf 114 18 L ((xob h a).2.getD 7 .null :: st) h := xo_getf (r := 519) (by decide +kernel) (by decide) hc
set_option maxRecDepth 20000 in
theorem u_X8_deepest_18 (l1 l2 : Option Value) (x : Nat) (st : List Value) (h : xH) : xf 114 18 [some (.ref x), l1, l2] st h = xf 114 19 [some (.ref x), l1, l2] (.ref x :: st) h := xo_aload (k := 0) (by decide +kernel) rfl
set_option maxRecDepth 20000 in
theorem u_X8_deepest_19 (L : xL) (a : Nat) (st : List Value) (h : xH) (hc : (xob h a).1 = 8) : xf 114 19 L (.ref a :: st) h = xf 114 22 L ((xob h a).2.getD 1 .null :: st) h := xo_getf (r := 513) (by decide +kernel) (by decide) hc
set_option maxRecDepth 20000 in
theorem u_X8_deepest_22 (L : xL) (st : List Value) (h : xH) : xf 114 22 L st h = xf 114 23 L (.int 1 :: st) h := xo_iconst (k := 1) (by decide +kernel) (by decide)
set_option maxRecDepth 20000 in
theorem u_X8_deepest_23 (l0 l1 : Option Value) (x : Int32) (st : List Value) (h : xH) : xf 114 23 [l0, l1, some (.int x)] st h = xf 114 24 [l0, l1, some (.int x)] (.int x :: st) h := xo_iload (k := 2) (by decide +kernel) rfl
set_option maxRecDepth 20000 in
theorem u_X8_deepest_24 (L : xL) (a b : Int32) (st : List Value) (h : xH) : xf 114 24 L (.int b :: .int a :: st) h = xf 114 25 L (.int (a + b) :: st) h := xo_iadd (by decide +kernel)
set_option maxRecDepth 20000 in
theorem u_X8_deepest_25 (L : xL) (i : Int32) (a : Nat) (st : List Value) (h : xH) (hx : xix i (xai h a).1) : xf 114 25 L (.int i :: .ref a :: st) h = xf 114 26 L (.int ((xai h a).2 i.toNatClampNeg) :: st) h := xo_iaload (by decide +kernel) hx
set_option maxRecDepth 20000 in
theorem u_X8_deepest_26 (L : xL) (i : Int32) (a : Nat) (st : List Value) (h : xH) (hx : xix i (xai h a).1) : xf 114 26 L (.int i :: .ref a :: st) h = xf 114 27 L (.int ((xai h a).2 i.toNatClampNeg) :: st) h := xo_iaload (by decide +kernel) hx
set_option maxRecDepth 20000 in
theorem u_X8_deepest_27 (l0 l2 : Option Value) (x : Int32) (st : List Value) (h : xH) : xf 114 27 [l0, some (.int x), l2] st h = xf 114 28 [l0, some (.int x), l2] (.int x :: st) h := xo_iload (k := 1) (by decide +kernel) rfl
set_option maxRecDepth 20000 in
theorem u_X8_deepest_28 (L : xL) (a b : Int32) (st : List Value) (h : xH) : xf 114 28 L (.int b :: .int a :: st) h = if b < a then xf 114 31 L st h else xf 114 47 L st h := xo_icmp_le (t := 47) (by decide +kernel) rfl
set_option maxRecDepth 20000 in
theorem u_X8_deepest_31 (l1 l2 : Option Value) (x : Nat) (st : List Value) (h : xH) : xf 114 31 [some (.ref x), l1, l2] st h = xf 114 32 [some (.ref x), l1, l2] (.ref x :: st) h := xo_aload (k := 0) (by decide +kernel) rfl
set_option maxRecDepth 20000 in
theorem u_X8_deepest_32 (L : xL) (a : Nat) (st : List Value) (h : xH) (hc : (xob h a).1 = 8) : xf 114 32 L (.ref a :: st) h = xf 114 35 L ((xob h a).2.getD 7 .null :: st) h := xo_getf (r := 519) (by decide +kernel) (by decide) hc
set_option maxRecDepth 20000 in
theorem u_X8_deepest_35 (l1 l2 : Option Value) (x : Nat) (st : List Value) (h : xH) : xf 114 35 [some (.ref x), l1, l2] st h = xf 114 36 [some (.ref x), l1, l2] (.ref x :: st) h := xo_aload (k := 0) (by decide +kernel) rfl
set_option maxRecDepth 20000 in
theorem u_X8_deepest_36 (L : xL) (a : Nat) (st : List Value) (h : xH) (hc : (xob h a).1 = 8) : xf 114 36 L (.ref a :: st) h = xf 114 39 L ((xob h a).2.getD 1 .null :: st) h := xo_getf (r := 513) (by decide +kernel) (by decide) hc
set_option maxRecDepth 20000 in
theorem u_X8_deepest_39 (L : xL) (st : List Value) (h : xH) : xf 114 39 L st h = xf 114 40 L (.int 1 :: st) h := xo_iconst (k := 1) (by decide +kernel) (by decide)
set_option maxRecDepth 20000 in
theorem u_X8_deepest_40 (l0 l1 : Option Value) (x : Int32) (st : List Value) (h : xH) : xf 114 40 [l0, l1, some (.int x)] st h = xf 114 41 [l0, l1, some (.int x)] (.int x :: st) h := xo_iload (k := 2) (by decide +kernel) rfl
set_option maxRecDepth 20000 in
theorem u_X8_deepest_41 (L : xL) (a b : Int32) (st : List Value) (h : xH) : xf 114 41 L (.int b :: .int a :: st) h = xf 114 42 L (.int (a + b) :: st) h := xo_iadd (by decide +kernel)
set_option maxRecDepth 20000 in
theorem u_X8_deepest_42 (L : xL) (i : Int32) (a : Nat) (st : List Value) (h : xH) (hx : xix i (xai h a).1) : xf 114 42 L (.int i :: .ref a :: st) h = xf 114 43 L (.int ((xai h a).2 i.toNatClampNeg) :: st) h := xo_iaload (by decide +kernel) hx
set_option maxRecDepth 20000 in
theorem u_X8_deepest_43 (L : xL) (i : Int32) (a : Nat) (st : List Value) (h : xH) (hx : xix i (xai h a).1) : xf 114 43 L (.int i :: .ref a :: st) h = xf 114 44 L (.int ((xai h a).2 i.toNatClampNeg) :: st) h := xo_iaload (by decide +kernel) hx
set_option maxRecDepth 20000 in
theorem u_X8_deepest_44 (L : xL) (st : List Value) (h : xH) : xf 114 44 L st h = xf 114 48 L st h := xo_goto (n := 47) (t := 48) (by decide +kernel) rfl
set_option maxRecDepth 20000 in
theorem u_X8_deepest_47 (l0 l2 : Option Value) (x : Int32) (st : List Value) (h : xH) : xf 114 47 [l0, some (.int x), l2] st h = xf 114 48 [l0, some (.int x), l2] (.int x :: st) h := xo_iload (k := 1) (by decide +kernel) rfl
set_option maxRecDepth 20000 in
theorem u_X8_deepest_48 (l0 l1 l2 : Option Value) (x : Int32) (st : List Value) (h : xH) : xf 114 48 [l0, l1, l2] (.int x :: st) h = xf 114 49 [xcat l0, some (.int x), l2] st h := xo_istore (k := 1) (by decide +kernel) (Nat.le_of_ble_eq_true rfl) rfl
set_option maxRecDepth 20000 in
theorem u_X8_deepest_49 (l0 l1 : Option Value) (x : Int32) (st : List Value) (h : xH) : xf 114 49 [l0, l1, some (.int x)] st h = xf 114 52 [l0, xcat l1, some (.int (x + 1))] st h := xo_iinc (k := 2) (c := 1) (by decide +kernel) rfl (by decide) rfl
set_option maxRecDepth 20000 in
theorem u_X8_deepest_52 (L : xL) (st : List Value) (h : xH) : xf 114 52 L st h = xf 114 4 L st h := xo_goto (n := 55) (t := 4) (by decide +kernel) rfl
set_option maxRecDepth 20000 in
theorem u_X8_deepest_55 (l0 l2 : Option Value) (x : Int32) (st : List Value) (h : xH) : xf 114 55 [l0, some (.int x), l2] st h = xf 114 56 [l0, some (.int x), l2] (.int x :: st) h := xo_iload (k := 1) (by decide +kernel) rfl
set_option maxRecDepth 20000 in
theorem u_X8_deepest_56 (L : xL) (x : Int32) (h : xH) : xf 114 56 L [.int x] h = some (.inl (some (.int x)), h) := xo_ireturn (n := 57) (by decide +kernel) rfl
set_option maxRecDepth 20000 in
theorem e_X8_deepest (v0 : Nat) (h : xH) : xev 114 [.ref v0] h = xf 114 0 [some (.ref v0), none, none] [] h := rfl
set_option maxRecDepth 20000 in
theorem u_X8_signAt_0 (l0 l2 l3 l4 l5 : Option Value) (x : Int32) (st : List Value) (h : xH) : xf 115 0 [l0, some (.int x), l2, l3, l4, l5] st h = xf 115 1 [l0, some (.int x), l2, l3, l4, l5] (.int x :: st) h := xo_iload (k := 1) (by decide +kernel) rfl
set_option maxRecDepth 20000 in
theorem u_X8_signAt_1 (l0 l1 l2 l3 l4 l5 : Option Value) (x : Int32) (st : List Value) (h : xH) : xf 115 1 [l0, l1, l2, l3, l4, l5] (.int x :: st) h = xf 115 2 [l0, xcat l1, some (.int x), l3, l4, l5] st h := xo_istore (k := 2) (by decide +kernel) (Nat.le_of_ble_eq_true rfl) rfl
set_option maxRecDepth 20000 in
theorem u_X8_signAt_2 (L : xL) (st : List Value) (h : xH) : xf 115 2 L st h = xf 115 3 L (.int 0 :: st) h := xo_iconst (k := 0) (by decide +kernel) (by decide)
set_option maxRecDepth 20000 in
theorem u_X8_signAt_3 (l0 l1 l2 l3 l4 l5 : Option Value) (x : Int32) (st : List Value) (h : xH) : xf 115 3 [l0, l1, l2, l3, l4, l5] (.int x :: st) h = xf 115 4 [l0, l1, xcat l2, some (.int x), l4, l5] st h := xo_istore (k := 3) (by decide +kernel) (Nat.le_of_ble_eq_true rfl) rfl
set_option maxRecDepth 20000 in
theorem u_X8_signAt_4 (l0 l1 l2 l4 l5 : Option Value) (x : Int32) (st : List Value) (h : xH) : xf 115 4 [l0, l1, l2, some (.int x), l4, l5] st h = xf 115 5 [l0, l1, l2, some (.int x), l4, l5] (.int x :: st) h := xo_iload (k := 3) (by decide +kernel) rfl
set_option maxRecDepth 20000 in
theorem u_X8_signAt_5 (l1 l2 l3 l4 l5 : Option Value) (x : Nat) (st : List Value) (h : xH) : xf 115 5 [some (.ref x), l1, l2, l3, l4, l5] st h = xf 115 6 [some (.ref x), l1, l2, l3, l4, l5] (.ref x :: st) h := xo_aload (k := 0) (by decide +kernel) rfl
set_option maxRecDepth 20000 in
theorem u_X8_signAt_6 (L : xL) (a : Nat) (st : List Value) (h : xH) (hc : (xob h a).1 = 8) : xf 115 6 L (.ref a :: st) h = xf 115 9 L ((xob h a).2.getD 1 .null :: st) h := xo_getf (r := 513) (by decide +kernel) (by decide) hc
set_option maxRecDepth 20000 in
theorem u_X8_signAt_9 (L : xL) (st : List Value) (h : xH) : xf 115 9 L st h = xf 115 10 L (.int 0 :: st) h := xo_iconst (k := 0) (by decide +kernel) (by decide)
set_option maxRecDepth 20000 in
theorem u_X8_signAt_10 (L : xL) (i : Int32) (a : Nat) (st : List Value) (h : xH) (hx : xix i (xai h a).1) : xf 115 10 L (.int i :: .ref a :: st) h = xf 115 11 L (.int ((xai h a).2 i.toNatClampNeg) :: st) h := xo_iaload (by decide +kernel) hx
set_option maxRecDepth 20000 in
theorem u_X8_signAt_11 (L : xL) (a b : Int32) (st : List Value) (h : xH) : xf 115 11 L (.int b :: .int a :: st) h = if a < b then xf 115 14 L st h else xf 115 53 L st h := xo_icmp_ge (t := 53) (by decide +kernel) rfl
set_option maxRecDepth 20000 in
theorem u_X8_signAt_14 (l0 l1 l3 l4 l5 : Option Value) (x : Int32) (st : List Value) (h : xH) : xf 115 14 [l0, l1, some (.int x), l3, l4, l5] st h = xf 115 15 [l0, l1, some (.int x), l3, l4, l5] (.int x :: st) h := xo_iload (k := 2) (by decide +kernel) rfl
set_option maxRecDepth 20000 in
theorem u_X8_signAt_15 (l1 l2 l3 l4 l5 : Option Value) (x : Nat) (st : List Value) (h : xH) : xf 115 15 [some (.ref x), l1, l2, l3, l4, l5] st h = xf 115 16 [some (.ref x), l1, l2, l3, l4, l5] (.ref x :: st) h := xo_aload (k := 0) (by decide +kernel) rfl
set_option maxRecDepth 20000 in
theorem u_X8_signAt_16 (L : xL) (a : Nat) (st : List Value) (h : xH) (hc : (xob h a).1 = 8) : xf 115 16 L (.ref a :: st) h = xf 115 19 L ((xob h a).2.getD 8 .null :: st) h := xo_getf (r := 520) (by decide +kernel) (by decide) hc
set_option maxRecDepth 20000 in
theorem u_X8_signAt_19 (l1 l2 l3 l4 l5 : Option Value) (x : Nat) (st : List Value) (h : xH) : xf 115 19 [some (.ref x), l1, l2, l3, l4, l5] st h = xf 115 20 [some (.ref x), l1, l2, l3, l4, l5] (.ref x :: st) h := xo_aload (k := 0) (by decide +kernel) rfl
set_option maxRecDepth 20000 in
theorem u_X8_signAt_20 (L : xL) (a : Nat) (st : List Value) (h : xH) (hc : (xob h a).1 = 8) : xf 115 20 L (.ref a :: st) h = xf 115 23 L ((xob h a).2.getD 1 .null :: st) h := xo_getf (r := 513) (by decide +kernel) (by decide) hc
set_option maxRecDepth 20000 in
theorem u_X8_signAt_23 (L : xL) (st : List Value) (h : xH) : xf 115 23 L st h = xf 115 24 L (.int 1 :: st) h := xo_iconst (k := 1) (by decide +kernel) (by decide)
set_option maxRecDepth 20000 in
theorem u_X8_signAt_24 (l0 l1 l2 l4 l5 : Option Value) (x : Int32) (st : List Value) (h : xH) : xf 115 24 [l0, l1, l2, some (.int x), l4, l5] st h = xf 115 25 [l0, l1, l2, some (.int x), l4, l5] (.int x :: st) h := xo_iload (k := 3) (by decide +kernel) rfl
set_option maxRecDepth 20000 in
theorem u_X8_signAt_25 (L : xL) (a b : Int32) (st : List Value) (h : xH) : xf 115 25 L (.int b :: .int a :: st) h = xf 115 26 L (.int (a + b) :: st) h := xo_iadd (by decide +kernel)
set_option maxRecDepth 20000 in
theorem u_X8_signAt_26 (L : xL) (i : Int32) (a : Nat) (st : List Value) (h : xH) (hx : xix i (xai h a).1) : xf 115 26 L (.int i :: .ref a :: st) h = xf 115 27 L (.int ((xai h a).2 i.toNatClampNeg) :: st) h := xo_iaload (by decide +kernel) hx
set_option maxRecDepth 20000 in
theorem u_X8_signAt_27 (L : xL) (i : Int32) (a : Nat) (st : List Value) (h : xH) (hx : xix i (xai h a).1) : xf 115 27 L (.int i :: .ref a :: st) h = xf 115 28 L (.int ((xai h a).2 i.toNatClampNeg) :: st) h := xo_iaload (by decide +kernel) hx
set_option maxRecDepth 20000 in
theorem u_X8_signAt_28 (L : xL) (a b : Int32) (st : List Value) (h : xH) : xf 115 28 L (.int b :: .int a :: st) h = if a < b then xf 115 53 L st h else xf 115 31 L st h := xo_icmp_lt (t := 53) (by decide +kernel) rfl
set_option maxRecDepth 20000 in
theorem u_X8_signAt_31 (l0 l1 l3 l4 l5 : Option Value) (x : Int32) (st : List Value) (h : xH) : xf 115 31 [l0, l1, some (.int x), l3, l4, l5] st h = xf 115 32 [l0, l1, some (.int x), l3, l4, l5] (.int x :: st) h := xo_iload (k := 2) (by decide +kernel) rfl
set_option maxRecDepth 20000 in
theorem u_X8_signAt_32 (l1 l2 l3 l4 l5 : Option Value) (x : Nat) (st : List Value) (h : xH) : xf 115 32 [some (.ref x), l1, l2, l3, l4, l5] st h = xf 115 33 [some (.ref x), l1, l2, l3, l4, l5] (.ref x :: st) h := xo_aload (k := 0) (by decide +kernel) rfl
set_option maxRecDepth 20000 in
theorem u_X8_signAt_33 (L : xL) (a : Nat) (st : List Value) (h : xH) (hc : (xob h a).1 = 8) : xf 115 33 L (.ref a :: st) h = xf 115 36 L ((xob h a).2.getD 8 .null :: st) h := xo_getf (r := 520) (by decide +kernel) (by decide) hc
set_option maxRecDepth 20000 in
theorem u_X8_signAt_36 (l1 l2 l3 l4 l5 : Option Value) (x : Nat) (st : List Value) (h : xH) : xf 115 36 [some (.ref x), l1, l2, l3, l4, l5] st h = xf 115 37 [some (.ref x), l1, l2, l3, l4, l5] (.ref x :: st) h := xo_aload (k := 0) (by decide +kernel) rfl
set_option maxRecDepth 20000 in
theorem u_X8_signAt_37 (L : xL) (a : Nat) (st : List Value) (h : xH) (hc : (xob h a).1 = 8) : xf 115 37 L (.ref a :: st) h = xf 115 40 L ((xob h a).2.getD 1 .null :: st) h := xo_getf (r := 513) (by decide +kernel) (by decide) hc
set_option maxRecDepth 20000 in
theorem u_X8_signAt_40 (L : xL) (st : List Value) (h : xH) : xf 115 40 L st h = xf 115 41 L (.int 1 :: st) h := xo_iconst (k := 1) (by decide +kernel) (by decide)
set_option maxRecDepth 20000 in
theorem u_X8_signAt_41 (l0 l1 l2 l4 l5 : Option Value) (x : Int32) (st : List Value) (h : xH) : xf 115 41 [l0, l1, l2, some (.int x), l4, l5] st h = xf 115 42 [l0, l1, l2, some (.int x), l4, l5] (.int x :: st) h := xo_iload (k := 3) (by decide +kernel) rfl
set_option maxRecDepth 20000 in
theorem u_X8_signAt_42 (L : xL) (a b : Int32) (st : List Value) (h : xH) : xf 115 42 L (.int b :: .int a :: st) h = xf 115 43 L (.int (a + b) :: st) h := xo_iadd (by decide +kernel)
set_option maxRecDepth 20000 in
theorem u_X8_signAt_43 (L : xL) (i : Int32) (a : Nat) (st : List Value) (h : xH) (hx : xix i (xai h a).1) : xf 115 43 L (.int i :: .ref a :: st) h = xf 115 44 L (.int ((xai h a).2 i.toNatClampNeg) :: st) h := xo_iaload (by decide +kernel) hx
set_option maxRecDepth 20000 in
theorem u_X8_signAt_44 (L : xL) (i : Int32) (a : Nat) (st : List Value) (h : xH) (hx : xix i (xai h a).1) : xf 115 44 L (.int i :: .ref a :: st) h = xf 115 45 L (.int ((xai h a).2 i.toNatClampNeg) :: st) h := xo_iaload (by decide +kernel) hx
set_option maxRecDepth 20000 in
theorem u_X8_signAt_45 (L : xL) (a b : Int32) (st : List Value) (h : xH) : xf 115 45 L (.int b :: .int a :: st) h = xf 115 46 L (.int (a - b) :: st) h := xo_isub (by decide +kernel)
set_option maxRecDepth 20000 in
theorem u_X8_signAt_46 (l0 l1 l2 l3 l4 l5 : Option Value) (x : Int32) (st : List Value) (h : xH) : xf 115 46 [l0, l1, l2, l3, l4, l5] (.int x :: st) h = xf 115 47 [l0, xcat l1, some (.int x), l3, l4, l5] st h := xo_istore (k := 2) (by decide +kernel) (Nat.le_of_ble_eq_true rfl) rfl
set_option maxRecDepth 20000 in
theorem u_X8_signAt_47 (l0 l1 l2 l4 l5 : Option Value) (x : Int32) (st : List Value) (h : xH) : xf 115 47 [l0, l1, l2, some (.int x), l4, l5] st h = xf 115 50 [l0, l1, xcat l2, some (.int (x + 1)), l4, l5] st h := xo_iinc (k := 3) (c := 1) (by decide +kernel) rfl (by decide) rfl
set_option maxRecDepth 20000 in
theorem u_X8_signAt_50 (L : xL) (st : List Value) (h : xH) : xf 115 50 L st h = xf 115 4 L st h := xo_goto (n := 53) (t := 4) (by decide +kernel) rfl
set_option maxRecDepth 20000 in
theorem u_X8_signAt_53 (l0 l1 l2 l4 l5 : Option Value) (x : Int32) (st : List Value) (h : xH) : xf 115 53 [l0, l1, l2, some (.int x), l4, l5] st h = xf 115 54 [l0, l1, l2, some (.int x), l4, l5] (.int x :: st) h := xo_iload (k := 3) (by decide +kernel) rfl
set_option maxRecDepth 20000 in
theorem u_X8_signAt_54 (l1 l2 l3 l4 l5 : Option Value) (x : Nat) (st : List Value) (h : xH) : xf 115 54 [some (.ref x), l1, l2, l3, l4, l5] st h = xf 115 55 [some (.ref x), l1, l2, l3, l4, l5] (.ref x :: st) h := xo_aload (k := 0) (by decide +kernel) rfl
set_option maxRecDepth 20000 in
theorem u_X8_signAt_55 (L : xL) (a : Nat) (st : List Value) (h : xH) (hc : (xob h a).1 = 8) : xf 115 55 L (.ref a :: st) h = xf 115 58 L ((xob h a).2.getD 1 .null :: st) h := xo_getf (r := 513) (by decide +kernel) (by decide) hc
set_option maxRecDepth 20000 in
theorem u_X8_signAt_58 (L : xL) (st : List Value) (h : xH) : xf 115 58 L st h = xf 115 59 L (.int 0 :: st) h := xo_iconst (k := 0) (by decide +kernel) (by decide)
set_option maxRecDepth 20000 in
theorem u_X8_signAt_59 (L : xL) (i : Int32) (a : Nat) (st : List Value) (h : xH) (hx : xix i (xai h a).1) : xf 115 59 L (.int i :: .ref a :: st) h = xf 115 60 L (.int ((xai h a).2 i.toNatClampNeg) :: st) h := xo_iaload (by decide +kernel) hx
set_option maxRecDepth 20000 in
theorem u_X8_signAt_60 (L : xL) (a b : Int32) (st : List Value) (h : xH) : xf 115 60 L (.int b :: .int a :: st) h = if a = b then xf 115 63 L st h else xf 115 65 L st h := xo_icmp_ne (t := 65) (by decide +kernel) rfl
set_option maxRecDepth 20000 in
theorem u_X8_signAt_63 (L : xL) (st : List Value) (h : xH) : xf 115 63 L st h = xf 115 64 L (.int (-1) :: st) h := xo_iconst (k := (-1)) (by decide +kernel) (by decide)
set_option maxRecDepth 20000 in
theorem u_X8_signAt_64 (L : xL) (x : Int32) (h : xH) : xf 115 64 L [.int x] h = some (.inl (some (.int x)), h) := xo_ireturn (n := 65) (by decide +kernel) rfl
set_option maxRecDepth 20000 in
theorem u_X8_signAt_65 (l1 l2 l3 l4 l5 : Option Value) (x : Nat) (st : List Value) (h : xH) : xf 115 65 [some (.ref x), l1, l2, l3, l4, l5] st h = xf 115 66 [some (.ref x), l1, l2, l3, l4, l5] (.ref x :: st) h := xo_aload (k := 0) (by decide +kernel) rfl
set_option maxRecDepth 20000 in
theorem u_X8_signAt_66 (L : xL) (a : Nat) (st : List Value) (h : xH) (hc : (xob h a).1 = 8) : xf 115 66 L (.ref a :: st) h = xf 115 69 L ((xob h a).2.getD 1 .null :: st) h := xo_getf (r := 513) (by decide +kernel) (by decide) hc
set_option maxRecDepth 20000 in
theorem u_X8_signAt_69 (L : xL) (st : List Value) (h : xH) : xf 115 69 L st h = xf 115 70 L (.int 1 :: st) h := xo_iconst (k := 1) (by decide +kernel) (by decide)
set_option maxRecDepth 20000 in
theorem u_X8_signAt_70 (l0 l1 l2 l4 l5 : Option Value) (x : Int32) (st : List Value) (h : xH) : xf 115 70 [l0, l1, l2, some (.int x), l4, l5] st h = xf 115 71 [l0, l1, l2, some (.int x), l4, l5] (.int x :: st) h := xo_iload (k := 3) (by decide +kernel) rfl
set_option maxRecDepth 20000 in
theorem u_X8_signAt_71 (L : xL) (a b : Int32) (st : List Value) (h : xH) : xf 115 71 L (.int b :: .int a :: st) h = xf 115 72 L (.int (a + b) :: st) h := xo_iadd (by decide +kernel)
set_option maxRecDepth 20000 in
theorem u_X8_signAt_72 (L : xL) (i : Int32) (a : Nat) (st : List Value) (h : xH) (hx : xix i (xai h a).1) : xf 115 72 L (.int i :: .ref a :: st) h = xf 115 73 L (.int ((xai h a).2 i.toNatClampNeg) :: st) h := xo_iaload (by decide +kernel) hx
set_option maxRecDepth 20000 in
theorem u_X8_signAt_73 (l0 l1 l2 l3 l4 l5 : Option Value) (x : Int32) (st : List Value) (h : xH) : xf 115 73 [l0, l1, l2, l3, l4, l5] (.int x :: st) h = xf 115 75 [l0, l1, l2, xcat l3, some (.int x), l5] st h := xo_istore (k := 4) (by decide +kernel) (Nat.le_of_ble_eq_true rfl) rfl
set_option maxRecDepth 20000 in
theorem u_X8_signAt_75 (l0 l1 l2 l3 l5 : Option Value) (x : Int32) (st : List Value) (h : xH) : xf 115 75 [l0, l1, l2, l3, some (.int x), l5] st h = xf 115 77 [l0, l1, l2, l3, some (.int x), l5] (.int x :: st) h := xo_iload (k := 4) (by decide +kernel) rfl
set_option maxRecDepth 20000 in
theorem u_X8_signAt_77 (L : xL) (st : List Value) (h : xH) : xf 115 77 L st h = xf 115 79 L (.int 8 :: st) h := xo_iconst (k := 8) (by decide +kernel) (by decide)
set_option maxRecDepth 20000 in
theorem u_X8_signAt_79 (L : xL) (a b : Int32) (st : List Value) (h : xH) : xf 115 79 L (.int b :: .int a :: st) h = if a < b then xf 115 152 L st h else xf 115 82 L st h := xo_icmp_lt (t := 152) (by decide +kernel) rfl
set_option maxRecDepth 20000 in
theorem u_X8_signAt_82 (l0 l1 l3 l4 l5 : Option Value) (x : Int32) (st : List Value) (h : xH) : xf 115 82 [l0, l1, some (.int x), l3, l4, l5] st h = xf 115 83 [l0, l1, some (.int x), l3, l4, l5] (.int x :: st) h := xo_iload (k := 2) (by decide +kernel) rfl
set_option maxRecDepth 20000 in
theorem u_X8_signAt_83 (l1 l2 l3 l4 l5 : Option Value) (x : Nat) (st : List Value) (h : xH) : xf 115 83 [some (.ref x), l1, l2, l3, l4, l5] st h = xf 115 84 [some (.ref x), l1, l2, l3, l4, l5] (.ref x :: st) h := xo_aload (k := 0) (by decide +kernel) rfl
set_option maxRecDepth 20000 in
theorem u_X8_signAt_84 (L : xL) (a : Nat) (st : List Value) (h : xH) (hc : (xob h a).1 = 8) : xf 115 84 L (.ref a :: st) h = xf 115 87 L ((xob h a).2.getD 8 .null :: st) h := xo_getf (r := 520) (by decide +kernel) (by decide) hc
set_option maxRecDepth 20000 in
theorem u_X8_signAt_87 (l1 l2 l3 l4 l5 : Option Value) (x : Nat) (st : List Value) (h : xH) : xf 115 87 [some (.ref x), l1, l2, l3, l4, l5] st h = xf 115 88 [some (.ref x), l1, l2, l3, l4, l5] (.ref x :: st) h := xo_aload (k := 0) (by decide +kernel) rfl
set_option maxRecDepth 20000 in
theorem u_X8_signAt_88 (l0 l1 l2 l3 l5 : Option Value) (x : Int32) (st : List Value) (h : xH) : xf 115 88 [l0, l1, l2, l3, some (.int x), l5] st h = xf 115 90 [l0, l1, l2, l3, some (.int x), l5] (.int x :: st) h := xo_iload (k := 4) (by decide +kernel) rfl
set_option maxRecDepth 20000 in
theorem u_X8_signAt_90 (L : xL) (v0 : Int32) (b : Nat) (st : List Value) (h : xH) (hb : (xob h b).1 = 8) (hl : st.length ≤ 4) : xf 115 90 L (.int v0 :: .ref b :: st) h = xgo 115 90 93 L st (xev 105 [.ref b, .int v0] h) := xo_callV (as := [.int v0]) (by decide +kernel) rfl ⟨(by decide +kernel : xna 105 = 1), Nat.le_of_ble_eq_true rfl, rfl, by decide⟩ hb hl
set_option maxRecDepth 20000 in
theorem u_X8_signAt_93 (L : xL) (i : Int32) (a : Nat) (st : List Value) (h : xH) (hx : xix i (xai h a).1) : xf 115 93 L (.int i :: .ref a :: st) h = xf 115 94 L (.int ((xai h a).2 i.toNatClampNeg) :: st) h := xo_iaload (by decide +kernel) hx
set_option maxRecDepth 20000 in
theorem u_X8_signAt_94 (L : xL) (a b : Int32) (st : List Value) (h : xH) : xf 115 94 L (.int b :: .int a :: st) h = if a < b then xf 115 97 L st h else xf 115 101 L st h := xo_icmp_ge (t := 101) (by decide +kernel) rfl
set_option maxRecDepth 20000 in
theorem u_X8_signAt_97 (L : xL) (st : List Value) (h : xH) : xf 115 97 L st h = xf 115 98 L (.int 1 :: st) h := xo_iconst (k := 1) (by decide +kernel) (by decide)
set_option maxRecDepth 20000 in
theorem u_X8_signAt_98 (L : xL) (st : List Value) (h : xH) : xf 115 98 L st h = xf 115 102 L st h := xo_goto (n := 101) (t := 102) (by decide +kernel) rfl
set_option maxRecDepth 20000 in
theorem u_X8_signAt_101 (L : xL) (st : List Value) (h : xH) : xf 115 101 L st h = xf 115 102 L (.int 0 :: st) h := xo_iconst (k := 0) (by decide +kernel) (by decide)
set_option maxRecDepth 20000 in
theorem u_X8_signAt_102 (l0 l1 l2 l3 l4 l5 : Option Value) (x : Int32) (st : List Value) (h : xH) : xf 115 102 [l0, l1, l2, l3, l4, l5] (.int x :: st) h = xf 115 104 [l0, l1, l2, l3, xcat l4, some (.int x)] st h := xo_istore (k := 5) (by decide +kernel) (Nat.le_of_ble_eq_true rfl) rfl
set_option maxRecDepth 20000 in
theorem u_X8_signAt_104 (l0 l1 l3 l4 l5 : Option Value) (x : Int32) (st : List Value) (h : xH) : xf 115 104 [l0, l1, some (.int x), l3, l4, l5] st h = xf 115 105 [l0, l1, some (.int x), l3, l4, l5] (.int x :: st) h := xo_iload (k := 2) (by decide +kernel) rfl
set_option maxRecDepth 20000 in
theorem u_X8_signAt_105 (l0 l1 l2 l3 l4 : Option Value) (x : Int32) (st : List Value) (h : xH) : xf 115 105 [l0, l1, l2, l3, l4, some (.int x)] st h = xf 115 107 [l0, l1, l2, l3, l4, some (.int x)] (.int x :: st) h := xo_iload (k := 5) (by decide +kernel) rfl
set_option maxRecDepth 20000 in
theorem u_X8_signAt_107 (L : xL) (a : Int32) (st : List Value) (h : xH) : xf 115 107 L (.int a :: st) h = if a = 0 then xf 115 114 L st h else xf 115 110 L st h := xo_if_eq (t := 114) (by decide +kernel) rfl
set_option maxRecDepth 20000 in
theorem u_X8_signAt_110 (L : xL) (st : List Value) (h : xH) : xf 115 110 L st h = xf 115 111 L (.int 0 :: st) h := xo_iconst (k := 0) (by decide +kernel) (by decide)
set_option maxRecDepth 20000 in
theorem u_X8_signAt_111 (L : xL) (st : List Value) (h : xH) : xf 115 111 L st h = xf 115 125 L st h := xo_goto (n := 114) (t := 125) (by decide +kernel) rfl
set_option maxRecDepth 20000 in
theorem u_X8_signAt_114 (l1 l2 l3 l4 l5 : Option Value) (x : Nat) (st : List Value) (h : xH) : xf 115 114 [some (.ref x), l1, l2, l3, l4, l5] st h = xf 115 115 [some (.ref x), l1, l2, l3, l4, l5] (.ref x :: st) h := xo_aload (k := 0) (by decide +kernel) rfl
set_option maxRecDepth 20000 in
theorem u_X8_signAt_115 (L : xL) (a : Nat) (st : List Value) (h : xH) (hc : (xob h a).1 = 8) : xf 115 115 L (.ref a :: st) h = xf 115 118 L ((xob h a).2.getD 8 .null :: st) h := xo_getf (r := 520) (by decide +kernel) (by decide) hc
set_option maxRecDepth 20000 in
theorem u_X8_signAt_118 (l1 l2 l3 l4 l5 : Option Value) (x : Nat) (st : List Value) (h : xH) : xf 115 118 [some (.ref x), l1, l2, l3, l4, l5] st h = xf 115 119 [some (.ref x), l1, l2, l3, l4, l5] (.ref x :: st) h := xo_aload (k := 0) (by decide +kernel) rfl
set_option maxRecDepth 20000 in
theorem u_X8_signAt_119 (l0 l1 l2 l3 l5 : Option Value) (x : Int32) (st : List Value) (h : xH) : xf 115 119 [l0, l1, l2, l3, some (.int x), l5] st h = xf 115 121 [l0, l1, l2, l3, some (.int x), l5] (.int x :: st) h := xo_iload (k := 4) (by decide +kernel) rfl
set_option maxRecDepth 20000 in
theorem u_X8_signAt_121 (L : xL) (v0 : Int32) (b : Nat) (st : List Value) (h : xH) (hb : (xob h b).1 = 8) (hl : st.length ≤ 4) : xf 115 121 L (.int v0 :: .ref b :: st) h = xgo 115 121 124 L st (xev 105 [.ref b, .int v0] h) := xo_callV (as := [.int v0]) (by decide +kernel) rfl ⟨(by decide +kernel : xna 105 = 1), Nat.le_of_ble_eq_true rfl, rfl, by decide⟩ hb hl
set_option maxRecDepth 20000 in
theorem u_X8_signAt_124 (L : xL) (i : Int32) (a : Nat) (st : List Value) (h : xH) (hx : xix i (xai h a).1) : xf 115 124 L (.int i :: .ref a :: st) h = xf 115 125 L (.int ((xai h a).2 i.toNatClampNeg) :: st) h := xo_iaload (by decide +kernel) hx
set_option maxRecDepth 20000 in
theorem u_X8_signAt_125 (L : xL) (a b : Int32) (st : List Value) (h : xH) : xf 115 125 L (.int b :: .int a :: st) h = xf 115 126 L (.int (a - b) :: st) h := xo_isub (by decide +kernel)
set_option maxRecDepth 20000 in
theorem u_X8_signAt_126 (l0 l1 l2 l3 l4 l5 : Option Value) (x : Int32) (st : List Value) (h : xH) : xf 115 126 [l0, l1, l2, l3, l4, l5] (.int x :: st) h = xf 115 127 [l0, xcat l1, some (.int x), l3, l4, l5] st h := xo_istore (k := 2) (by decide +kernel) (Nat.le_of_ble_eq_true rfl) rfl
set_option maxRecDepth 20000 in
theorem u_X8_signAt_127 (l0 l1 l2 l3 l4 : Option Value) (x : Int32) (st : List Value) (h : xH) : xf 115 127 [l0, l1, l2, l3, l4, some (.int x)] st h = xf 115 129 [l0, l1, l2, l3, l4, some (.int x)] (.int x :: st) h := xo_iload (k := 5) (by decide +kernel) rfl
set_option maxRecDepth 20000 in
theorem u_X8_signAt_129 (L : xL) (a : Int32) (st : List Value) (h : xH) : xf 115 129 L (.int a :: st) h = if a = 0 then xf 115 141 L st h else xf 115 132 L st h := xo_if_eq (t := 141) (by decide +kernel) rfl
set_option maxRecDepth 20000 in
theorem u_X8_signAt_132 (l1 l2 l3 l4 l5 : Option Value) (x : Nat) (st : List Value) (h : xH) : xf 115 132 [some (.ref x), l1, l2, l3, l4, l5] st h = xf 115 133 [some (.ref x), l1, l2, l3, l4, l5] (.ref x :: st) h := xo_aload (k := 0) (by decide +kernel) rfl
set_option maxRecDepth 20000 in
theorem u_X8_signAt_133 (l0 l1 l2 l3 l5 : Option Value) (x : Int32) (st : List Value) (h : xH) : xf 115 133 [l0, l1, l2, l3, some (.int x), l5] st h = xf 115 135 [l0, l1, l2, l3, some (.int x), l5] (.int x :: st) h := xo_iload (k := 4) (by decide +kernel) rfl
set_option maxRecDepth 20000 in
theorem u_X8_signAt_135 (L : xL) (v0 : Int32) (b : Nat) (st : List Value) (h : xH) (hb : (xob h b).1 = 8) (hl : st.length ≤ 4) : xf 115 135 L (.int v0 :: .ref b :: st) h = xgo 115 135 138 L st (xev 105 [.ref b, .int v0] h) := xo_callV (as := [.int v0]) (by decide +kernel) rfl ⟨(by decide +kernel : xna 105 = 1), Nat.le_of_ble_eq_true rfl, rfl, by decide⟩ hb hl
set_option maxRecDepth 20000 in
theorem u_X8_signAt_138 (L : xL) (st : List Value) (h : xH) : xf 115 138 L st h = xf 115 147 L st h := xo_goto (n := 141) (t := 147) (by decide +kernel) rfl
set_option maxRecDepth 20000 in
theorem u_X8_signAt_141 (l1 l2 l3 l4 l5 : Option Value) (x : Nat) (st : List Value) (h : xH) : xf 115 141 [some (.ref x), l1, l2, l3, l4, l5] st h = xf 115 142 [some (.ref x), l1, l2, l3, l4, l5] (.ref x :: st) h := xo_aload (k := 0) (by decide +kernel) rfl
set_option maxRecDepth 20000 in
theorem u_X8_signAt_142 (l0 l1 l2 l3 l5 : Option Value) (x : Int32) (st : List Value) (h : xH) : xf 115 142 [l0, l1, l2, l3, some (.int x), l5] st h = xf 115 144 [l0, l1, l2, l3, some (.int x), l5] (.int x :: st) h := xo_iload (k := 4) (by decide +kernel) rfl
set_option maxRecDepth 20000 in
theorem u_X8_signAt_144 (L : xL) (v0 : Int32) (b : Nat) (st : List Value) (h : xH) (hb : (xob h b).1 = 8) (hl : st.length ≤ 4) : xf 115 144 L (.int v0 :: .ref b :: st) h = xgo 115 144 147 L st (xev 106 [.ref b, .int v0] h) := xo_callV (as := [.int v0]) (by decide +kernel) rfl ⟨(by decide +kernel : xna 106 = 1), Nat.le_of_ble_eq_true rfl, rfl, by decide⟩ hb hl
set_option maxRecDepth 20000 in
theorem u_X8_signAt_147 (l0 l1 l2 l3 l4 l5 : Option Value) (x : Int32) (st : List Value) (h : xH) : xf 115 147 [l0, l1, l2, l3, l4, l5] (.int x :: st) h = xf 115 149 [l0, l1, l2, xcat l3, some (.int x), l5] st h := xo_istore (k := 4) (by decide +kernel) (Nat.le_of_ble_eq_true rfl) rfl
set_option maxRecDepth 20000 in
theorem u_X8_signAt_149 (L : xL) (st : List Value) (h : xH) : xf 115 149 L st h = xf 115 75 L st h := xo_goto (n := 152) (t := 75) (by decide +kernel) rfl
set_option maxRecDepth 20000 in
theorem u_X8_signAt_152 (l0 l1 l2 l3 l5 : Option Value) (x : Int32) (st : List Value) (h : xH) : xf 115 152 [l0, l1, l2, l3, some (.int x), l5] st h = xf 115 154 [l0, l1, l2, l3, some (.int x), l5] (.int x :: st) h := xo_iload (k := 4) (by decide +kernel) rfl
set_option maxRecDepth 20000 in
theorem u_X8_signAt_154 (L : xL) (x : Int32) (h : xH) : xf 115 154 L [.int x] h = some (.inl (some (.int x)), h) := xo_ireturn (n := 155) (by decide +kernel) rfl
set_option maxRecDepth 20000 in
theorem e_X8_signAt (v0 : Nat) (v1 : Int32) (h : xH) : xev 115 [.ref v0, .int v1] h = xf 115 0 [some (.ref v0), some (.int v1), none, none, none, none] [] h := rfl
set_option maxRecDepth 20000 in
theorem u_X8_go_0 (l1 l2 l3 l4 : Option Value) (x : Nat) (st : List Value) (h : xH) : xf 116 0 [some (.ref x), l1, l2, l3, l4] st h = xf 116 1 [some (.ref x), l1, l2, l3, l4] (.ref x :: st) h := xo_aload (k := 0) (by decide +kernel) rfl
set_option maxRecDepth 20000 in
theorem u_X8_go_1 (L : xL) (st : List Value) (h : xH) : xf 116 1 L st h = xf 116 2 L (.int 0 :: st) h := xo_iconst (k := 0) (by decide +kernel) (by decide)
set_option maxRecDepth 20000 in
theorem u_X8_go_2 (L : xL) (v : Int32) (a : Nat) (st : List Value) (h : xH) (hc : (xob h a).1 = 8) : xf 116 2 L (.int v :: .ref a :: st) h = xf 116 5 L st (xso h a 12 (.int v)) := xo_putf (r := 524) (by decide +kernel) (by decide) rfl hc
set_option maxRecDepth 20000 in
theorem u_X8_go_5 (l1 l2 l3 l4 : Option Value) (x : Nat) (st : List Value) (h : xH) : xf 116 5 [some (.ref x), l1, l2, l3, l4] st h = xf 116 6 [some (.ref x), l1, l2, l3, l4] (.ref x :: st) h := xo_aload (k := 0) (by decide +kernel) rfl
set_option maxRecDepth 20000 in
theorem u_X8_go_6 (L : xL) (st : List Value) (h : xH) : xf 116 6 L st h = xf 116 7 L (.int 0 :: st) h := xo_iconst (k := 0) (by decide +kernel) (by decide)
set_option maxRecDepth 20000 in
theorem u_X8_go_7 (L : xL) (v : Int32) (a : Nat) (st : List Value) (h : xH) (hv : v = 0 ∨ v = 1) (hc : (xob h a).1 = 8) : xf 116 7 L (.int v :: .ref a :: st) h = xf 116 10 L st (xso h a 13 (.int v)) := xo_putf (r := 525) (by decide +kernel) (by decide) (by rcases hv with rfl | rfl <;> rfl) hc
set_option maxRecDepth 20000 in
theorem u_X8_go_10 (l1 l2 l3 l4 : Option Value) (x : Nat) (st : List Value) (h : xH) : xf 116 10 [some (.ref x), l1, l2, l3, l4] st h = xf 116 11 [some (.ref x), l1, l2, l3, l4] (.ref x :: st) h := xo_aload (k := 0) (by decide +kernel) rfl
set_option maxRecDepth 20000 in
theorem u_X8_go_11 (L : xL) (st : List Value) (h : xH) : xf 116 11 L st h = xf 116 12 L (.int 0 :: st) h := xo_iconst (k := 0) (by decide +kernel) (by decide)
set_option maxRecDepth 20000 in
theorem u_X8_go_12 (L : xL) (v : Int32) (a : Nat) (st : List Value) (h : xH) (hc : (xob h a).1 = 8) : xf 116 12 L (.int v :: .ref a :: st) h = xf 116 15 L st (xso h a 14 (.int v)) := xo_putf (r := 526) (by decide +kernel) (by decide) rfl hc
set_option maxRecDepth 20000 in
theorem u_X8_go_15 (l1 l2 l3 l4 : Option Value) (x : Nat) (st : List Value) (h : xH) : xf 116 15 [some (.ref x), l1, l2, l3, l4] st h = xf 116 16 [some (.ref x), l1, l2, l3, l4] (.ref x :: st) h := xo_aload (k := 0) (by decide +kernel) rfl
set_option maxRecDepth 20000 in
theorem u_X8_go_16 (L : xL) (a : Nat) (st : List Value) (h : xH) (hc : (xob h a).1 = 8) : xf 116 16 L (.ref a :: st) h = xf 116 19 L ((xob h a).2.getD 12 .null :: st) h := xo_getf (r := 524) (by decide +kernel) (by decide) hc
set_option maxRecDepth 20000 in
theorem u_X8_go_19 (l1 l2 l3 l4 : Option Value) (x : Nat) (st : List Value) (h : xH) : xf 116 19 [some (.ref x), l1, l2, l3, l4] st h = xf 116 20 [some (.ref x), l1, l2, l3, l4] (.ref x :: st) h := xo_aload (k := 0) (by decide +kernel) rfl
set_option maxRecDepth 20000 in
theorem u_X8_go_20 (L : xL) (a : Nat) (st : List Value) (h : xH) (hc : (xob h a).1 = 8) : xf 116 20 L (.ref a :: st) h = xf 116 23 L ((xob h a).2.getD 6 .null :: st) h := xo_getf (r := 518) (by decide +kernel) (by decide) hc
set_option maxRecDepth 20000 in
theorem u_X8_go_23 (L : xL) (a b : Int32) (st : List Value) (h : xH) : xf 116 23 L (.int b :: .int a :: st) h = if a < b then xf 116 26 L st h else xf 116 197 L st h := xo_icmp_ge (t := 197) (by decide +kernel) rfl
set_option maxRecDepth 20000 in
theorem u_X8_go_26 (l1 l2 l3 l4 : Option Value) (x : Nat) (st : List Value) (h : xH) : xf 116 26 [some (.ref x), l1, l2, l3, l4] st h = xf 116 27 [some (.ref x), l1, l2, l3, l4] (.ref x :: st) h := xo_aload (k := 0) (by decide +kernel) rfl
set_option maxRecDepth 20000 in
theorem u_X8_go_27 (L : xL) (a : Nat) (st : List Value) (h : xH) (hc : (xob h a).1 = 8) : xf 116 27 L (.ref a :: st) h = xf 116 30 L ((xob h a).2.getD 13 .null :: st) h := xo_getf (r := 525) (by decide +kernel) (by decide) hc
set_option maxRecDepth 20000 in
theorem u_X8_go_30 (L : xL) (a : Int32) (st : List Value) (h : xH) : xf 116 30 L (.int a :: st) h = if a = 0 then xf 116 33 L st h else xf 116 197 L st h := xo_if_ne (t := 197) (by decide +kernel) rfl
set_option maxRecDepth 20000 in
theorem u_X8_go_33 (l1 l2 l3 l4 : Option Value) (x : Nat) (st : List Value) (h : xH) : xf 116 33 [some (.ref x), l1, l2, l3, l4] st h = xf 116 34 [some (.ref x), l1, l2, l3, l4] (.ref x :: st) h := xo_aload (k := 0) (by decide +kernel) rfl
set_option maxRecDepth 20000 in
theorem u_X8_go_34 (L : xL) (a : Nat) (st : List Value) (h : xH) (hc : (xob h a).1 = 8) : xf 116 34 L (.ref a :: st) h = xf 116 37 L ((xob h a).2.getD 5 .null :: st) h := xo_getf (r := 517) (by decide +kernel) (by decide) hc
set_option maxRecDepth 20000 in
theorem u_X8_go_37 (l1 l2 l3 l4 : Option Value) (x : Nat) (st : List Value) (h : xH) : xf 116 37 [some (.ref x), l1, l2, l3, l4] st h = xf 116 38 [some (.ref x), l1, l2, l3, l4] (.ref x :: st) h := xo_aload (k := 0) (by decide +kernel) rfl
set_option maxRecDepth 20000 in
theorem u_X8_go_38 (L : xL) (a : Nat) (st : List Value) (h : xH) (hc : (xob h a).1 = 8) : xf 116 38 L (.ref a :: st) h = xf 116 41 L ((xob h a).2.getD 12 .null :: st) h := xo_getf (r := 524) (by decide +kernel) (by decide) hc
set_option maxRecDepth 20000 in
theorem u_X8_go_41 (L : xL) (i : Int32) (a : Nat) (st : List Value) (h : xH) (hx : xix i (xai h a).1) : xf 116 41 L (.int i :: .ref a :: st) h = xf 116 42 L (.int ((xai h a).2 i.toNatClampNeg) :: st) h := xo_iaload (by decide +kernel) hx
set_option maxRecDepth 20000 in
theorem u_X8_go_42 (l0 l1 l2 l3 l4 : Option Value) (x : Int32) (st : List Value) (h : xH) : xf 116 42 [l0, l1, l2, l3, l4] (.int x :: st) h = xf 116 43 [l0, xcat l1, some (.int x), l3, l4] st h := xo_istore (k := 2) (by decide +kernel) (Nat.le_of_ble_eq_true rfl) rfl
set_option maxRecDepth 20000 in
theorem u_X8_go_43 (l0 l1 l3 l4 : Option Value) (x : Int32) (st : List Value) (h : xH) : xf 116 43 [l0, l1, some (.int x), l3, l4] st h = xf 116 44 [l0, l1, some (.int x), l3, l4] (.int x :: st) h := xo_iload (k := 2) (by decide +kernel) rfl
set_option maxRecDepth 20000 in
theorem u_X8_go_44 (L : xL) (st : List Value) (h : xH) : xf 116 44 L st h = xf 116 46 L (.int 97 :: st) h := xo_iconst (k := 97) (by decide +kernel) (by decide)
set_option maxRecDepth 20000 in
theorem u_X8_go_46 (L : xL) (st : List Value) (h : xH) : xf 116 46 L st h = xf 116 48 L (.int 104 :: st) h := xo_iconst (k := 104) (by decide +kernel) (by decide)
set_option maxRecDepth 20000 in
theorem u_X8_go_48 (L : xL) (v0 : Int32) (v1 : Int32) (v2 : Int32) (st : List Value) (h : xH) (hl : st.length ≤ 4) : xf 116 48 L (.int v2 :: .int v1 :: .int v0 :: st) h = xgo 116 48 51 L st (xev 99 [.int v0, .int v1, .int v2] h) := xo_callS (as := [.int v0, .int v1, .int v2]) (by decide +kernel) rfl ⟨(by decide +kernel : xna 99 = 3), Nat.le_of_ble_eq_true rfl, by decide⟩ hl
set_option maxRecDepth 20000 in
theorem u_X8_go_51 (L : xL) (a : Int32) (st : List Value) (h : xH) : xf 116 51 L (.int a :: st) h = if a = 0 then xf 116 189 L st h else xf 116 54 L st h := xo_if_eq (t := 189) (by decide +kernel) rfl
set_option maxRecDepth 20000 in
theorem u_X8_go_54 (l1 l2 l3 l4 : Option Value) (x : Nat) (st : List Value) (h : xH) : xf 116 54 [some (.ref x), l1, l2, l3, l4] st h = xf 116 55 [some (.ref x), l1, l2, l3, l4] (.ref x :: st) h := xo_aload (k := 0) (by decide +kernel) rfl
set_option maxRecDepth 20000 in
theorem u_X8_go_55 (L : xL) (a : Nat) (st : List Value) (h : xH) : xf 116 55 L (.ref a :: st) h = xf 116 56 L (.ref a :: .ref a :: st) h := xo_dupR (by decide +kernel)
set_option maxRecDepth 20000 in
theorem u_X8_go_56 (L : xL) (a : Nat) (st : List Value) (h : xH) (hc : (xob h a).1 = 8) : xf 116 56 L (.ref a :: st) h = xf 116 59 L ((xob h a).2.getD 12 .null :: st) h := xo_getf (r := 524) (by decide +kernel) (by decide) hc
set_option maxRecDepth 20000 in
theorem u_X8_go_59 (L : xL) (st : List Value) (h : xH) : xf 116 59 L st h = xf 116 60 L (.int 1 :: st) h := xo_iconst (k := 1) (by decide +kernel) (by decide)
set_option maxRecDepth 20000 in
theorem u_X8_go_60 (L : xL) (a b : Int32) (st : List Value) (h : xH) : xf 116 60 L (.int b :: .int a :: st) h = xf 116 61 L (.int (a + b) :: st) h := xo_iadd (by decide +kernel)
set_option maxRecDepth 20000 in
theorem u_X8_go_61 (L : xL) (v : Int32) (a : Nat) (st : List Value) (h : xH) (hc : (xob h a).1 = 8) : xf 116 61 L (.int v :: .ref a :: st) h = xf 116 64 L st (xso h a 12 (.int v)) := xo_putf (r := 524) (by decide +kernel) (by decide) rfl hc
set_option maxRecDepth 20000 in
theorem u_X8_go_64 (l1 l2 l3 l4 : Option Value) (x : Nat) (st : List Value) (h : xH) : xf 116 64 [some (.ref x), l1, l2, l3, l4] st h = xf 116 65 [some (.ref x), l1, l2, l3, l4] (.ref x :: st) h := xo_aload (k := 0) (by decide +kernel) rfl
set_option maxRecDepth 20000 in
theorem u_X8_go_65 (L : xL) (a : Nat) (st : List Value) (h : xH) (hc : (xob h a).1 = 8) : xf 116 65 L (.ref a :: st) h = xf 116 68 L ((xob h a).2.getD 12 .null :: st) h := xo_getf (r := 524) (by decide +kernel) (by decide) hc
set_option maxRecDepth 20000 in
theorem u_X8_go_68 (l1 l2 l3 l4 : Option Value) (x : Nat) (st : List Value) (h : xH) : xf 116 68 [some (.ref x), l1, l2, l3, l4] st h = xf 116 69 [some (.ref x), l1, l2, l3, l4] (.ref x :: st) h := xo_aload (k := 0) (by decide +kernel) rfl
set_option maxRecDepth 20000 in
theorem u_X8_go_69 (L : xL) (a : Nat) (st : List Value) (h : xH) (hc : (xob h a).1 = 8) : xf 116 69 L (.ref a :: st) h = xf 116 72 L ((xob h a).2.getD 6 .null :: st) h := xo_getf (r := 518) (by decide +kernel) (by decide) hc
set_option maxRecDepth 20000 in
theorem u_X8_go_72 (L : xL) (a b : Int32) (st : List Value) (h : xH) : xf 116 72 L (.int b :: .int a :: st) h = if a < b then xf 116 75 L st h else xf 116 109 L st h := xo_icmp_ge (t := 109) (by decide +kernel) rfl
set_option maxRecDepth 20000 in
theorem u_X8_go_75 (l1 l2 l3 l4 : Option Value) (x : Nat) (st : List Value) (h : xH) : xf 116 75 [some (.ref x), l1, l2, l3, l4] st h = xf 116 76 [some (.ref x), l1, l2, l3, l4] (.ref x :: st) h := xo_aload (k := 0) (by decide +kernel) rfl
set_option maxRecDepth 20000 in
theorem u_X8_go_76 (L : xL) (a : Nat) (st : List Value) (h : xH) (hc : (xob h a).1 = 8) : xf 116 76 L (.ref a :: st) h = xf 116 79 L ((xob h a).2.getD 5 .null :: st) h := xo_getf (r := 517) (by decide +kernel) (by decide) hc
set_option maxRecDepth 20000 in
theorem u_X8_go_79 (l1 l2 l3 l4 : Option Value) (x : Nat) (st : List Value) (h : xH) : xf 116 79 [some (.ref x), l1, l2, l3, l4] st h = xf 116 80 [some (.ref x), l1, l2, l3, l4] (.ref x :: st) h := xo_aload (k := 0) (by decide +kernel) rfl
set_option maxRecDepth 20000 in
theorem u_X8_go_80 (L : xL) (a : Nat) (st : List Value) (h : xH) (hc : (xob h a).1 = 8) : xf 116 80 L (.ref a :: st) h = xf 116 83 L ((xob h a).2.getD 12 .null :: st) h := xo_getf (r := 524) (by decide +kernel) (by decide) hc
set_option maxRecDepth 20000 in
theorem u_X8_go_83 (L : xL) (i : Int32) (a : Nat) (st : List Value) (h : xH) (hx : xix i (xai h a).1) : xf 116 83 L (.int i :: .ref a :: st) h = xf 116 84 L (.int ((xai h a).2 i.toNatClampNeg) :: st) h := xo_iaload (by decide +kernel) hx
set_option maxRecDepth 20000 in
theorem u_X8_go_84 (L : xL) (st : List Value) (h : xH) : xf 116 84 L st h = xf 116 86 L (.int 50 :: st) h := xo_iconst (k := 50) (by decide +kernel) (by decide)
set_option maxRecDepth 20000 in
theorem u_X8_go_86 (L : xL) (st : List Value) (h : xH) : xf 116 86 L st h = xf 116 88 L (.int 57 :: st) h := xo_iconst (k := 57) (by decide +kernel) (by decide)
set_option maxRecDepth 20000 in
theorem u_X8_go_88 (L : xL) (v0 : Int32) (v1 : Int32) (v2 : Int32) (st : List Value) (h : xH) (hl : st.length ≤ 4) : xf 116 88 L (.int v2 :: .int v1 :: .int v0 :: st) h = xgo 116 88 91 L st (xev 99 [.int v0, .int v1, .int v2] h) := xo_callS (as := [.int v0, .int v1, .int v2]) (by decide +kernel) rfl ⟨(by decide +kernel : xna 99 = 3), Nat.le_of_ble_eq_true rfl, by decide⟩ hl
set_option maxRecDepth 20000 in
theorem u_X8_go_91 (L : xL) (a : Int32) (st : List Value) (h : xH) : xf 116 91 L (.int a :: st) h = if a = 0 then xf 116 109 L st h else xf 116 94 L st h := xo_if_eq (t := 109) (by decide +kernel) rfl
set_option maxRecDepth 20000 in
theorem u_X8_go_94 (l1 l2 l3 l4 : Option Value) (x : Nat) (st : List Value) (h : xH) : xf 116 94 [some (.ref x), l1, l2, l3, l4] st h = xf 116 95 [some (.ref x), l1, l2, l3, l4] (.ref x :: st) h := xo_aload (k := 0) (by decide +kernel) rfl
set_option maxRecDepth 20000 in
theorem u_X8_go_95 (L : xL) (a : Nat) (st : List Value) (h : xH) (hc : (xob h a).1 = 8) : xf 116 95 L (.ref a :: st) h = xf 116 98 L ((xob h a).2.getD 5 .null :: st) h := xo_getf (r := 517) (by decide +kernel) (by decide) hc
set_option maxRecDepth 20000 in
theorem u_X8_go_98 (l1 l2 l3 l4 : Option Value) (x : Nat) (st : List Value) (h : xH) : xf 116 98 [some (.ref x), l1, l2, l3, l4] st h = xf 116 99 [some (.ref x), l1, l2, l3, l4] (.ref x :: st) h := xo_aload (k := 0) (by decide +kernel) rfl
set_option maxRecDepth 20000 in
theorem u_X8_go_99 (L : xL) (a : Nat) (st : List Value) (h : xH) (hc : (xob h a).1 = 8) : xf 116 99 L (.ref a :: st) h = xf 116 102 L ((xob h a).2.getD 12 .null :: st) h := xo_getf (r := 524) (by decide +kernel) (by decide) hc
set_option maxRecDepth 20000 in
theorem u_X8_go_102 (L : xL) (i : Int32) (a : Nat) (st : List Value) (h : xH) (hx : xix i (xai h a).1) : xf 116 102 L (.int i :: .ref a :: st) h = xf 116 103 L (.int ((xai h a).2 i.toNatClampNeg) :: st) h := xo_iaload (by decide +kernel) hx
set_option maxRecDepth 20000 in
theorem u_X8_go_103 (L : xL) (st : List Value) (h : xH) : xf 116 103 L st h = xf 116 105 L (.int 48 :: st) h := xo_iconst (k := 48) (by decide +kernel) (by decide)
set_option maxRecDepth 20000 in
theorem u_X8_go_105 (L : xL) (a b : Int32) (st : List Value) (h : xH) : xf 116 105 L (.int b :: .int a :: st) h = xf 116 106 L (.int (a - b) :: st) h := xo_isub (by decide +kernel)
set_option maxRecDepth 20000 in
theorem u_X8_go_106 (L : xL) (st : List Value) (h : xH) : xf 116 106 L st h = xf 116 110 L st h := xo_goto (n := 109) (t := 110) (by decide +kernel) rfl
set_option maxRecDepth 20000 in
theorem u_X8_go_109 (L : xL) (st : List Value) (h : xH) : xf 116 109 L st h = xf 116 110 L (.int 1 :: st) h := xo_iconst (k := 1) (by decide +kernel) (by decide)
set_option maxRecDepth 20000 in
theorem u_X8_go_110 (l0 l1 l2 l3 l4 : Option Value) (x : Int32) (st : List Value) (h : xH) : xf 116 110 [l0, l1, l2, l3, l4] (.int x :: st) h = xf 116 111 [l0, l1, xcat l2, some (.int x), l4] st h := xo_istore (k := 3) (by decide +kernel) (Nat.le_of_ble_eq_true rfl) rfl
set_option maxRecDepth 20000 in
theorem u_X8_go_111 (l1 l2 l3 l4 : Option Value) (x : Nat) (st : List Value) (h : xH) : xf 116 111 [some (.ref x), l1, l2, l3, l4] st h = xf 116 112 [some (.ref x), l1, l2, l3, l4] (.ref x :: st) h := xo_aload (k := 0) (by decide +kernel) rfl
set_option maxRecDepth 20000 in
theorem u_X8_go_112 (L : xL) (a : Nat) (st : List Value) (h : xH) : xf 116 112 L (.ref a :: st) h = xf 116 113 L (.ref a :: .ref a :: st) h := xo_dupR (by decide +kernel)
set_option maxRecDepth 20000 in
theorem u_X8_go_113 (L : xL) (a : Nat) (st : List Value) (h : xH) (hc : (xob h a).1 = 8) : xf 116 113 L (.ref a :: st) h = xf 116 116 L ((xob h a).2.getD 12 .null :: st) h := xo_getf (r := 524) (by decide +kernel) (by decide) hc
set_option maxRecDepth 20000 in
theorem u_X8_go_116 (l0 l1 l2 l4 : Option Value) (x : Int32) (st : List Value) (h : xH) : xf 116 116 [l0, l1, l2, some (.int x), l4] st h = xf 116 117 [l0, l1, l2, some (.int x), l4] (.int x :: st) h := xo_iload (k := 3) (by decide +kernel) rfl
set_option maxRecDepth 20000 in
theorem u_X8_go_117 (L : xL) (st : List Value) (h : xH) : xf 116 117 L st h = xf 116 118 L (.int 1 :: st) h := xo_iconst (k := 1) (by decide +kernel) (by decide)
set_option maxRecDepth 20000 in
theorem u_X8_go_118 (L : xL) (a b : Int32) (st : List Value) (h : xH) : xf 116 118 L (.int b :: .int a :: st) h = if b < a then xf 116 121 L st h else xf 116 125 L st h := xo_icmp_le (t := 125) (by decide +kernel) rfl
set_option maxRecDepth 20000 in
theorem u_X8_go_121 (L : xL) (st : List Value) (h : xH) : xf 116 121 L st h = xf 116 122 L (.int 1 :: st) h := xo_iconst (k := 1) (by decide +kernel) (by decide)
set_option maxRecDepth 20000 in
theorem u_X8_go_122 (L : xL) (st : List Value) (h : xH) : xf 116 122 L st h = xf 116 126 L st h := xo_goto (n := 125) (t := 126) (by decide +kernel) rfl
set_option maxRecDepth 20000 in
theorem u_X8_go_125 (L : xL) (st : List Value) (h : xH) : xf 116 125 L st h = xf 116 126 L (.int 0 :: st) h := xo_iconst (k := 0) (by decide +kernel) (by decide)
set_option maxRecDepth 20000 in
theorem u_X8_go_126 (L : xL) (a b : Int32) (st : List Value) (h : xH) : xf 116 126 L (.int b :: .int a :: st) h = xf 116 127 L (.int (a + b) :: st) h := xo_iadd (by decide +kernel)
set_option maxRecDepth 20000 in
theorem u_X8_go_127 (L : xL) (v : Int32) (a : Nat) (st : List Value) (h : xH) (hc : (xob h a).1 = 8) : xf 116 127 L (.int v :: .ref a :: st) h = xf 116 130 L st (xso h a 12 (.int v)) := xo_putf (r := 524) (by decide +kernel) (by decide) rfl hc
set_option maxRecDepth 20000 in
theorem u_X8_go_130 (l1 l2 l3 l4 : Option Value) (x : Nat) (st : List Value) (h : xH) : xf 116 130 [some (.ref x), l1, l2, l3, l4] st h = xf 116 131 [some (.ref x), l1, l2, l3, l4] (.ref x :: st) h := xo_aload (k := 0) (by decide +kernel) rfl
set_option maxRecDepth 20000 in
theorem u_X8_go_131 (L : xL) (a : Nat) (st : List Value) (h : xH) : xf 116 131 L (.ref a :: st) h = xf 116 132 L (.ref a :: .ref a :: st) h := xo_dupR (by decide +kernel)
set_option maxRecDepth 20000 in
theorem u_X8_go_132 (L : xL) (a : Nat) (st : List Value) (h : xH) (hc : (xob h a).1 = 8) : xf 116 132 L (.ref a :: st) h = xf 116 135 L ((xob h a).2.getD 14 .null :: st) h := xo_getf (r := 526) (by decide +kernel) (by decide) hc
set_option maxRecDepth 20000 in
theorem u_X8_go_135 (l0 l1 l2 l4 : Option Value) (x : Int32) (st : List Value) (h : xH) : xf 116 135 [l0, l1, l2, some (.int x), l4] st h = xf 116 136 [l0, l1, l2, some (.int x), l4] (.int x :: st) h := xo_iload (k := 3) (by decide +kernel) rfl
set_option maxRecDepth 20000 in
theorem u_X8_go_136 (L : xL) (a b : Int32) (st : List Value) (h : xH) : xf 116 136 L (.int b :: .int a :: st) h = xf 116 137 L (.int (a + b) :: st) h := xo_iadd (by decide +kernel)
set_option maxRecDepth 20000 in
theorem u_X8_go_137 (L : xL) (v : Int32) (a : Nat) (st : List Value) (h : xH) (hc : (xob h a).1 = 8) : xf 116 137 L (.int v :: .ref a :: st) h = xf 116 140 L st (xso h a 14 (.int v)) := xo_putf (r := 526) (by decide +kernel) (by decide) rfl hc
set_option maxRecDepth 20000 in
theorem u_X8_go_140 (L : xL) (st : List Value) (h : xH) : xf 116 140 L st h = xf 116 141 L (.int 0 :: st) h := xo_iconst (k := 0) (by decide +kernel) (by decide)
set_option maxRecDepth 20000 in
theorem u_X8_go_141 (l0 l1 l2 l3 l4 : Option Value) (x : Int32) (st : List Value) (h : xH) : xf 116 141 [l0, l1, l2, l3, l4] (.int x :: st) h = xf 116 143 [l0, l1, l2, xcat l3, some (.int x)] st h := xo_istore (k := 4) (by decide +kernel) (Nat.le_of_ble_eq_true rfl) rfl
set_option maxRecDepth 20000 in
theorem u_X8_go_143 (l0 l1 l2 l3 : Option Value) (x : Int32) (st : List Value) (h : xH) : xf 116 143 [l0, l1, l2, l3, some (.int x)] st h = xf 116 145 [l0, l1, l2, l3, some (.int x)] (.int x :: st) h := xo_iload (k := 4) (by decide +kernel) rfl
set_option maxRecDepth 20000 in
theorem u_X8_go_145 (l0 l1 l2 l4 : Option Value) (x : Int32) (st : List Value) (h : xH) : xf 116 145 [l0, l1, l2, some (.int x), l4] st h = xf 116 146 [l0, l1, l2, some (.int x), l4] (.int x :: st) h := xo_iload (k := 3) (by decide +kernel) rfl
set_option maxRecDepth 20000 in
theorem u_X8_go_146 (L : xL) (a b : Int32) (st : List Value) (h : xH) : xf 116 146 L (.int b :: .int a :: st) h = if a < b then xf 116 149 L st h else xf 116 186 L st h := xo_icmp_ge (t := 186) (by decide +kernel) rfl
set_option maxRecDepth 20000 in
theorem u_X8_go_149 (l0 l2 l3 l4 : Option Value) (x : Int32) (st : List Value) (h : xH) : xf 116 149 [l0, some (.int x), l2, l3, l4] st h = xf 116 150 [l0, some (.int x), l2, l3, l4] (.int x :: st) h := xo_iload (k := 1) (by decide +kernel) rfl
set_option maxRecDepth 20000 in
theorem u_X8_go_150 (L : xL) (a : Int32) (st : List Value) (h : xH) : xf 116 150 L (.int a :: st) h = if a = 0 then xf 116 186 L st h else xf 116 153 L st h := xo_if_eq (t := 186) (by decide +kernel) rfl
set_option maxRecDepth 20000 in
theorem u_X8_go_153 (l1 l2 l3 l4 : Option Value) (x : Nat) (st : List Value) (h : xH) : xf 116 153 [some (.ref x), l1, l2, l3, l4] st h = xf 116 154 [some (.ref x), l1, l2, l3, l4] (.ref x :: st) h := xo_aload (k := 0) (by decide +kernel) rfl
set_option maxRecDepth 20000 in
theorem u_X8_go_154 (L : xL) (a : Nat) (st : List Value) (h : xH) (hc : (xob h a).1 = 8) : xf 116 154 L (.ref a :: st) h = xf 116 157 L ((xob h a).2.getD 1 .null :: st) h := xo_getf (r := 513) (by decide +kernel) (by decide) hc
set_option maxRecDepth 20000 in
theorem u_X8_go_157 (L : xL) (st : List Value) (h : xH) : xf 116 157 L st h = xf 116 158 L (.int 1 :: st) h := xo_iconst (k := 1) (by decide +kernel) (by decide)
set_option maxRecDepth 20000 in
theorem u_X8_go_158 (l1 l2 l3 l4 : Option Value) (x : Nat) (st : List Value) (h : xH) : xf 116 158 [some (.ref x), l1, l2, l3, l4] st h = xf 116 159 [some (.ref x), l1, l2, l3, l4] (.ref x :: st) h := xo_aload (k := 0) (by decide +kernel) rfl
set_option maxRecDepth 20000 in
theorem u_X8_go_159 (L : xL) (a : Nat) (st : List Value) (h : xH) (hc : (xob h a).1 = 8) : xf 116 159 L (.ref a :: st) h = xf 116 162 L ((xob h a).2.getD 1 .null :: st) h := xo_getf (r := 513) (by decide +kernel) (by decide) hc
set_option maxRecDepth 20000 in
theorem u_X8_go_162 (L : xL) (st : List Value) (h : xH) : xf 116 162 L st h = xf 116 163 L (.int 0 :: st) h := xo_iconst (k := 0) (by decide +kernel) (by decide)
set_option maxRecDepth 20000 in
theorem u_X8_go_163 (L : xL) (i : Int32) (a : Nat) (st : List Value) (h : xH) (hx : xix i (xai h a).1) : xf 116 163 L (.int i :: .ref a :: st) h = xf 116 164 L (.int ((xai h a).2 i.toNatClampNeg) :: st) h := xo_iaload (by decide +kernel) hx
set_option maxRecDepth 20000 in
theorem u_X8_go_164 (L : xL) (a b : Int32) (st : List Value) (h : xH) : xf 116 164 L (.int b :: .int a :: st) h = xf 116 165 L (.int (a + b) :: st) h := xo_iadd (by decide +kernel)
set_option maxRecDepth 20000 in
theorem u_X8_go_165 (l0 l1 l3 l4 : Option Value) (x : Int32) (st : List Value) (h : xH) : xf 116 165 [l0, l1, some (.int x), l3, l4] st h = xf 116 166 [l0, l1, some (.int x), l3, l4] (.int x :: st) h := xo_iload (k := 2) (by decide +kernel) rfl
set_option maxRecDepth 20000 in
theorem u_X8_go_166 (L : xL) (st : List Value) (h : xH) : xf 116 166 L st h = xf 116 168 L (.int 97 :: st) h := xo_iconst (k := 97) (by decide +kernel) (by decide)
set_option maxRecDepth 20000 in
theorem u_X8_go_168 (L : xL) (a b : Int32) (st : List Value) (h : xH) : xf 116 168 L (.int b :: .int a :: st) h = xf 116 169 L (.int (a - b) :: st) h := xo_isub (by decide +kernel)
set_option maxRecDepth 20000 in
theorem u_X8_go_169 (L : xL) (v i : Int32) (a : Nat) (st : List Value) (h : xH) (hx : xix i (xai h a).1) : xf 116 169 L (.int v :: .int i :: .ref a :: st) h = xf 116 170 L st (xsi h a i.toNatClampNeg v) := xo_iastore (by decide +kernel) hx
set_option maxRecDepth 20000 in
theorem u_X8_go_170 (l1 l2 l3 l4 : Option Value) (x : Nat) (st : List Value) (h : xH) : xf 116 170 [some (.ref x), l1, l2, l3, l4] st h = xf 116 171 [some (.ref x), l1, l2, l3, l4] (.ref x :: st) h := xo_aload (k := 0) (by decide +kernel) rfl
set_option maxRecDepth 20000 in
theorem u_X8_go_171 (L : xL) (a : Nat) (st : List Value) (h : xH) (hc : (xob h a).1 = 8) : xf 116 171 L (.ref a :: st) h = xf 116 174 L ((xob h a).2.getD 1 .null :: st) h := xo_getf (r := 513) (by decide +kernel) (by decide) hc
set_option maxRecDepth 20000 in
theorem u_X8_go_174 (L : xL) (st : List Value) (h : xH) : xf 116 174 L st h = xf 116 175 L (.int 0 :: st) h := xo_iconst (k := 0) (by decide +kernel) (by decide)
set_option maxRecDepth 20000 in
theorem u_X8_go_175 (L : xL) (a : Int32) (b : Nat) (st : List Value) (h : xH) : xf 116 175 L (.int a :: .ref b :: st) h = xf 116 176 L (.int a :: .ref b :: .int a :: .ref b :: st) h := xo_dup2 (by decide +kernel)
set_option maxRecDepth 20000 in
theorem u_X8_go_176 (L : xL) (i : Int32) (a : Nat) (st : List Value) (h : xH) (hx : xix i (xai h a).1) : xf 116 176 L (.int i :: .ref a :: st) h = xf 116 177 L (.int ((xai h a).2 i.toNatClampNeg) :: st) h := xo_iaload (by decide +kernel) hx
set_option maxRecDepth 20000 in
theorem u_X8_go_177 (L : xL) (st : List Value) (h : xH) : xf 116 177 L st h = xf 116 178 L (.int 1 :: st) h := xo_iconst (k := 1) (by decide +kernel) (by decide)
set_option maxRecDepth 20000 in
theorem u_X8_go_178 (L : xL) (a b : Int32) (st : List Value) (h : xH) : xf 116 178 L (.int b :: .int a :: st) h = xf 116 179 L (.int (a + b) :: st) h := xo_iadd (by decide +kernel)
set_option maxRecDepth 20000 in
theorem u_X8_go_179 (L : xL) (v i : Int32) (a : Nat) (st : List Value) (h : xH) (hx : xix i (xai h a).1) : xf 116 179 L (.int v :: .int i :: .ref a :: st) h = xf 116 180 L st (xsi h a i.toNatClampNeg v) := xo_iastore (by decide +kernel) hx
set_option maxRecDepth 20000 in
theorem u_X8_go_180 (l0 l1 l2 l3 : Option Value) (x : Int32) (st : List Value) (h : xH) : xf 116 180 [l0, l1, l2, l3, some (.int x)] st h = xf 116 183 [l0, l1, l2, xcat l3, some (.int (x + 1))] st h := xo_iinc (k := 4) (c := 1) (by decide +kernel) rfl (by decide) rfl
set_option maxRecDepth 20000 in
theorem u_X8_go_183 (L : xL) (st : List Value) (h : xH) : xf 116 183 L st h = xf 116 143 L st h := xo_goto (n := 186) (t := 143) (by decide +kernel) rfl
set_option maxRecDepth 20000 in
theorem u_X8_go_186 (L : xL) (st : List Value) (h : xH) : xf 116 186 L st h = xf 116 194 L st h := xo_goto (n := 189) (t := 194) (by decide +kernel) rfl
set_option maxRecDepth 20000 in
theorem u_X8_go_189 (l1 l2 l3 l4 : Option Value) (x : Nat) (st : List Value) (h : xH) : xf 116 189 [some (.ref x), l1, l2, l3, l4] st h = xf 116 190 [some (.ref x), l1, l2, l3, l4] (.ref x :: st) h := xo_aload (k := 0) (by decide +kernel) rfl
set_option maxRecDepth 20000 in
theorem u_X8_go_190 (L : xL) (st : List Value) (h : xH) : xf 116 190 L st h = xf 116 191 L (.int 1 :: st) h := xo_iconst (k := 1) (by decide +kernel) (by decide)
set_option maxRecDepth 20000 in
theorem u_X8_go_191 (L : xL) (v : Int32) (a : Nat) (st : List Value) (h : xH) (hv : v = 0 ∨ v = 1) (hc : (xob h a).1 = 8) : xf 116 191 L (.int v :: .ref a :: st) h = xf 116 194 L st (xso h a 13 (.int v)) := xo_putf (r := 525) (by decide +kernel) (by decide) (by rcases hv with rfl | rfl <;> rfl) hc
set_option maxRecDepth 20000 in
theorem u_X8_go_194 (L : xL) (st : List Value) (h : xH) : xf 116 194 L st h = xf 116 15 L st h := xo_goto (n := 197) (t := 15) (by decide +kernel) rfl
set_option maxRecDepth 20000 in
theorem u_X8_go_197 (L : xL) (h : xH) : xf 116 197 L [] h = some (.inl none, h) := xo_return (n := 198) (by decide +kernel) rfl
set_option maxRecDepth 20000 in
theorem e_X8_go (v0 : Nat) (v1 : Int32) (h : xH) : xev 116 [.ref v0, .int v1] h = xf 116 0 [some (.ref v0), some (.int v1), none, none, none] [] h := rfl
set_option maxRecDepth 20000 in
theorem u_X8_grow_0 (x : Nat) (st : List Value) (h : xH) : xf 117 0 [some (.ref x)] st h = xf 117 1 [some (.ref x)] (.ref x :: st) h := xo_aload (k := 0) (by decide +kernel) rfl
set_option maxRecDepth 20000 in
theorem u_X8_grow_1 (L : xL) (st : List Value) (h : xH) : xf 117 1 L st h = xf 117 2 L (.int 0 :: st) h := xo_iconst (k := 0) (by decide +kernel) (by decide)
set_option maxRecDepth 20000 in
theorem u_X8_grow_2 (L : xL) (v0 : Int32) (b : Nat) (st : List Value) (h : xH) (hb : (xob h b).1 = 8) (hl : st.length ≤ 4) : xf 117 2 L (.int v0 :: .ref b :: st) h = xgo 117 2 5 L st (xev 116 [.ref b, .int v0] h) := xo_callV (as := [.int v0]) (by decide +kernel) rfl ⟨(by decide +kernel : xna 116 = 1), Nat.le_of_ble_eq_true rfl, rfl, by decide⟩ hb hl
set_option maxRecDepth 20000 in
theorem u_X8_grow_5 (x : Nat) (st : List Value) (h : xH) : xf 117 5 [some (.ref x)] st h = xf 117 6 [some (.ref x)] (.ref x :: st) h := xo_aload (k := 0) (by decide +kernel) rfl
set_option maxRecDepth 20000 in
theorem u_X8_grow_6 (x : Nat) (st : List Value) (h : xH) : xf 117 6 [some (.ref x)] st h = xf 117 7 [some (.ref x)] (.ref x :: st) h := xo_aload (k := 0) (by decide +kernel) rfl
set_option maxRecDepth 20000 in
theorem u_X8_grow_7 (L : xL) (a : Nat) (st : List Value) (h : xH) (hc : (xob h a).1 = 8) : xf 117 7 L (.ref a :: st) h = xf 117 10 L ((xob h a).2.getD 13 .null :: st) h := xo_getf (r := 525) (by decide +kernel) (by decide) hc
set_option maxRecDepth 20000 in
theorem u_X8_grow_10 (L : xL) (a : Int32) (st : List Value) (h : xH) : xf 117 10 L (.int a :: st) h = if a = 0 then xf 117 13 L st h else xf 117 20 L st h := xo_if_ne (t := 20) (by decide +kernel) rfl
set_option maxRecDepth 20000 in
theorem u_X8_grow_13 (x : Nat) (st : List Value) (h : xH) : xf 117 13 [some (.ref x)] st h = xf 117 14 [some (.ref x)] (.ref x :: st) h := xo_aload (k := 0) (by decide +kernel) rfl
set_option maxRecDepth 20000 in
theorem u_X8_grow_14 (L : xL) (a : Nat) (st : List Value) (h : xH) (hc : (xob h a).1 = 8) : xf 117 14 L (.ref a :: st) h = xf 117 17 L ((xob h a).2.getD 6 .null :: st) h := xo_getf (r := 518) (by decide +kernel) (by decide) hc
set_option maxRecDepth 20000 in
theorem u_X8_grow_17 (L : xL) (a : Int32) (st : List Value) (h : xH) : xf 117 17 L (.int a :: st) h = if a = 0 then xf 117 20 L st h else xf 117 24 L st h := xo_if_ne (t := 24) (by decide +kernel) rfl
set_option maxRecDepth 20000 in
theorem u_X8_grow_20 (L : xL) (st : List Value) (h : xH) : xf 117 20 L st h = xf 117 21 L (.int 1 :: st) h := xo_iconst (k := 1) (by decide +kernel) (by decide)
set_option maxRecDepth 20000 in
theorem u_X8_grow_21 (L : xL) (st : List Value) (h : xH) : xf 117 21 L st h = xf 117 45 L st h := xo_goto (n := 24) (t := 45) (by decide +kernel) rfl
set_option maxRecDepth 20000 in
theorem u_X8_grow_24 (x : Nat) (st : List Value) (h : xH) : xf 117 24 [some (.ref x)] st h = xf 117 25 [some (.ref x)] (.ref x :: st) h := xo_aload (k := 0) (by decide +kernel) rfl
set_option maxRecDepth 20000 in
theorem u_X8_grow_25 (L : xL) (a : Nat) (st : List Value) (h : xH) (hc : (xob h a).1 = 8) : xf 117 25 L (.ref a :: st) h = xf 117 28 L ((xob h a).2.getD 1 .null :: st) h := xo_getf (r := 513) (by decide +kernel) (by decide) hc
set_option maxRecDepth 20000 in
theorem u_X8_grow_28 (L : xL) (st : List Value) (h : xH) : xf 117 28 L st h = xf 117 29 L (.int 0 :: st) h := xo_iconst (k := 0) (by decide +kernel) (by decide)
set_option maxRecDepth 20000 in
theorem u_X8_grow_29 (L : xL) (i : Int32) (a : Nat) (st : List Value) (h : xH) (hx : xix i (xai h a).1) : xf 117 29 L (.int i :: .ref a :: st) h = xf 117 30 L (.int ((xai h a).2 i.toNatClampNeg) :: st) h := xo_iaload (by decide +kernel) hx
set_option maxRecDepth 20000 in
theorem u_X8_grow_30 (x : Nat) (st : List Value) (h : xH) : xf 117 30 [some (.ref x)] st h = xf 117 31 [some (.ref x)] (.ref x :: st) h := xo_aload (k := 0) (by decide +kernel) rfl
set_option maxRecDepth 20000 in
theorem u_X8_grow_31 (L : xL) (a : Nat) (st : List Value) (h : xH) (hc : (xob h a).1 = 8) : xf 117 31 L (.ref a :: st) h = xf 117 34 L ((xob h a).2.getD 14 .null :: st) h := xo_getf (r := 526) (by decide +kernel) (by decide) hc
set_option maxRecDepth 20000 in
theorem u_X8_grow_34 (L : xL) (a b : Int32) (st : List Value) (h : xH) : xf 117 34 L (.int b :: .int a :: st) h = xf 117 35 L (.int (a + b) :: st) h := xo_iadd (by decide +kernel)
set_option maxRecDepth 20000 in
theorem u_X8_grow_35 (L : xL) (st : List Value) (h : xH) : xf 117 35 L st h = xf 117 37 L (.int 64 :: st) h := xo_iconst (k := 64) (by decide +kernel) (by decide)
set_option maxRecDepth 20000 in
theorem u_X8_grow_37 (L : xL) (a b : Int32) (st : List Value) (h : xH) : xf 117 37 L (.int b :: .int a :: st) h = if b < a then xf 117 40 L st h else xf 117 44 L st h := xo_icmp_le (t := 44) (by decide +kernel) rfl
set_option maxRecDepth 20000 in
theorem u_X8_grow_40 (L : xL) (st : List Value) (h : xH) : xf 117 40 L st h = xf 117 41 L (.int 2 :: st) h := xo_iconst (k := 2) (by decide +kernel) (by decide)
set_option maxRecDepth 20000 in
theorem u_X8_grow_41 (L : xL) (st : List Value) (h : xH) : xf 117 41 L st h = xf 117 45 L st h := xo_goto (n := 44) (t := 45) (by decide +kernel) rfl
set_option maxRecDepth 20000 in
theorem u_X8_grow_44 (L : xL) (st : List Value) (h : xH) : xf 117 44 L st h = xf 117 45 L (.int 0 :: st) h := xo_iconst (k := 0) (by decide +kernel) (by decide)
set_option maxRecDepth 20000 in
theorem u_X8_grow_45 (L : xL) (v0 : Int32) (b : Nat) (st : List Value) (h : xH) (hb : (xob h b).1 = 8) (hl : st.length ≤ 4) : xf 117 45 L (.int v0 :: .ref b :: st) h = xgo 117 45 48 L st (xev 100 [.ref b, .int v0] h) := xo_callV (as := [.int v0]) (by decide +kernel) rfl ⟨(by decide +kernel : xna 100 = 1), Nat.le_of_ble_eq_true rfl, rfl, by decide⟩ hb hl
set_option maxRecDepth 20000 in
theorem u_X8_grow_48 (L : xL) (a : Int32) (st : List Value) (h : xH) : xf 117 48 L (.int a :: st) h = if a = 0 then xf 117 51 L st h else xf 117 53 L st h := xo_if_ne (t := 53) (by decide +kernel) rfl
set_option maxRecDepth 20000 in
theorem u_X8_grow_51 (L : xL) (st : List Value) (h : xH) : xf 117 51 L st h = xf 117 52 L (.int 0 :: st) h := xo_iconst (k := 0) (by decide +kernel) (by decide)
set_option maxRecDepth 20000 in
theorem u_X8_grow_52 (L : xL) (x : Int32) (h : xH) : xf 117 52 L [.int x] h = some (.inl (some (.int x)), h) := xo_ireturn (n := 53) (by decide +kernel) rfl
set_option maxRecDepth 20000 in
theorem u_X8_grow_53 (x : Nat) (st : List Value) (h : xH) : xf 117 53 [some (.ref x)] st h = xf 117 54 [some (.ref x)] (.ref x :: st) h := xo_aload (k := 0) (by decide +kernel) rfl
set_option maxRecDepth 20000 in
theorem u_X8_grow_54 (L : xL) (b : Nat) (st : List Value) (h : xH) (hb : (xob h b).1 = 8) (hl : st.length ≤ 4) : xf 117 54 L (.ref b :: st) h = xgo 117 54 57 L st (xev 101 [.ref b] h) := xo_callV (as := []) (by decide +kernel) rfl ⟨(by decide +kernel : xna 101 = 0), Nat.le_of_ble_eq_true rfl, rfl, by decide⟩ hb hl
set_option maxRecDepth 20000 in
theorem u_X8_grow_57 (x : Nat) (st : List Value) (h : xH) : xf 117 57 [some (.ref x)] st h = xf 117 58 [some (.ref x)] (.ref x :: st) h := xo_aload (k := 0) (by decide +kernel) rfl
set_option maxRecDepth 20000 in
theorem u_X8_grow_58 (L : xL) (st : List Value) (h : xH) : xf 117 58 L st h = xf 117 59 L (.int 1 :: st) h := xo_iconst (k := 1) (by decide +kernel) (by decide)
set_option maxRecDepth 20000 in
theorem u_X8_grow_59 (L : xL) (v0 : Int32) (b : Nat) (st : List Value) (h : xH) (hb : (xob h b).1 = 8) (hl : st.length ≤ 4) : xf 117 59 L (.int v0 :: .ref b :: st) h = xgo 117 59 62 L st (xev 116 [.ref b, .int v0] h) := xo_callV (as := [.int v0]) (by decide +kernel) rfl ⟨(by decide +kernel : xna 116 = 1), Nat.le_of_ble_eq_true rfl, rfl, by decide⟩ hb hl
set_option maxRecDepth 20000 in
theorem u_X8_grow_62 (x : Nat) (st : List Value) (h : xH) : xf 117 62 [some (.ref x)] st h = xf 117 63 [some (.ref x)] (.ref x :: st) h := xo_aload (k := 0) (by decide +kernel) rfl
set_option maxRecDepth 20000 in
theorem u_X8_grow_63 (L : xL) (st : List Value) (h : xH) : xf 117 63 L st h = xf 117 64 L (.int 0 :: st) h := xo_iconst (k := 0) (by decide +kernel) (by decide)
set_option maxRecDepth 20000 in
theorem u_X8_grow_64 (L : xL) (v : Int32) (a : Nat) (st : List Value) (h : xH) (hc : (xob h a).1 = 8) : xf 117 64 L (.int v :: .ref a :: st) h = xf 117 67 L st (xso h a 6 (.int v)) := xo_putf (r := 518) (by decide +kernel) (by decide) rfl hc
set_option maxRecDepth 20000 in
theorem u_X8_grow_67 (x : Nat) (st : List Value) (h : xH) : xf 117 67 [some (.ref x)] st h = xf 117 68 [some (.ref x)] (.ref x :: st) h := xo_aload (k := 0) (by decide +kernel) rfl
set_option maxRecDepth 20000 in
theorem u_X8_grow_68 (L : xL) (a : Nat) (st : List Value) (h : xH) (hc : (xob h a).1 = 8) : xf 117 68 L (.ref a :: st) h = xf 117 71 L ((xob h a).2.getD 1 .null :: st) h := xo_getf (r := 513) (by decide +kernel) (by decide) hc
set_option maxRecDepth 20000 in
theorem u_X8_grow_71 (L : xL) (st : List Value) (h : xH) : xf 117 71 L st h = xf 117 72 L (.int 0 :: st) h := xo_iconst (k := 0) (by decide +kernel) (by decide)
set_option maxRecDepth 20000 in
theorem u_X8_grow_72 (L : xL) (i : Int32) (a : Nat) (st : List Value) (h : xH) (hx : xix i (xai h a).1) : xf 117 72 L (.int i :: .ref a :: st) h = xf 117 73 L (.int ((xai h a).2 i.toNatClampNeg) :: st) h := xo_iaload (by decide +kernel) hx
set_option maxRecDepth 20000 in
theorem u_X8_grow_73 (L : xL) (x : Int32) (h : xH) : xf 117 73 L [.int x] h = some (.inl (some (.int x)), h) := xo_ireturn (n := 74) (by decide +kernel) rfl
set_option maxRecDepth 20000 in
theorem e_X8_grow (v0 : Nat) (h : xH) : xev 117 [.ref v0] h = xf 117 0 [some (.ref v0)] [] h := rfl
set_option maxRecDepth 20000 in
theorem u_X8_add_0 (l1 : Option Value) (x : Nat) (st : List Value) (h : xH) : xf 118 0 [some (.ref x), l1] st h = xf 118 1 [some (.ref x), l1] (.ref x :: st) h := xo_aload (k := 0) (by decide +kernel) rfl
set_option maxRecDepth 20000 in
theorem u_X8_add_1 (l1 : Option Value) (x : Nat) (st : List Value) (h : xH) : xf 118 1 [some (.ref x), l1] st h = xf 118 2 [some (.ref x), l1] (.ref x :: st) h := xo_aload (k := 0) (by decide +kernel) rfl
set_option maxRecDepth 20000 in
theorem u_X8_add_2 (l0 : Option Value) (x : Int32) (st : List Value) (h : xH) : xf 118 2 [l0, some (.int x)] st h = xf 118 3 [l0, some (.int x)] (.int x :: st) h := xo_iload (k := 1) (by decide +kernel) rfl
set_option maxRecDepth 20000 in
theorem u_X8_add_3 (L : xL) (v0 : Int32) (b : Nat) (st : List Value) (h : xH) (hb : (xob h b).1 = 8) (hl : st.length ≤ 4) : xf 118 3 L (.int v0 :: .ref b :: st) h = xgo 118 3 6 L st (xev 104 [.ref b, .int v0] h) := xo_callV (as := [.int v0]) (by decide +kernel) rfl ⟨(by decide +kernel : xna 104 = 1), Nat.le_of_ble_eq_true rfl, rfl, by decide⟩ hb hl
set_option maxRecDepth 20000 in
theorem u_X8_add_6 (L : xL) (a : Int32) (st : List Value) (h : xH) : xf 118 6 L (.int a :: st) h = if a = 0 then xf 118 9 L st h else xf 118 13 L st h := xo_if_ne (t := 13) (by decide +kernel) rfl
set_option maxRecDepth 20000 in
theorem u_X8_add_9 (L : xL) (st : List Value) (h : xH) : xf 118 9 L st h = xf 118 10 L (.int 1 :: st) h := xo_iconst (k := 1) (by decide +kernel) (by decide)
set_option maxRecDepth 20000 in
theorem u_X8_add_10 (L : xL) (st : List Value) (h : xH) : xf 118 10 L st h = xf 118 29 L st h := xo_goto (n := 13) (t := 29) (by decide +kernel) rfl
set_option maxRecDepth 20000 in
theorem u_X8_add_13 (l1 : Option Value) (x : Nat) (st : List Value) (h : xH) : xf 118 13 [some (.ref x), l1] st h = xf 118 14 [some (.ref x), l1] (.ref x :: st) h := xo_aload (k := 0) (by decide +kernel) rfl
set_option maxRecDepth 20000 in
theorem u_X8_add_14 (L : xL) (a : Nat) (st : List Value) (h : xH) (hc : (xob h a).1 = 8) : xf 118 14 L (.ref a :: st) h = xf 118 17 L ((xob h a).2.getD 1 .null :: st) h := xo_getf (r := 513) (by decide +kernel) (by decide) hc
set_option maxRecDepth 20000 in
theorem u_X8_add_17 (L : xL) (st : List Value) (h : xH) : xf 118 17 L st h = xf 118 18 L (.int 0 :: st) h := xo_iconst (k := 0) (by decide +kernel) (by decide)
set_option maxRecDepth 20000 in
theorem u_X8_add_18 (L : xL) (i : Int32) (a : Nat) (st : List Value) (h : xH) (hx : xix i (xai h a).1) : xf 118 18 L (.int i :: .ref a :: st) h = xf 118 19 L (.int ((xai h a).2 i.toNatClampNeg) :: st) h := xo_iaload (by decide +kernel) hx
set_option maxRecDepth 20000 in
theorem u_X8_add_19 (L : xL) (st : List Value) (h : xH) : xf 118 19 L st h = xf 118 21 L (.int 64 :: st) h := xo_iconst (k := 64) (by decide +kernel) (by decide)
set_option maxRecDepth 20000 in
theorem u_X8_add_21 (L : xL) (a b : Int32) (st : List Value) (h : xH) : xf 118 21 L (.int b :: .int a :: st) h = if a = b then xf 118 24 L st h else xf 118 28 L st h := xo_icmp_ne (t := 28) (by decide +kernel) rfl
set_option maxRecDepth 20000 in
theorem u_X8_add_24 (L : xL) (st : List Value) (h : xH) : xf 118 24 L st h = xf 118 25 L (.int 2 :: st) h := xo_iconst (k := 2) (by decide +kernel) (by decide)
set_option maxRecDepth 20000 in
theorem u_X8_add_25 (L : xL) (st : List Value) (h : xH) : xf 118 25 L st h = xf 118 29 L st h := xo_goto (n := 28) (t := 29) (by decide +kernel) rfl
set_option maxRecDepth 20000 in
theorem u_X8_add_28 (L : xL) (st : List Value) (h : xH) : xf 118 28 L st h = xf 118 29 L (.int 0 :: st) h := xo_iconst (k := 0) (by decide +kernel) (by decide)
set_option maxRecDepth 20000 in
theorem u_X8_add_29 (L : xL) (v0 : Int32) (b : Nat) (st : List Value) (h : xH) (hb : (xob h b).1 = 8) (hl : st.length ≤ 4) : xf 118 29 L (.int v0 :: .ref b :: st) h = xgo 118 29 32 L st (xev 100 [.ref b, .int v0] h) := xo_callV (as := [.int v0]) (by decide +kernel) rfl ⟨(by decide +kernel : xna 100 = 1), Nat.le_of_ble_eq_true rfl, rfl, by decide⟩ hb hl
set_option maxRecDepth 20000 in
theorem u_X8_add_32 (L : xL) (a : Int32) (st : List Value) (h : xH) : xf 118 32 L (.int a :: st) h = if a = 0 then xf 118 35 L st h else xf 118 37 L st h := xo_if_ne (t := 37) (by decide +kernel) rfl
set_option maxRecDepth 20000 in
theorem u_X8_add_35 (L : xL) (st : List Value) (h : xH) : xf 118 35 L st h = xf 118 36 L (.int 0 :: st) h := xo_iconst (k := 0) (by decide +kernel) (by decide)
set_option maxRecDepth 20000 in
theorem u_X8_add_36 (L : xL) (x : Int32) (h : xH) : xf 118 36 L [.int x] h = some (.inl (some (.int x)), h) := xo_ireturn (n := 37) (by decide +kernel) rfl
set_option maxRecDepth 20000 in
theorem u_X8_add_37 (l1 : Option Value) (x : Nat) (st : List Value) (h : xH) : xf 118 37 [some (.ref x), l1] st h = xf 118 38 [some (.ref x), l1] (.ref x :: st) h := xo_aload (k := 0) (by decide +kernel) rfl
set_option maxRecDepth 20000 in
theorem u_X8_add_38 (L : xL) (b : Nat) (st : List Value) (h : xH) (hb : (xob h b).1 = 8) (hl : st.length ≤ 4) : xf 118 38 L (.ref b :: st) h = xgo 118 38 41 L st (xev 101 [.ref b] h) := xo_callV (as := []) (by decide +kernel) rfl ⟨(by decide +kernel : xna 101 = 0), Nat.le_of_ble_eq_true rfl, rfl, by decide⟩ hb hl
set_option maxRecDepth 20000 in
theorem u_X8_add_41 (l1 : Option Value) (x : Nat) (st : List Value) (h : xH) : xf 118 41 [some (.ref x), l1] st h = xf 118 42 [some (.ref x), l1] (.ref x :: st) h := xo_aload (k := 0) (by decide +kernel) rfl
set_option maxRecDepth 20000 in
theorem u_X8_add_42 (L : xL) (a : Nat) (st : List Value) (h : xH) (hc : (xob h a).1 = 8) : xf 118 42 L (.ref a :: st) h = xf 118 45 L ((xob h a).2.getD 1 .null :: st) h := xo_getf (r := 513) (by decide +kernel) (by decide) hc
set_option maxRecDepth 20000 in
theorem u_X8_add_45 (L : xL) (st : List Value) (h : xH) : xf 118 45 L st h = xf 118 46 L (.int 1 :: st) h := xo_iconst (k := 1) (by decide +kernel) (by decide)
set_option maxRecDepth 20000 in
theorem u_X8_add_46 (l1 : Option Value) (x : Nat) (st : List Value) (h : xH) : xf 118 46 [some (.ref x), l1] st h = xf 118 47 [some (.ref x), l1] (.ref x :: st) h := xo_aload (k := 0) (by decide +kernel) rfl
set_option maxRecDepth 20000 in
theorem u_X8_add_47 (L : xL) (a : Nat) (st : List Value) (h : xH) (hc : (xob h a).1 = 8) : xf 118 47 L (.ref a :: st) h = xf 118 50 L ((xob h a).2.getD 1 .null :: st) h := xo_getf (r := 513) (by decide +kernel) (by decide) hc
set_option maxRecDepth 20000 in
theorem u_X8_add_50 (L : xL) (st : List Value) (h : xH) : xf 118 50 L st h = xf 118 51 L (.int 0 :: st) h := xo_iconst (k := 0) (by decide +kernel) (by decide)
set_option maxRecDepth 20000 in
theorem u_X8_add_51 (L : xL) (i : Int32) (a : Nat) (st : List Value) (h : xH) (hx : xix i (xai h a).1) : xf 118 51 L (.int i :: .ref a :: st) h = xf 118 52 L (.int ((xai h a).2 i.toNatClampNeg) :: st) h := xo_iaload (by decide +kernel) hx
set_option maxRecDepth 20000 in
theorem u_X8_add_52 (L : xL) (a b : Int32) (st : List Value) (h : xH) : xf 118 52 L (.int b :: .int a :: st) h = xf 118 53 L (.int (a + b) :: st) h := xo_iadd (by decide +kernel)
set_option maxRecDepth 20000 in
theorem u_X8_add_53 (l0 : Option Value) (x : Int32) (st : List Value) (h : xH) : xf 118 53 [l0, some (.int x)] st h = xf 118 54 [l0, some (.int x)] (.int x :: st) h := xo_iload (k := 1) (by decide +kernel) rfl
set_option maxRecDepth 20000 in
theorem u_X8_add_54 (L : xL) (v i : Int32) (a : Nat) (st : List Value) (h : xH) (hx : xix i (xai h a).1) : xf 118 54 L (.int v :: .int i :: .ref a :: st) h = xf 118 55 L st (xsi h a i.toNatClampNeg v) := xo_iastore (by decide +kernel) hx
set_option maxRecDepth 20000 in
theorem u_X8_add_55 (l1 : Option Value) (x : Nat) (st : List Value) (h : xH) : xf 118 55 [some (.ref x), l1] st h = xf 118 56 [some (.ref x), l1] (.ref x :: st) h := xo_aload (k := 0) (by decide +kernel) rfl
set_option maxRecDepth 20000 in
theorem u_X8_add_56 (L : xL) (a : Nat) (st : List Value) (h : xH) (hc : (xob h a).1 = 8) : xf 118 56 L (.ref a :: st) h = xf 118 59 L ((xob h a).2.getD 1 .null :: st) h := xo_getf (r := 513) (by decide +kernel) (by decide) hc
set_option maxRecDepth 20000 in
theorem u_X8_add_59 (L : xL) (st : List Value) (h : xH) : xf 118 59 L st h = xf 118 60 L (.int 0 :: st) h := xo_iconst (k := 0) (by decide +kernel) (by decide)
set_option maxRecDepth 20000 in
theorem u_X8_add_60 (L : xL) (a : Int32) (b : Nat) (st : List Value) (h : xH) : xf 118 60 L (.int a :: .ref b :: st) h = xf 118 61 L (.int a :: .ref b :: .int a :: .ref b :: st) h := xo_dup2 (by decide +kernel)
set_option maxRecDepth 20000 in
theorem u_X8_add_61 (L : xL) (i : Int32) (a : Nat) (st : List Value) (h : xH) (hx : xix i (xai h a).1) : xf 118 61 L (.int i :: .ref a :: st) h = xf 118 62 L (.int ((xai h a).2 i.toNatClampNeg) :: st) h := xo_iaload (by decide +kernel) hx
set_option maxRecDepth 20000 in
theorem u_X8_add_62 (L : xL) (st : List Value) (h : xH) : xf 118 62 L st h = xf 118 63 L (.int 1 :: st) h := xo_iconst (k := 1) (by decide +kernel) (by decide)
set_option maxRecDepth 20000 in
theorem u_X8_add_63 (L : xL) (a b : Int32) (st : List Value) (h : xH) : xf 118 63 L (.int b :: .int a :: st) h = xf 118 64 L (.int (a + b) :: st) h := xo_iadd (by decide +kernel)
set_option maxRecDepth 20000 in
theorem u_X8_add_64 (L : xL) (v i : Int32) (a : Nat) (st : List Value) (h : xH) (hx : xix i (xai h a).1) : xf 118 64 L (.int v :: .int i :: .ref a :: st) h = xf 118 65 L st (xsi h a i.toNatClampNeg v) := xo_iastore (by decide +kernel) hx
set_option maxRecDepth 20000 in
theorem u_X8_add_65 (l1 : Option Value) (x : Nat) (st : List Value) (h : xH) : xf 118 65 [some (.ref x), l1] st h = xf 118 66 [some (.ref x), l1] (.ref x :: st) h := xo_aload (k := 0) (by decide +kernel) rfl
set_option maxRecDepth 20000 in
theorem u_X8_add_66 (L : xL) (a : Nat) (st : List Value) (h : xH) (hc : (xob h a).1 = 8) : xf 118 66 L (.ref a :: st) h = xf 118 69 L ((xob h a).2.getD 1 .null :: st) h := xo_getf (r := 513) (by decide +kernel) (by decide) hc
set_option maxRecDepth 20000 in
theorem u_X8_add_69 (L : xL) (st : List Value) (h : xH) : xf 118 69 L st h = xf 118 70 L (.int 0 :: st) h := xo_iconst (k := 0) (by decide +kernel) (by decide)
set_option maxRecDepth 20000 in
theorem u_X8_add_70 (L : xL) (i : Int32) (a : Nat) (st : List Value) (h : xH) (hx : xix i (xai h a).1) : xf 118 70 L (.int i :: .ref a :: st) h = xf 118 71 L (.int ((xai h a).2 i.toNatClampNeg) :: st) h := xo_iaload (by decide +kernel) hx
set_option maxRecDepth 20000 in
theorem u_X8_add_71 (L : xL) (x : Int32) (h : xH) : xf 118 71 L [.int x] h = some (.inl (some (.int x)), h) := xo_ireturn (n := 72) (by decide +kernel) rfl
set_option maxRecDepth 20000 in
theorem e_X8_add (v0 : Nat) (v1 : Int32) (h : xH) : xev 118 [.ref v0, .int v1] h = xf 118 0 [some (.ref v0), some (.int v1)] [] h := rfl
set_option maxRecDepth 20000 in
theorem u_X8_sweep_0 (L : xL) (st : List Value) (h : xH) : xf 119 0 L st h = xf 119 1 L (.int 1 :: st) h := xo_iconst (k := 1) (by decide +kernel) (by decide)
set_option maxRecDepth 20000 in
theorem u_X8_sweep_1 (l0 l1 l2 : Option Value) (x : Int32) (st : List Value) (h : xH) : xf 119 1 [l0, l1, l2] (.int x :: st) h = xf 119 2 [xcat l0, some (.int x), l2] st h := xo_istore (k := 1) (by decide +kernel) (Nat.le_of_ble_eq_true rfl) rfl
set_option maxRecDepth 20000 in
theorem u_X8_sweep_2 (l0 l2 : Option Value) (x : Int32) (st : List Value) (h : xH) : xf 119 2 [l0, some (.int x), l2] st h = xf 119 3 [l0, some (.int x), l2] (.int x :: st) h := xo_iload (k := 1) (by decide +kernel) rfl
set_option maxRecDepth 20000 in
theorem u_X8_sweep_3 (L : xL) (a : Int32) (st : List Value) (h : xH) : xf 119 3 L (.int a :: st) h = if a = 0 then xf 119 63 L st h else xf 119 6 L st h := xo_if_eq (t := 63) (by decide +kernel) rfl
set_option maxRecDepth 20000 in
theorem u_X8_sweep_6 (L : xL) (st : List Value) (h : xH) : xf 119 6 L st h = xf 119 7 L (.int 0 :: st) h := xo_iconst (k := 0) (by decide +kernel) (by decide)
set_option maxRecDepth 20000 in
theorem u_X8_sweep_7 (l0 l1 l2 : Option Value) (x : Int32) (st : List Value) (h : xH) : xf 119 7 [l0, l1, l2] (.int x :: st) h = xf 119 8 [xcat l0, some (.int x), l2] st h := xo_istore (k := 1) (by decide +kernel) (Nat.le_of_ble_eq_true rfl) rfl
set_option maxRecDepth 20000 in
theorem u_X8_sweep_8 (L : xL) (st : List Value) (h : xH) : xf 119 8 L st h = xf 119 10 L (.int 8 :: st) h := xo_iconst (k := 8) (by decide +kernel) (by decide)
set_option maxRecDepth 20000 in
theorem u_X8_sweep_10 (l0 l1 l2 : Option Value) (x : Int32) (st : List Value) (h : xH) : xf 119 10 [l0, l1, l2] (.int x :: st) h = xf 119 11 [l0, xcat l1, some (.int x)] st h := xo_istore (k := 2) (by decide +kernel) (Nat.le_of_ble_eq_true rfl) rfl
set_option maxRecDepth 20000 in
theorem u_X8_sweep_11 (l0 l1 : Option Value) (x : Int32) (st : List Value) (h : xH) : xf 119 11 [l0, l1, some (.int x)] st h = xf 119 12 [l0, l1, some (.int x)] (.int x :: st) h := xo_iload (k := 2) (by decide +kernel) rfl
set_option maxRecDepth 20000 in
theorem u_X8_sweep_12 (L : xL) (st : List Value) (h : xH) : xf 119 12 L st h = xf 119 14 L (.int 24 :: st) h := xo_iconst (k := 24) (by decide +kernel) (by decide)
set_option maxRecDepth 20000 in
theorem u_X8_sweep_14 (L : xL) (a b : Int32) (st : List Value) (h : xH) : xf 119 14 L (.int b :: .int a :: st) h = if a < b then xf 119 17 L st h else xf 119 60 L st h := xo_icmp_ge (t := 60) (by decide +kernel) rfl
set_option maxRecDepth 20000 in
theorem u_X8_sweep_17 (l1 l2 : Option Value) (x : Nat) (st : List Value) (h : xH) : xf 119 17 [some (.ref x), l1, l2] st h = xf 119 18 [some (.ref x), l1, l2] (.ref x :: st) h := xo_aload (k := 0) (by decide +kernel) rfl
set_option maxRecDepth 20000 in
theorem u_X8_sweep_18 (l0 l1 : Option Value) (x : Int32) (st : List Value) (h : xH) : xf 119 18 [l0, l1, some (.int x)] st h = xf 119 19 [l0, l1, some (.int x)] (.int x :: st) h := xo_iload (k := 2) (by decide +kernel) rfl
set_option maxRecDepth 20000 in
theorem u_X8_sweep_19 (L : xL) (v0 : Int32) (b : Nat) (st : List Value) (h : xH) (hb : (xob h b).1 = 8) (hl : st.length ≤ 4) : xf 119 19 L (.int v0 :: .ref b :: st) h = xgo 119 19 22 L st (xev 104 [.ref b, .int v0] h) := xo_callV (as := [.int v0]) (by decide +kernel) rfl ⟨(by decide +kernel : xna 104 = 1), Nat.le_of_ble_eq_true rfl, rfl, by decide⟩ hb hl
set_option maxRecDepth 20000 in
theorem u_X8_sweep_22 (L : xL) (a : Int32) (st : List Value) (h : xH) : xf 119 22 L (.int a :: st) h = if a = 0 then xf 119 54 L st h else xf 119 25 L st h := xo_if_eq (t := 54) (by decide +kernel) rfl
set_option maxRecDepth 20000 in
theorem u_X8_sweep_25 (l1 l2 : Option Value) (x : Nat) (st : List Value) (h : xH) : xf 119 25 [some (.ref x), l1, l2] st h = xf 119 26 [some (.ref x), l1, l2] (.ref x :: st) h := xo_aload (k := 0) (by decide +kernel) rfl
set_option maxRecDepth 20000 in
theorem u_X8_sweep_26 (l0 l1 : Option Value) (x : Int32) (st : List Value) (h : xH) : xf 119 26 [l0, l1, some (.int x)] st h = xf 119 27 [l0, l1, some (.int x)] (.int x :: st) h := xo_iload (k := 2) (by decide +kernel) rfl
set_option maxRecDepth 20000 in
theorem u_X8_sweep_27 (L : xL) (v0 : Int32) (b : Nat) (st : List Value) (h : xH) (hb : (xob h b).1 = 8) (hl : st.length ≤ 4) : xf 119 27 L (.int v0 :: .ref b :: st) h = xgo 119 27 30 L st (xev 109 [.ref b, .int v0] h) := xo_callV (as := [.int v0]) (by decide +kernel) rfl ⟨(by decide +kernel : xna 109 = 1), Nat.le_of_ble_eq_true rfl, rfl, by decide⟩ hb hl
set_option maxRecDepth 20000 in
theorem u_X8_sweep_30 (l1 l2 : Option Value) (x : Nat) (st : List Value) (h : xH) : xf 119 30 [some (.ref x), l1, l2] st h = xf 119 31 [some (.ref x), l1, l2] (.ref x :: st) h := xo_aload (k := 0) (by decide +kernel) rfl
set_option maxRecDepth 20000 in
theorem u_X8_sweep_31 (l0 l1 : Option Value) (x : Int32) (st : List Value) (h : xH) : xf 119 31 [l0, l1, some (.int x)] st h = xf 119 32 [l0, l1, some (.int x)] (.int x :: st) h := xo_iload (k := 2) (by decide +kernel) rfl
set_option maxRecDepth 20000 in
theorem u_X8_sweep_32 (L : xL) (v0 : Int32) (b : Nat) (st : List Value) (h : xH) (hb : (xob h b).1 = 8) (hl : st.length ≤ 4) : xf 119 32 L (.int v0 :: .ref b :: st) h = xgo 119 32 35 L st (xev 110 [.ref b, .int v0] h) := xo_callV (as := [.int v0]) (by decide +kernel) rfl ⟨(by decide +kernel : xna 110 = 1), Nat.le_of_ble_eq_true rfl, rfl, by decide⟩ hb hl
set_option maxRecDepth 20000 in
theorem u_X8_sweep_35 (L : xL) (a b : Int32) (st : List Value) (h : xH) : xf 119 35 L (.int b :: .int a :: st) h = xf 119 36 L (.int (a + b) :: st) h := xo_iadd (by decide +kernel)
set_option maxRecDepth 20000 in
theorem u_X8_sweep_36 (L : xL) (a : Int32) (st : List Value) (h : xH) : xf 119 36 L (.int a :: st) h = if a = 0 then xf 119 39 L st h else xf 119 54 L st h := xo_if_ne (t := 54) (by decide +kernel) rfl
set_option maxRecDepth 20000 in
theorem u_X8_sweep_39 (l1 l2 : Option Value) (x : Nat) (st : List Value) (h : xH) : xf 119 39 [some (.ref x), l1, l2] st h = xf 119 40 [some (.ref x), l1, l2] (.ref x :: st) h := xo_aload (k := 0) (by decide +kernel) rfl
set_option maxRecDepth 20000 in
theorem u_X8_sweep_40 (L : xL) (a : Nat) (st : List Value) (h : xH) (hc : (xob h a).1 = 8) : xf 119 40 L (.ref a :: st) h = xf 119 43 L ((xob h a).2.getD 1 .null :: st) h := xo_getf (r := 513) (by decide +kernel) (by decide) hc
set_option maxRecDepth 20000 in
theorem u_X8_sweep_43 (L : xL) (st : List Value) (h : xH) : xf 119 43 L st h = xf 119 45 L (.int 65 :: st) h := xo_iconst (k := 65) (by decide +kernel) (by decide)
set_option maxRecDepth 20000 in
theorem u_X8_sweep_45 (l0 l1 : Option Value) (x : Int32) (st : List Value) (h : xH) : xf 119 45 [l0, l1, some (.int x)] st h = xf 119 46 [l0, l1, some (.int x)] (.int x :: st) h := xo_iload (k := 2) (by decide +kernel) rfl
set_option maxRecDepth 20000 in
theorem u_X8_sweep_46 (L : xL) (a b : Int32) (st : List Value) (h : xH) : xf 119 46 L (.int b :: .int a :: st) h = xf 119 47 L (.int (a + b) :: st) h := xo_iadd (by decide +kernel)
set_option maxRecDepth 20000 in
theorem u_X8_sweep_47 (L : xL) (st : List Value) (h : xH) : xf 119 47 L st h = xf 119 49 L (.int 8 :: st) h := xo_iconst (k := 8) (by decide +kernel) (by decide)
set_option maxRecDepth 20000 in
theorem u_X8_sweep_49 (L : xL) (a b : Int32) (st : List Value) (h : xH) : xf 119 49 L (.int b :: .int a :: st) h = xf 119 50 L (.int (a - b) :: st) h := xo_isub (by decide +kernel)
set_option maxRecDepth 20000 in
theorem u_X8_sweep_50 (L : xL) (st : List Value) (h : xH) : xf 119 50 L st h = xf 119 51 L (.int 0 :: st) h := xo_iconst (k := 0) (by decide +kernel) (by decide)
set_option maxRecDepth 20000 in
theorem u_X8_sweep_51 (L : xL) (v i : Int32) (a : Nat) (st : List Value) (h : xH) (hx : xix i (xai h a).1) : xf 119 51 L (.int v :: .int i :: .ref a :: st) h = xf 119 52 L st (xsi h a i.toNatClampNeg v) := xo_iastore (by decide +kernel) hx
set_option maxRecDepth 20000 in
theorem u_X8_sweep_52 (L : xL) (st : List Value) (h : xH) : xf 119 52 L st h = xf 119 53 L (.int 1 :: st) h := xo_iconst (k := 1) (by decide +kernel) (by decide)
set_option maxRecDepth 20000 in
theorem u_X8_sweep_53 (l0 l1 l2 : Option Value) (x : Int32) (st : List Value) (h : xH) : xf 119 53 [l0, l1, l2] (.int x :: st) h = xf 119 54 [xcat l0, some (.int x), l2] st h := xo_istore (k := 1) (by decide +kernel) (Nat.le_of_ble_eq_true rfl) rfl
set_option maxRecDepth 20000 in
theorem u_X8_sweep_54 (l0 l1 : Option Value) (x : Int32) (st : List Value) (h : xH) : xf 119 54 [l0, l1, some (.int x)] st h = xf 119 57 [l0, xcat l1, some (.int (x + 1))] st h := xo_iinc (k := 2) (c := 1) (by decide +kernel) rfl (by decide) rfl
set_option maxRecDepth 20000 in
theorem u_X8_sweep_57 (L : xL) (st : List Value) (h : xH) : xf 119 57 L st h = xf 119 11 L st h := xo_goto (n := 60) (t := 11) (by decide +kernel) rfl
set_option maxRecDepth 20000 in
theorem u_X8_sweep_60 (L : xL) (st : List Value) (h : xH) : xf 119 60 L st h = xf 119 2 L st h := xo_goto (n := 63) (t := 2) (by decide +kernel) rfl
set_option maxRecDepth 20000 in
theorem u_X8_sweep_63 (L : xL) (h : xH) : xf 119 63 L [] h = some (.inl none, h) := xo_return (n := 64) (by decide +kernel) rfl
set_option maxRecDepth 20000 in
theorem e_X8_sweep (v0 : Nat) (h : xH) : xev 119 [.ref v0] h = xf 119 0 [some (.ref v0), none, none] [] h := rfl
set_option maxRecDepth 20000 in
theorem u_X8_cut_0 (l1 : Option Value) (x : Nat) (st : List Value) (h : xH) : xf 120 0 [some (.ref x), l1] st h = xf 120 1 [some (.ref x), l1] (.ref x :: st) h := xo_aload (k := 0) (by decide +kernel) rfl
set_option maxRecDepth 20000 in
theorem u_X8_cut_1 (l0 : Option Value) (x : Int32) (st : List Value) (h : xH) : xf 120 1 [l0, some (.int x)] st h = xf 120 2 [l0, some (.int x)] (.int x :: st) h := xo_iload (k := 1) (by decide +kernel) rfl
set_option maxRecDepth 20000 in
theorem u_X8_cut_2 (L : xL) (st : List Value) (h : xH) : xf 120 2 L st h = xf 120 3 L (.int 0 :: st) h := xo_iconst (k := 0) (by decide +kernel) (by decide)
set_option maxRecDepth 20000 in
theorem u_X8_cut_3 (l1 : Option Value) (x : Nat) (st : List Value) (h : xH) : xf 120 3 [some (.ref x), l1] st h = xf 120 4 [some (.ref x), l1] (.ref x :: st) h := xo_aload (k := 0) (by decide +kernel) rfl
set_option maxRecDepth 20000 in
theorem u_X8_cut_4 (L : xL) (a : Nat) (st : List Value) (h : xH) (hc : (xob h a).1 = 8) : xf 120 4 L (.ref a :: st) h = xf 120 7 L ((xob h a).2.getD 1 .null :: st) h := xo_getf (r := 513) (by decide +kernel) (by decide) hc
set_option maxRecDepth 20000 in
theorem u_X8_cut_7 (L : xL) (st : List Value) (h : xH) : xf 120 7 L st h = xf 120 8 L (.int 0 :: st) h := xo_iconst (k := 0) (by decide +kernel) (by decide)
set_option maxRecDepth 20000 in
theorem u_X8_cut_8 (L : xL) (i : Int32) (a : Nat) (st : List Value) (h : xH) (hx : xix i (xai h a).1) : xf 120 8 L (.int i :: .ref a :: st) h = xf 120 9 L (.int ((xai h a).2 i.toNatClampNeg) :: st) h := xo_iaload (by decide +kernel) hx
set_option maxRecDepth 20000 in
theorem u_X8_cut_9 (L : xL) (v0 : Int32) (v1 : Int32) (v2 : Int32) (st : List Value) (h : xH) (hl : st.length ≤ 4) : xf 120 9 L (.int v2 :: .int v1 :: .int v0 :: st) h = xgo 120 9 12 L st (xev 99 [.int v0, .int v1, .int v2] h) := xo_callS (as := [.int v0, .int v1, .int v2]) (by decide +kernel) rfl ⟨(by decide +kernel : xna 99 = 3), Nat.le_of_ble_eq_true rfl, by decide⟩ hl
set_option maxRecDepth 20000 in
theorem u_X8_cut_12 (L : xL) (a : Int32) (st : List Value) (h : xH) : xf 120 12 L (.int a :: st) h = if a = 0 then xf 120 19 L st h else xf 120 15 L st h := xo_if_eq (t := 19) (by decide +kernel) rfl
set_option maxRecDepth 20000 in
theorem u_X8_cut_15 (L : xL) (st : List Value) (h : xH) : xf 120 15 L st h = xf 120 16 L (.int 0 :: st) h := xo_iconst (k := 0) (by decide +kernel) (by decide)
set_option maxRecDepth 20000 in
theorem u_X8_cut_16 (L : xL) (st : List Value) (h : xH) : xf 120 16 L st h = xf 120 20 L st h := xo_goto (n := 19) (t := 20) (by decide +kernel) rfl
set_option maxRecDepth 20000 in
theorem u_X8_cut_19 (L : xL) (st : List Value) (h : xH) : xf 120 19 L st h = xf 120 20 L (.int 1 :: st) h := xo_iconst (k := 1) (by decide +kernel) (by decide)
set_option maxRecDepth 20000 in
theorem u_X8_cut_20 (L : xL) (v0 : Int32) (b : Nat) (st : List Value) (h : xH) (hb : (xob h b).1 = 8) (hl : st.length ≤ 4) : xf 120 20 L (.int v0 :: .ref b :: st) h = xgo 120 20 23 L st (xev 100 [.ref b, .int v0] h) := xo_callV (as := [.int v0]) (by decide +kernel) rfl ⟨(by decide +kernel : xna 100 = 1), Nat.le_of_ble_eq_true rfl, rfl, by decide⟩ hb hl
set_option maxRecDepth 20000 in
theorem u_X8_cut_23 (L : xL) (a : Int32) (st : List Value) (h : xH) : xf 120 23 L (.int a :: st) h = if a = 0 then xf 120 26 L st h else xf 120 28 L st h := xo_if_ne (t := 28) (by decide +kernel) rfl
set_option maxRecDepth 20000 in
theorem u_X8_cut_26 (L : xL) (st : List Value) (h : xH) : xf 120 26 L st h = xf 120 27 L (.int 0 :: st) h := xo_iconst (k := 0) (by decide +kernel) (by decide)
set_option maxRecDepth 20000 in
theorem u_X8_cut_27 (L : xL) (x : Int32) (h : xH) : xf 120 27 L [.int x] h = some (.inl (some (.int x)), h) := xo_ireturn (n := 28) (by decide +kernel) rfl
set_option maxRecDepth 20000 in
theorem u_X8_cut_28 (l1 : Option Value) (x : Nat) (st : List Value) (h : xH) : xf 120 28 [some (.ref x), l1] st h = xf 120 29 [some (.ref x), l1] (.ref x :: st) h := xo_aload (k := 0) (by decide +kernel) rfl
set_option maxRecDepth 20000 in
theorem u_X8_cut_29 (L : xL) (b : Nat) (st : List Value) (h : xH) (hb : (xob h b).1 = 8) (hl : st.length ≤ 4) : xf 120 29 L (.ref b :: st) h = xgo 120 29 32 L st (xev 101 [.ref b] h) := xo_callV (as := []) (by decide +kernel) rfl ⟨(by decide +kernel : xna 101 = 0), Nat.le_of_ble_eq_true rfl, rfl, by decide⟩ hb hl
set_option maxRecDepth 20000 in
theorem u_X8_cut_32 (l1 : Option Value) (x : Nat) (st : List Value) (h : xH) : xf 120 32 [some (.ref x), l1] st h = xf 120 33 [some (.ref x), l1] (.ref x :: st) h := xo_aload (k := 0) (by decide +kernel) rfl
set_option maxRecDepth 20000 in
theorem u_X8_cut_33 (L : xL) (a : Nat) (st : List Value) (h : xH) (hc : (xob h a).1 = 8) : xf 120 33 L (.ref a :: st) h = xf 120 36 L ((xob h a).2.getD 1 .null :: st) h := xo_getf (r := 513) (by decide +kernel) (by decide) hc
set_option maxRecDepth 20000 in
theorem u_X8_cut_36 (L : xL) (st : List Value) (h : xH) : xf 120 36 L st h = xf 120 37 L (.int 0 :: st) h := xo_iconst (k := 0) (by decide +kernel) (by decide)
set_option maxRecDepth 20000 in
theorem u_X8_cut_37 (l0 : Option Value) (x : Int32) (st : List Value) (h : xH) : xf 120 37 [l0, some (.int x)] st h = xf 120 38 [l0, some (.int x)] (.int x :: st) h := xo_iload (k := 1) (by decide +kernel) rfl
set_option maxRecDepth 20000 in
theorem u_X8_cut_38 (L : xL) (v i : Int32) (a : Nat) (st : List Value) (h : xH) (hx : xix i (xai h a).1) : xf 120 38 L (.int v :: .int i :: .ref a :: st) h = xf 120 39 L st (xsi h a i.toNatClampNeg v) := xo_iastore (by decide +kernel) hx
set_option maxRecDepth 20000 in
theorem u_X8_cut_39 (l1 : Option Value) (x : Nat) (st : List Value) (h : xH) : xf 120 39 [some (.ref x), l1] st h = xf 120 40 [some (.ref x), l1] (.ref x :: st) h := xo_aload (k := 0) (by decide +kernel) rfl
set_option maxRecDepth 20000 in
theorem u_X8_cut_40 (L : xL) (b : Nat) (st : List Value) (h : xH) (hb : (xob h b).1 = 8) (hl : st.length ≤ 4) : xf 120 40 L (.ref b :: st) h = xgo 120 40 43 L st (xev 119 [.ref b] h) := xo_callV (as := []) (by decide +kernel) rfl ⟨(by decide +kernel : xna 119 = 0), Nat.le_of_ble_eq_true rfl, rfl, by decide⟩ hb hl
set_option maxRecDepth 20000 in
theorem u_X8_cut_43 (l1 : Option Value) (x : Nat) (st : List Value) (h : xH) : xf 120 43 [some (.ref x), l1] st h = xf 120 44 [some (.ref x), l1] (.ref x :: st) h := xo_aload (k := 0) (by decide +kernel) rfl
set_option maxRecDepth 20000 in
theorem u_X8_cut_44 (L : xL) (b : Nat) (st : List Value) (h : xH) (hb : (xob h b).1 = 8) (hl : st.length ≤ 4) : xf 120 44 L (.ref b :: st) h = xgo 120 44 47 L st (xev 111 [.ref b] h) := xo_callV (as := []) (by decide +kernel) rfl ⟨(by decide +kernel : xna 111 = 0), Nat.le_of_ble_eq_true rfl, rfl, by decide⟩ hb hl
set_option maxRecDepth 20000 in
theorem u_X8_cut_47 (L : xL) (x : Int32) (h : xH) : xf 120 47 L [.int x] h = some (.inl (some (.int x)), h) := xo_ireturn (n := 48) (by decide +kernel) rfl
set_option maxRecDepth 20000 in
theorem e_X8_cut (v0 : Nat) (v1 : Int32) (h : xH) : xev 120 [.ref v0, .int v1] h = xf 120 0 [some (.ref v0), some (.int v1)] [] h := rfl
set_option maxRecDepth 20000 in
theorem u_X8_openAt_0 (l1 l2 l3 : Option Value) (x : Nat) (st : List Value) (h : xH) : xf 121 0 [some (.ref x), l1, l2, l3] st h = xf 121 1 [some (.ref x), l1, l2, l3] (.ref x :: st) h := xo_aload (k := 0) (by decide +kernel) rfl
set_option maxRecDepth 20000 in
theorem u_X8_openAt_1 (L : xL) (a : Nat) (st : List Value) (h : xH) (hc : (xob h a).1 = 8) : xf 121 1 L (.ref a :: st) h = xf 121 4 L ((xob h a).2.getD 1 .null :: st) h := xo_getf (r := 513) (by decide +kernel) (by decide) hc
set_option maxRecDepth 20000 in
theorem u_X8_openAt_4 (L : xL) (st : List Value) (h : xH) : xf 121 4 L st h = xf 121 5 L (.int 1 :: st) h := xo_iconst (k := 1) (by decide +kernel) (by decide)
set_option maxRecDepth 20000 in
theorem u_X8_openAt_5 (l0 l2 l3 : Option Value) (x : Int32) (st : List Value) (h : xH) : xf 121 5 [l0, some (.int x), l2, l3] st h = xf 121 6 [l0, some (.int x), l2, l3] (.int x :: st) h := xo_iload (k := 1) (by decide +kernel) rfl
set_option maxRecDepth 20000 in
theorem u_X8_openAt_6 (L : xL) (a b : Int32) (st : List Value) (h : xH) : xf 121 6 L (.int b :: .int a :: st) h = xf 121 7 L (.int (a + b) :: st) h := xo_iadd (by decide +kernel)
set_option maxRecDepth 20000 in
theorem u_X8_openAt_7 (L : xL) (i : Int32) (a : Nat) (st : List Value) (h : xH) (hx : xix i (xai h a).1) : xf 121 7 L (.int i :: .ref a :: st) h = xf 121 8 L (.int ((xai h a).2 i.toNatClampNeg) :: st) h := xo_iaload (by decide +kernel) hx
set_option maxRecDepth 20000 in
theorem u_X8_openAt_8 (l0 l1 l2 l3 : Option Value) (x : Int32) (st : List Value) (h : xH) : xf 121 8 [l0, l1, l2, l3] (.int x :: st) h = xf 121 9 [l0, xcat l1, some (.int x), l3] st h := xo_istore (k := 2) (by decide +kernel) (Nat.le_of_ble_eq_true rfl) rfl
set_option maxRecDepth 20000 in
theorem u_X8_openAt_9 (l1 l2 l3 : Option Value) (x : Nat) (st : List Value) (h : xH) : xf 121 9 [some (.ref x), l1, l2, l3] st h = xf 121 10 [some (.ref x), l1, l2, l3] (.ref x :: st) h := xo_aload (k := 0) (by decide +kernel) rfl
set_option maxRecDepth 20000 in
theorem u_X8_openAt_10 (L : xL) (a : Nat) (st : List Value) (h : xH) (hc : (xob h a).1 = 8) : xf 121 10 L (.ref a :: st) h = xf 121 13 L ((xob h a).2.getD 1 .null :: st) h := xo_getf (r := 513) (by decide +kernel) (by decide) hc
set_option maxRecDepth 20000 in
theorem u_X8_openAt_13 (L : xL) (st : List Value) (h : xH) : xf 121 13 L st h = xf 121 14 L (.int 0 :: st) h := xo_iconst (k := 0) (by decide +kernel) (by decide)
set_option maxRecDepth 20000 in
theorem u_X8_openAt_14 (L : xL) (i : Int32) (a : Nat) (st : List Value) (h : xH) (hx : xix i (xai h a).1) : xf 121 14 L (.int i :: .ref a :: st) h = xf 121 15 L (.int ((xai h a).2 i.toNatClampNeg) :: st) h := xo_iaload (by decide +kernel) hx
set_option maxRecDepth 20000 in
theorem u_X8_openAt_15 (l0 l1 l2 l3 : Option Value) (x : Int32) (st : List Value) (h : xH) : xf 121 15 [l0, l1, l2, l3] (.int x :: st) h = xf 121 16 [l0, l1, xcat l2, some (.int x)] st h := xo_istore (k := 3) (by decide +kernel) (Nat.le_of_ble_eq_true rfl) rfl
set_option maxRecDepth 20000 in
theorem u_X8_openAt_16 (l0 l1 l2 : Option Value) (x : Int32) (st : List Value) (h : xH) : xf 121 16 [l0, l1, l2, some (.int x)] st h = xf 121 17 [l0, l1, l2, some (.int x)] (.int x :: st) h := xo_iload (k := 3) (by decide +kernel) rfl
set_option maxRecDepth 20000 in
theorem u_X8_openAt_17 (l0 l2 l3 : Option Value) (x : Int32) (st : List Value) (h : xH) : xf 121 17 [l0, some (.int x), l2, l3] st h = xf 121 18 [l0, some (.int x), l2, l3] (.int x :: st) h := xo_iload (k := 1) (by decide +kernel) rfl
set_option maxRecDepth 20000 in
theorem u_X8_openAt_18 (L : xL) (st : List Value) (h : xH) : xf 121 18 L st h = xf 121 19 L (.int 1 :: st) h := xo_iconst (k := 1) (by decide +kernel) (by decide)
set_option maxRecDepth 20000 in
theorem u_X8_openAt_19 (L : xL) (a b : Int32) (st : List Value) (h : xH) : xf 121 19 L (.int b :: .int a :: st) h = xf 121 20 L (.int (a + b) :: st) h := xo_iadd (by decide +kernel)
set_option maxRecDepth 20000 in
theorem u_X8_openAt_20 (L : xL) (a b : Int32) (st : List Value) (h : xH) : xf 121 20 L (.int b :: .int a :: st) h = if b < a then xf 121 23 L st h else xf 121 47 L st h := xo_icmp_le (t := 47) (by decide +kernel) rfl
set_option maxRecDepth 20000 in
theorem u_X8_openAt_23 (l1 l2 l3 : Option Value) (x : Nat) (st : List Value) (h : xH) : xf 121 23 [some (.ref x), l1, l2, l3] st h = xf 121 24 [some (.ref x), l1, l2, l3] (.ref x :: st) h := xo_aload (k := 0) (by decide +kernel) rfl
set_option maxRecDepth 20000 in
theorem u_X8_openAt_24 (L : xL) (a : Nat) (st : List Value) (h : xH) (hc : (xob h a).1 = 8) : xf 121 24 L (.ref a :: st) h = xf 121 27 L ((xob h a).2.getD 1 .null :: st) h := xo_getf (r := 513) (by decide +kernel) (by decide) hc
set_option maxRecDepth 20000 in
theorem u_X8_openAt_27 (L : xL) (st : List Value) (h : xH) : xf 121 27 L st h = xf 121 28 L (.int 1 :: st) h := xo_iconst (k := 1) (by decide +kernel) (by decide)
set_option maxRecDepth 20000 in
theorem u_X8_openAt_28 (l0 l1 l2 : Option Value) (x : Int32) (st : List Value) (h : xH) : xf 121 28 [l0, l1, l2, some (.int x)] st h = xf 121 29 [l0, l1, l2, some (.int x)] (.int x :: st) h := xo_iload (k := 3) (by decide +kernel) rfl
set_option maxRecDepth 20000 in
theorem u_X8_openAt_29 (L : xL) (a b : Int32) (st : List Value) (h : xH) : xf 121 29 L (.int b :: .int a :: st) h = xf 121 30 L (.int (a + b) :: st) h := xo_iadd (by decide +kernel)
set_option maxRecDepth 20000 in
theorem u_X8_openAt_30 (l1 l2 l3 : Option Value) (x : Nat) (st : List Value) (h : xH) : xf 121 30 [some (.ref x), l1, l2, l3] st h = xf 121 31 [some (.ref x), l1, l2, l3] (.ref x :: st) h := xo_aload (k := 0) (by decide +kernel) rfl
set_option maxRecDepth 20000 in
theorem u_X8_openAt_31 (L : xL) (a : Nat) (st : List Value) (h : xH) (hc : (xob h a).1 = 8) : xf 121 31 L (.ref a :: st) h = xf 121 34 L ((xob h a).2.getD 1 .null :: st) h := xo_getf (r := 513) (by decide +kernel) (by decide) hc
set_option maxRecDepth 20000 in
theorem u_X8_openAt_34 (L : xL) (st : List Value) (h : xH) : xf 121 34 L st h = xf 121 35 L (.int 1 :: st) h := xo_iconst (k := 1) (by decide +kernel) (by decide)
set_option maxRecDepth 20000 in
theorem u_X8_openAt_35 (l0 l1 l2 : Option Value) (x : Int32) (st : List Value) (h : xH) : xf 121 35 [l0, l1, l2, some (.int x)] st h = xf 121 36 [l0, l1, l2, some (.int x)] (.int x :: st) h := xo_iload (k := 3) (by decide +kernel) rfl
set_option maxRecDepth 20000 in
theorem u_X8_openAt_36 (L : xL) (a b : Int32) (st : List Value) (h : xH) : xf 121 36 L (.int b :: .int a :: st) h = xf 121 37 L (.int (a + b) :: st) h := xo_iadd (by decide +kernel)
set_option maxRecDepth 20000 in
theorem u_X8_openAt_37 (L : xL) (st : List Value) (h : xH) : xf 121 37 L st h = xf 121 38 L (.int 1 :: st) h := xo_iconst (k := 1) (by decide +kernel) (by decide)
set_option maxRecDepth 20000 in
theorem u_X8_openAt_38 (L : xL) (a b : Int32) (st : List Value) (h : xH) : xf 121 38 L (.int b :: .int a :: st) h = xf 121 39 L (.int (a - b) :: st) h := xo_isub (by decide +kernel)
set_option maxRecDepth 20000 in
theorem u_X8_openAt_39 (L : xL) (i : Int32) (a : Nat) (st : List Value) (h : xH) (hx : xix i (xai h a).1) : xf 121 39 L (.int i :: .ref a :: st) h = xf 121 40 L (.int ((xai h a).2 i.toNatClampNeg) :: st) h := xo_iaload (by decide +kernel) hx
set_option maxRecDepth 20000 in
theorem u_X8_openAt_40 (L : xL) (v i : Int32) (a : Nat) (st : List Value) (h : xH) (hx : xix i (xai h a).1) : xf 121 40 L (.int v :: .int i :: .ref a :: st) h = xf 121 41 L st (xsi h a i.toNatClampNeg v) := xo_iastore (by decide +kernel) hx
set_option maxRecDepth 20000 in
theorem u_X8_openAt_41 (l0 l1 l2 : Option Value) (x : Int32) (st : List Value) (h : xH) : xf 121 41 [l0, l1, l2, some (.int x)] st h = xf 121 44 [l0, l1, xcat l2, some (.int (x + (-1)))] st h := xo_iinc (k := 3) (c := (-1)) (by decide +kernel) rfl (by decide) rfl
set_option maxRecDepth 20000 in
theorem u_X8_openAt_44 (L : xL) (st : List Value) (h : xH) : xf 121 44 L st h = xf 121 16 L st h := xo_goto (n := 47) (t := 16) (by decide +kernel) rfl
set_option maxRecDepth 20000 in
theorem u_X8_openAt_47 (l1 l2 l3 : Option Value) (x : Nat) (st : List Value) (h : xH) : xf 121 47 [some (.ref x), l1, l2, l3] st h = xf 121 48 [some (.ref x), l1, l2, l3] (.ref x :: st) h := xo_aload (k := 0) (by decide +kernel) rfl
set_option maxRecDepth 20000 in
theorem u_X8_openAt_48 (L : xL) (a : Nat) (st : List Value) (h : xH) (hc : (xob h a).1 = 8) : xf 121 48 L (.ref a :: st) h = xf 121 51 L ((xob h a).2.getD 1 .null :: st) h := xo_getf (r := 513) (by decide +kernel) (by decide) hc
set_option maxRecDepth 20000 in
theorem u_X8_openAt_51 (L : xL) (st : List Value) (h : xH) : xf 121 51 L st h = xf 121 52 L (.int 1 :: st) h := xo_iconst (k := 1) (by decide +kernel) (by decide)
set_option maxRecDepth 20000 in
theorem u_X8_openAt_52 (l0 l2 l3 : Option Value) (x : Int32) (st : List Value) (h : xH) : xf 121 52 [l0, some (.int x), l2, l3] st h = xf 121 53 [l0, some (.int x), l2, l3] (.int x :: st) h := xo_iload (k := 1) (by decide +kernel) rfl
set_option maxRecDepth 20000 in
theorem u_X8_openAt_53 (L : xL) (a b : Int32) (st : List Value) (h : xH) : xf 121 53 L (.int b :: .int a :: st) h = xf 121 54 L (.int (a + b) :: st) h := xo_iadd (by decide +kernel)
set_option maxRecDepth 20000 in
theorem u_X8_openAt_54 (l1 l2 l3 : Option Value) (x : Nat) (st : List Value) (h : xH) : xf 121 54 [some (.ref x), l1, l2, l3] st h = xf 121 55 [some (.ref x), l1, l2, l3] (.ref x :: st) h := xo_aload (k := 0) (by decide +kernel) rfl
set_option maxRecDepth 20000 in
theorem u_X8_openAt_55 (l0 l1 l3 : Option Value) (x : Int32) (st : List Value) (h : xH) : xf 121 55 [l0, l1, some (.int x), l3] st h = xf 121 56 [l0, l1, some (.int x), l3] (.int x :: st) h := xo_iload (k := 2) (by decide +kernel) rfl
set_option maxRecDepth 20000 in
theorem u_X8_openAt_56 (L : xL) (v0 : Int32) (b : Nat) (st : List Value) (h : xH) (hb : (xob h b).1 = 8) (hl : st.length ≤ 4) : xf 121 56 L (.int v0 :: .ref b :: st) h = xgo 121 56 59 L st (xev 105 [.ref b, .int v0] h) := xo_callV (as := [.int v0]) (by decide +kernel) rfl ⟨(by decide +kernel : xna 105 = 1), Nat.le_of_ble_eq_true rfl, rfl, by decide⟩ hb hl
set_option maxRecDepth 20000 in
theorem u_X8_openAt_59 (L : xL) (v i : Int32) (a : Nat) (st : List Value) (h : xH) (hx : xix i (xai h a).1) : xf 121 59 L (.int v :: .int i :: .ref a :: st) h = xf 121 60 L st (xsi h a i.toNatClampNeg v) := xo_iastore (by decide +kernel) hx
set_option maxRecDepth 20000 in
theorem u_X8_openAt_60 (l1 l2 l3 : Option Value) (x : Nat) (st : List Value) (h : xH) : xf 121 60 [some (.ref x), l1, l2, l3] st h = xf 121 61 [some (.ref x), l1, l2, l3] (.ref x :: st) h := xo_aload (k := 0) (by decide +kernel) rfl
set_option maxRecDepth 20000 in
theorem u_X8_openAt_61 (L : xL) (a : Nat) (st : List Value) (h : xH) (hc : (xob h a).1 = 8) : xf 121 61 L (.ref a :: st) h = xf 121 64 L ((xob h a).2.getD 1 .null :: st) h := xo_getf (r := 513) (by decide +kernel) (by decide) hc
set_option maxRecDepth 20000 in
theorem u_X8_openAt_64 (L : xL) (st : List Value) (h : xH) : xf 121 64 L st h = xf 121 65 L (.int 1 :: st) h := xo_iconst (k := 1) (by decide +kernel) (by decide)
set_option maxRecDepth 20000 in
theorem u_X8_openAt_65 (l0 l2 l3 : Option Value) (x : Int32) (st : List Value) (h : xH) : xf 121 65 [l0, some (.int x), l2, l3] st h = xf 121 66 [l0, some (.int x), l2, l3] (.int x :: st) h := xo_iload (k := 1) (by decide +kernel) rfl
set_option maxRecDepth 20000 in
theorem u_X8_openAt_66 (L : xL) (a b : Int32) (st : List Value) (h : xH) : xf 121 66 L (.int b :: .int a :: st) h = xf 121 67 L (.int (a + b) :: st) h := xo_iadd (by decide +kernel)
set_option maxRecDepth 20000 in
theorem u_X8_openAt_67 (L : xL) (st : List Value) (h : xH) : xf 121 67 L st h = xf 121 68 L (.int 1 :: st) h := xo_iconst (k := 1) (by decide +kernel) (by decide)
set_option maxRecDepth 20000 in
theorem u_X8_openAt_68 (L : xL) (a b : Int32) (st : List Value) (h : xH) : xf 121 68 L (.int b :: .int a :: st) h = xf 121 69 L (.int (a + b) :: st) h := xo_iadd (by decide +kernel)
set_option maxRecDepth 20000 in
theorem u_X8_openAt_69 (l1 l2 l3 : Option Value) (x : Nat) (st : List Value) (h : xH) : xf 121 69 [some (.ref x), l1, l2, l3] st h = xf 121 70 [some (.ref x), l1, l2, l3] (.ref x :: st) h := xo_aload (k := 0) (by decide +kernel) rfl
set_option maxRecDepth 20000 in
theorem u_X8_openAt_70 (l0 l1 l3 : Option Value) (x : Int32) (st : List Value) (h : xH) : xf 121 70 [l0, l1, some (.int x), l3] st h = xf 121 71 [l0, l1, some (.int x), l3] (.int x :: st) h := xo_iload (k := 2) (by decide +kernel) rfl
set_option maxRecDepth 20000 in
theorem u_X8_openAt_71 (L : xL) (v0 : Int32) (b : Nat) (st : List Value) (h : xH) (hb : (xob h b).1 = 8) (hl : st.length ≤ 4) : xf 121 71 L (.int v0 :: .ref b :: st) h = xgo 121 71 74 L st (xev 106 [.ref b, .int v0] h) := xo_callV (as := [.int v0]) (by decide +kernel) rfl ⟨(by decide +kernel : xna 106 = 1), Nat.le_of_ble_eq_true rfl, rfl, by decide⟩ hb hl
set_option maxRecDepth 20000 in
theorem u_X8_openAt_74 (L : xL) (v i : Int32) (a : Nat) (st : List Value) (h : xH) (hx : xix i (xai h a).1) : xf 121 74 L (.int v :: .int i :: .ref a :: st) h = xf 121 75 L st (xsi h a i.toNatClampNeg v) := xo_iastore (by decide +kernel) hx
set_option maxRecDepth 20000 in
theorem u_X8_openAt_75 (l1 l2 l3 : Option Value) (x : Nat) (st : List Value) (h : xH) : xf 121 75 [some (.ref x), l1, l2, l3] st h = xf 121 76 [some (.ref x), l1, l2, l3] (.ref x :: st) h := xo_aload (k := 0) (by decide +kernel) rfl
set_option maxRecDepth 20000 in
theorem u_X8_openAt_76 (L : xL) (a : Nat) (st : List Value) (h : xH) (hc : (xob h a).1 = 8) : xf 121 76 L (.ref a :: st) h = xf 121 79 L ((xob h a).2.getD 1 .null :: st) h := xo_getf (r := 513) (by decide +kernel) (by decide) hc
set_option maxRecDepth 20000 in
theorem u_X8_openAt_79 (L : xL) (st : List Value) (h : xH) : xf 121 79 L st h = xf 121 80 L (.int 0 :: st) h := xo_iconst (k := 0) (by decide +kernel) (by decide)
set_option maxRecDepth 20000 in
theorem u_X8_openAt_80 (L : xL) (a : Int32) (b : Nat) (st : List Value) (h : xH) : xf 121 80 L (.int a :: .ref b :: st) h = xf 121 81 L (.int a :: .ref b :: .int a :: .ref b :: st) h := xo_dup2 (by decide +kernel)
set_option maxRecDepth 20000 in
theorem u_X8_openAt_81 (L : xL) (i : Int32) (a : Nat) (st : List Value) (h : xH) (hx : xix i (xai h a).1) : xf 121 81 L (.int i :: .ref a :: st) h = xf 121 82 L (.int ((xai h a).2 i.toNatClampNeg) :: st) h := xo_iaload (by decide +kernel) hx
set_option maxRecDepth 20000 in
theorem u_X8_openAt_82 (L : xL) (st : List Value) (h : xH) : xf 121 82 L st h = xf 121 83 L (.int 1 :: st) h := xo_iconst (k := 1) (by decide +kernel) (by decide)
set_option maxRecDepth 20000 in
theorem u_X8_openAt_83 (L : xL) (a b : Int32) (st : List Value) (h : xH) : xf 121 83 L (.int b :: .int a :: st) h = xf 121 84 L (.int (a + b) :: st) h := xo_iadd (by decide +kernel)
set_option maxRecDepth 20000 in
theorem u_X8_openAt_84 (L : xL) (v i : Int32) (a : Nat) (st : List Value) (h : xH) (hx : xix i (xai h a).1) : xf 121 84 L (.int v :: .int i :: .ref a :: st) h = xf 121 85 L st (xsi h a i.toNatClampNeg v) := xo_iastore (by decide +kernel) hx
set_option maxRecDepth 20000 in
theorem u_X8_openAt_85 (L : xL) (h : xH) : xf 121 85 L [] h = some (.inl none, h) := xo_return (n := 86) (by decide +kernel) rfl
set_option maxRecDepth 20000 in
theorem e_X8_openAt (v0 : Nat) (v1 : Int32) (h : xH) : xev 121 [.ref v0, .int v1] h = xf 121 0 [some (.ref v0), some (.int v1), none, none] [] h := rfl
set_option maxRecDepth 20000 in
theorem u_X8_open_0 (l0 l2 l3 : Option Value) (x : Int32) (st : List Value) (h : xH) : xf 122 0 [l0, some (.int x), l2, l3] st h = xf 122 1 [l0, some (.int x), l2, l3] (.int x :: st) h := xo_iload (k := 1) (by decide +kernel) rfl
set_option maxRecDepth 20000 in
theorem u_X8_open_1 (L : xL) (st : List Value) (h : xH) : xf 122 1 L st h = xf 122 2 L (.int 0 :: st) h := xo_iconst (k := 0) (by decide +kernel) (by decide)
set_option maxRecDepth 20000 in
theorem u_X8_open_2 (l1 l2 l3 : Option Value) (x : Nat) (st : List Value) (h : xH) : xf 122 2 [some (.ref x), l1, l2, l3] st h = xf 122 3 [some (.ref x), l1, l2, l3] (.ref x :: st) h := xo_aload (k := 0) (by decide +kernel) rfl
set_option maxRecDepth 20000 in
theorem u_X8_open_3 (L : xL) (a : Nat) (st : List Value) (h : xH) (hc : (xob h a).1 = 8) : xf 122 3 L (.ref a :: st) h = xf 122 6 L ((xob h a).2.getD 1 .null :: st) h := xo_getf (r := 513) (by decide +kernel) (by decide) hc
set_option maxRecDepth 20000 in
theorem u_X8_open_6 (L : xL) (st : List Value) (h : xH) : xf 122 6 L st h = xf 122 7 L (.int 0 :: st) h := xo_iconst (k := 0) (by decide +kernel) (by decide)
set_option maxRecDepth 20000 in
theorem u_X8_open_7 (L : xL) (i : Int32) (a : Nat) (st : List Value) (h : xH) (hx : xix i (xai h a).1) : xf 122 7 L (.int i :: .ref a :: st) h = xf 122 8 L (.int ((xai h a).2 i.toNatClampNeg) :: st) h := xo_iaload (by decide +kernel) hx
set_option maxRecDepth 20000 in
theorem u_X8_open_8 (L : xL) (st : List Value) (h : xH) : xf 122 8 L st h = xf 122 9 L (.int 1 :: st) h := xo_iconst (k := 1) (by decide +kernel) (by decide)
set_option maxRecDepth 20000 in
theorem u_X8_open_9 (L : xL) (a b : Int32) (st : List Value) (h : xH) : xf 122 9 L (.int b :: .int a :: st) h = xf 122 10 L (.int (a - b) :: st) h := xo_isub (by decide +kernel)
set_option maxRecDepth 20000 in
theorem u_X8_open_10 (L : xL) (v0 : Int32) (v1 : Int32) (v2 : Int32) (st : List Value) (h : xH) (hl : st.length ≤ 4) : xf 122 10 L (.int v2 :: .int v1 :: .int v0 :: st) h = xgo 122 10 13 L st (xev 99 [.int v0, .int v1, .int v2] h) := xo_callS (as := [.int v0, .int v1, .int v2]) (by decide +kernel) rfl ⟨(by decide +kernel : xna 99 = 3), Nat.le_of_ble_eq_true rfl, by decide⟩ hl
set_option maxRecDepth 20000 in
theorem u_X8_open_13 (l0 l1 l2 l3 : Option Value) (x : Int32) (st : List Value) (h : xH) : xf 122 13 [l0, l1, l2, l3] (.int x :: st) h = xf 122 14 [l0, xcat l1, some (.int x), l3] st h := xo_istore (k := 2) (by decide +kernel) (Nat.le_of_ble_eq_true rfl) rfl
set_option maxRecDepth 20000 in
theorem u_X8_open_14 (l1 l2 l3 : Option Value) (x : Nat) (st : List Value) (h : xH) : xf 122 14 [some (.ref x), l1, l2, l3] st h = xf 122 15 [some (.ref x), l1, l2, l3] (.ref x :: st) h := xo_aload (k := 0) (by decide +kernel) rfl
set_option maxRecDepth 20000 in
theorem u_X8_open_15 (l0 l1 l3 : Option Value) (x : Int32) (st : List Value) (h : xH) : xf 122 15 [l0, l1, some (.int x), l3] st h = xf 122 16 [l0, l1, some (.int x), l3] (.int x :: st) h := xo_iload (k := 2) (by decide +kernel) rfl
set_option maxRecDepth 20000 in
theorem u_X8_open_16 (L : xL) (a : Int32) (st : List Value) (h : xH) : xf 122 16 L (.int a :: st) h = if a = 0 then xf 122 19 L st h else xf 122 23 L st h := xo_if_ne (t := 23) (by decide +kernel) rfl
set_option maxRecDepth 20000 in
theorem u_X8_open_19 (L : xL) (st : List Value) (h : xH) : xf 122 19 L st h = xf 122 20 L (.int 1 :: st) h := xo_iconst (k := 1) (by decide +kernel) (by decide)
set_option maxRecDepth 20000 in
theorem u_X8_open_20 (L : xL) (st : List Value) (h : xH) : xf 122 20 L st h = xf 122 52 L st h := xo_goto (n := 23) (t := 52) (by decide +kernel) rfl
set_option maxRecDepth 20000 in
theorem u_X8_open_23 (l1 l2 l3 : Option Value) (x : Nat) (st : List Value) (h : xH) : xf 122 23 [some (.ref x), l1, l2, l3] st h = xf 122 24 [some (.ref x), l1, l2, l3] (.ref x :: st) h := xo_aload (k := 0) (by decide +kernel) rfl
set_option maxRecDepth 20000 in
theorem u_X8_open_24 (L : xL) (a : Nat) (st : List Value) (h : xH) (hc : (xob h a).1 = 8) : xf 122 24 L (.ref a :: st) h = xf 122 27 L ((xob h a).2.getD 1 .null :: st) h := xo_getf (r := 513) (by decide +kernel) (by decide) hc
set_option maxRecDepth 20000 in
theorem u_X8_open_27 (L : xL) (st : List Value) (h : xH) : xf 122 27 L st h = xf 122 28 L (.int 1 :: st) h := xo_iconst (k := 1) (by decide +kernel) (by decide)
set_option maxRecDepth 20000 in
theorem u_X8_open_28 (l0 l2 l3 : Option Value) (x : Int32) (st : List Value) (h : xH) : xf 122 28 [l0, some (.int x), l2, l3] st h = xf 122 29 [l0, some (.int x), l2, l3] (.int x :: st) h := xo_iload (k := 1) (by decide +kernel) rfl
set_option maxRecDepth 20000 in
theorem u_X8_open_29 (L : xL) (a b : Int32) (st : List Value) (h : xH) : xf 122 29 L (.int b :: .int a :: st) h = xf 122 30 L (.int (a + b) :: st) h := xo_iadd (by decide +kernel)
set_option maxRecDepth 20000 in
theorem u_X8_open_30 (L : xL) (i : Int32) (a : Nat) (st : List Value) (h : xH) (hx : xix i (xai h a).1) : xf 122 30 L (.int i :: .ref a :: st) h = xf 122 31 L (.int ((xai h a).2 i.toNatClampNeg) :: st) h := xo_iaload (by decide +kernel) hx
set_option maxRecDepth 20000 in
theorem u_X8_open_31 (L : xL) (st : List Value) (h : xH) : xf 122 31 L st h = xf 122 33 L (.int 8 :: st) h := xo_iconst (k := 8) (by decide +kernel) (by decide)
set_option maxRecDepth 20000 in
theorem u_X8_open_33 (L : xL) (a b : Int32) (st : List Value) (h : xH) : xf 122 33 L (.int b :: .int a :: st) h = if a < b then xf 122 47 L st h else xf 122 36 L st h := xo_icmp_lt (t := 47) (by decide +kernel) rfl
set_option maxRecDepth 20000 in
theorem u_X8_open_36 (l1 l2 l3 : Option Value) (x : Nat) (st : List Value) (h : xH) : xf 122 36 [some (.ref x), l1, l2, l3] st h = xf 122 37 [some (.ref x), l1, l2, l3] (.ref x :: st) h := xo_aload (k := 0) (by decide +kernel) rfl
set_option maxRecDepth 20000 in
theorem u_X8_open_37 (L : xL) (a : Nat) (st : List Value) (h : xH) (hc : (xob h a).1 = 8) : xf 122 37 L (.ref a :: st) h = xf 122 40 L ((xob h a).2.getD 1 .null :: st) h := xo_getf (r := 513) (by decide +kernel) (by decide) hc
set_option maxRecDepth 20000 in
theorem u_X8_open_40 (L : xL) (st : List Value) (h : xH) : xf 122 40 L st h = xf 122 41 L (.int 0 :: st) h := xo_iconst (k := 0) (by decide +kernel) (by decide)
set_option maxRecDepth 20000 in
theorem u_X8_open_41 (L : xL) (i : Int32) (a : Nat) (st : List Value) (h : xH) (hx : xix i (xai h a).1) : xf 122 41 L (.int i :: .ref a :: st) h = xf 122 42 L (.int ((xai h a).2 i.toNatClampNeg) :: st) h := xo_iaload (by decide +kernel) hx
set_option maxRecDepth 20000 in
theorem u_X8_open_42 (L : xL) (st : List Value) (h : xH) : xf 122 42 L st h = xf 122 44 L (.int 64 :: st) h := xo_iconst (k := 64) (by decide +kernel) (by decide)
set_option maxRecDepth 20000 in
theorem u_X8_open_44 (L : xL) (a b : Int32) (st : List Value) (h : xH) : xf 122 44 L (.int b :: .int a :: st) h = if a = b then xf 122 47 L st h else xf 122 51 L st h := xo_icmp_ne (t := 51) (by decide +kernel) rfl
set_option maxRecDepth 20000 in
theorem u_X8_open_47 (L : xL) (st : List Value) (h : xH) : xf 122 47 L st h = xf 122 48 L (.int 2 :: st) h := xo_iconst (k := 2) (by decide +kernel) (by decide)
set_option maxRecDepth 20000 in
theorem u_X8_open_48 (L : xL) (st : List Value) (h : xH) : xf 122 48 L st h = xf 122 52 L st h := xo_goto (n := 51) (t := 52) (by decide +kernel) rfl
set_option maxRecDepth 20000 in
theorem u_X8_open_51 (L : xL) (st : List Value) (h : xH) : xf 122 51 L st h = xf 122 52 L (.int 0 :: st) h := xo_iconst (k := 0) (by decide +kernel) (by decide)
set_option maxRecDepth 20000 in
theorem u_X8_open_52 (L : xL) (v0 : Int32) (b : Nat) (st : List Value) (h : xH) (hb : (xob h b).1 = 8) (hl : st.length ≤ 4) : xf 122 52 L (.int v0 :: .ref b :: st) h = xgo 122 52 55 L st (xev 100 [.ref b, .int v0] h) := xo_callV (as := [.int v0]) (by decide +kernel) rfl ⟨(by decide +kernel : xna 100 = 1), Nat.le_of_ble_eq_true rfl, rfl, by decide⟩ hb hl
set_option maxRecDepth 20000 in
theorem u_X8_open_55 (L : xL) (a : Int32) (st : List Value) (h : xH) : xf 122 55 L (.int a :: st) h = if a = 0 then xf 122 58 L st h else xf 122 60 L st h := xo_if_ne (t := 60) (by decide +kernel) rfl
set_option maxRecDepth 20000 in
theorem u_X8_open_58 (L : xL) (st : List Value) (h : xH) : xf 122 58 L st h = xf 122 59 L (.int 0 :: st) h := xo_iconst (k := 0) (by decide +kernel) (by decide)
set_option maxRecDepth 20000 in
theorem u_X8_open_59 (L : xL) (x : Int32) (h : xH) : xf 122 59 L [.int x] h = some (.inl (some (.int x)), h) := xo_ireturn (n := 60) (by decide +kernel) rfl
set_option maxRecDepth 20000 in
theorem u_X8_open_60 (l1 l2 l3 : Option Value) (x : Nat) (st : List Value) (h : xH) : xf 122 60 [some (.ref x), l1, l2, l3] st h = xf 122 61 [some (.ref x), l1, l2, l3] (.ref x :: st) h := xo_aload (k := 0) (by decide +kernel) rfl
set_option maxRecDepth 20000 in
theorem u_X8_open_61 (L : xL) (b : Nat) (st : List Value) (h : xH) (hb : (xob h b).1 = 8) (hl : st.length ≤ 4) : xf 122 61 L (.ref b :: st) h = xgo 122 61 64 L st (xev 101 [.ref b] h) := xo_callV (as := []) (by decide +kernel) rfl ⟨(by decide +kernel : xna 101 = 0), Nat.le_of_ble_eq_true rfl, rfl, by decide⟩ hb hl
set_option maxRecDepth 20000 in
theorem u_X8_open_64 (l1 l2 l3 : Option Value) (x : Nat) (st : List Value) (h : xH) : xf 122 64 [some (.ref x), l1, l2, l3] st h = xf 122 65 [some (.ref x), l1, l2, l3] (.ref x :: st) h := xo_aload (k := 0) (by decide +kernel) rfl
set_option maxRecDepth 20000 in
theorem u_X8_open_65 (L : xL) (a : Nat) (st : List Value) (h : xH) (hc : (xob h a).1 = 8) : xf 122 65 L (.ref a :: st) h = xf 122 68 L ((xob h a).2.getD 1 .null :: st) h := xo_getf (r := 513) (by decide +kernel) (by decide) hc
set_option maxRecDepth 20000 in
theorem u_X8_open_68 (L : xL) (st : List Value) (h : xH) : xf 122 68 L st h = xf 122 69 L (.int 1 :: st) h := xo_iconst (k := 1) (by decide +kernel) (by decide)
set_option maxRecDepth 20000 in
theorem u_X8_open_69 (l0 l2 l3 : Option Value) (x : Int32) (st : List Value) (h : xH) : xf 122 69 [l0, some (.int x), l2, l3] st h = xf 122 70 [l0, some (.int x), l2, l3] (.int x :: st) h := xo_iload (k := 1) (by decide +kernel) rfl
set_option maxRecDepth 20000 in
theorem u_X8_open_70 (L : xL) (a b : Int32) (st : List Value) (h : xH) : xf 122 70 L (.int b :: .int a :: st) h = xf 122 71 L (.int (a + b) :: st) h := xo_iadd (by decide +kernel)
set_option maxRecDepth 20000 in
theorem u_X8_open_71 (L : xL) (i : Int32) (a : Nat) (st : List Value) (h : xH) (hx : xix i (xai h a).1) : xf 122 71 L (.int i :: .ref a :: st) h = xf 122 72 L (.int ((xai h a).2 i.toNatClampNeg) :: st) h := xo_iaload (by decide +kernel) hx
set_option maxRecDepth 20000 in
theorem u_X8_open_72 (l0 l1 l2 l3 : Option Value) (x : Int32) (st : List Value) (h : xH) : xf 122 72 [l0, l1, l2, l3] (.int x :: st) h = xf 122 73 [l0, l1, xcat l2, some (.int x)] st h := xo_istore (k := 3) (by decide +kernel) (Nat.le_of_ble_eq_true rfl) rfl
set_option maxRecDepth 20000 in
theorem u_X8_open_73 (l1 l2 l3 : Option Value) (x : Nat) (st : List Value) (h : xH) : xf 122 73 [some (.ref x), l1, l2, l3] st h = xf 122 74 [some (.ref x), l1, l2, l3] (.ref x :: st) h := xo_aload (k := 0) (by decide +kernel) rfl
set_option maxRecDepth 20000 in
theorem u_X8_open_74 (l0 l2 l3 : Option Value) (x : Int32) (st : List Value) (h : xH) : xf 122 74 [l0, some (.int x), l2, l3] st h = xf 122 75 [l0, some (.int x), l2, l3] (.int x :: st) h := xo_iload (k := 1) (by decide +kernel) rfl
set_option maxRecDepth 20000 in
theorem u_X8_open_75 (L : xL) (v0 : Int32) (b : Nat) (st : List Value) (h : xH) (hb : (xob h b).1 = 8) (hl : st.length ≤ 4) : xf 122 75 L (.int v0 :: .ref b :: st) h = xgo 122 75 78 L st (xev 121 [.ref b, .int v0] h) := xo_callV (as := [.int v0]) (by decide +kernel) rfl ⟨(by decide +kernel : xna 121 = 1), Nat.le_of_ble_eq_true rfl, rfl, by decide⟩ hb hl
set_option maxRecDepth 20000 in
theorem u_X8_open_78 (l1 l2 l3 : Option Value) (x : Nat) (st : List Value) (h : xH) : xf 122 78 [some (.ref x), l1, l2, l3] st h = xf 122 79 [some (.ref x), l1, l2, l3] (.ref x :: st) h := xo_aload (k := 0) (by decide +kernel) rfl
set_option maxRecDepth 20000 in
theorem u_X8_open_79 (L : xL) (b : Nat) (st : List Value) (h : xH) (hb : (xob h b).1 = 8) (hl : st.length ≤ 4) : xf 122 79 L (.ref b :: st) h = xgo 122 79 82 L st (xev 119 [.ref b] h) := xo_callV (as := []) (by decide +kernel) rfl ⟨(by decide +kernel : xna 119 = 0), Nat.le_of_ble_eq_true rfl, rfl, by decide⟩ hb hl
set_option maxRecDepth 20000 in
theorem u_X8_open_82 (l0 l1 l2 : Option Value) (x : Int32) (st : List Value) (h : xH) : xf 122 82 [l0, l1, l2, some (.int x)] st h = xf 122 83 [l0, l1, l2, some (.int x)] (.int x :: st) h := xo_iload (k := 3) (by decide +kernel) rfl
set_option maxRecDepth 20000 in
theorem u_X8_open_83 (L : xL) (x : Int32) (h : xH) : xf 122 83 L [.int x] h = some (.inl (some (.int x)), h) := xo_ireturn (n := 84) (by decide +kernel) rfl
set_option maxRecDepth 20000 in
theorem e_X8_open (v0 : Nat) (v1 : Int32) (h : xH) : xev 122 [.ref v0, .int v1] h = xf 122 0 [some (.ref v0), some (.int v1), none, none] [] h := rfl
set_option maxRecDepth 20000 in
theorem u_X8_occurs_0 (L : xL) (st : List Value) (h : xH) : xf 123 0 L st h = xf 123 1 L (.int 0 :: st) h := xo_iconst (k := 0) (by decide +kernel) (by decide)
set_option maxRecDepth 20000 in
theorem u_X8_occurs_1 (l0 l1 l2 l3 l4 l5 : Option Value) (x : Int32) (st : List Value) (h : xH) : xf 123 1 [l0, l1, l2, l3, l4, l5] (.int x :: st) h = xf 123 2 [l0, l1, xcat l2, some (.int x), l4, l5] st h := xo_istore (k := 3) (by decide +kernel) (Nat.le_of_ble_eq_true rfl) rfl
set_option maxRecDepth 20000 in
theorem u_X8_occurs_2 (L : xL) (st : List Value) (h : xH) : xf 123 2 L st h = xf 123 3 L (.int 0 :: st) h := xo_iconst (k := 0) (by decide +kernel) (by decide)
set_option maxRecDepth 20000 in
theorem u_X8_occurs_3 (l0 l1 l2 l3 l4 l5 : Option Value) (x : Int32) (st : List Value) (h : xH) : xf 123 3 [l0, l1, l2, l3, l4, l5] (.int x :: st) h = xf 123 5 [l0, l1, l2, xcat l3, some (.int x), l5] st h := xo_istore (k := 4) (by decide +kernel) (Nat.le_of_ble_eq_true rfl) rfl
set_option maxRecDepth 20000 in
theorem u_X8_occurs_5 (l0 l1 l2 l3 l5 : Option Value) (x : Int32) (st : List Value) (h : xH) : xf 123 5 [l0, l1, l2, l3, some (.int x), l5] st h = xf 123 7 [l0, l1, l2, l3, some (.int x), l5] (.int x :: st) h := xo_iload (k := 4) (by decide +kernel) rfl
set_option maxRecDepth 20000 in
theorem u_X8_occurs_7 (L : xL) (st : List Value) (h : xH) : xf 123 7 L st h = xf 123 8 L (.int 1 :: st) h := xo_iconst (k := 1) (by decide +kernel) (by decide)
set_option maxRecDepth 20000 in
theorem u_X8_occurs_8 (L : xL) (a b : Int32) (st : List Value) (h : xH) : xf 123 8 L (.int b :: .int a :: st) h = xf 123 9 L (.int (a + b) :: st) h := xo_iadd (by decide +kernel)
set_option maxRecDepth 20000 in
theorem u_X8_occurs_9 (l1 l2 l3 l4 l5 : Option Value) (x : Nat) (st : List Value) (h : xH) : xf 123 9 [some (.ref x), l1, l2, l3, l4, l5] st h = xf 123 10 [some (.ref x), l1, l2, l3, l4, l5] (.ref x :: st) h := xo_aload (k := 0) (by decide +kernel) rfl
set_option maxRecDepth 20000 in
theorem u_X8_occurs_10 (L : xL) (a : Nat) (st : List Value) (h : xH) (hc : (xob h a).1 = 8) : xf 123 10 L (.ref a :: st) h = xf 123 13 L ((xob h a).2.getD 1 .null :: st) h := xo_getf (r := 513) (by decide +kernel) (by decide) hc
set_option maxRecDepth 20000 in
theorem u_X8_occurs_13 (L : xL) (st : List Value) (h : xH) : xf 123 13 L st h = xf 123 14 L (.int 0 :: st) h := xo_iconst (k := 0) (by decide +kernel) (by decide)
set_option maxRecDepth 20000 in
theorem u_X8_occurs_14 (L : xL) (i : Int32) (a : Nat) (st : List Value) (h : xH) (hx : xix i (xai h a).1) : xf 123 14 L (.int i :: .ref a :: st) h = xf 123 15 L (.int ((xai h a).2 i.toNatClampNeg) :: st) h := xo_iaload (by decide +kernel) hx
set_option maxRecDepth 20000 in
theorem u_X8_occurs_15 (L : xL) (a b : Int32) (st : List Value) (h : xH) : xf 123 15 L (.int b :: .int a :: st) h = if a < b then xf 123 18 L st h else xf 123 84 L st h := xo_icmp_ge (t := 84) (by decide +kernel) rfl
set_option maxRecDepth 20000 in
theorem u_X8_occurs_18 (l1 l2 l3 l4 l5 : Option Value) (x : Nat) (st : List Value) (h : xH) : xf 123 18 [some (.ref x), l1, l2, l3, l4, l5] st h = xf 123 19 [some (.ref x), l1, l2, l3, l4, l5] (.ref x :: st) h := xo_aload (k := 0) (by decide +kernel) rfl
set_option maxRecDepth 20000 in
theorem u_X8_occurs_19 (L : xL) (a : Nat) (st : List Value) (h : xH) (hc : (xob h a).1 = 8) : xf 123 19 L (.ref a :: st) h = xf 123 22 L ((xob h a).2.getD 1 .null :: st) h := xo_getf (r := 513) (by decide +kernel) (by decide) hc
set_option maxRecDepth 20000 in
theorem u_X8_occurs_22 (L : xL) (st : List Value) (h : xH) : xf 123 22 L st h = xf 123 23 L (.int 1 :: st) h := xo_iconst (k := 1) (by decide +kernel) (by decide)
set_option maxRecDepth 20000 in
theorem u_X8_occurs_23 (l0 l1 l2 l3 l5 : Option Value) (x : Int32) (st : List Value) (h : xH) : xf 123 23 [l0, l1, l2, l3, some (.int x), l5] st h = xf 123 25 [l0, l1, l2, l3, some (.int x), l5] (.int x :: st) h := xo_iload (k := 4) (by decide +kernel) rfl
set_option maxRecDepth 20000 in
theorem u_X8_occurs_25 (L : xL) (a b : Int32) (st : List Value) (h : xH) : xf 123 25 L (.int b :: .int a :: st) h = xf 123 26 L (.int (a + b) :: st) h := xo_iadd (by decide +kernel)
set_option maxRecDepth 20000 in
theorem u_X8_occurs_26 (L : xL) (i : Int32) (a : Nat) (st : List Value) (h : xH) (hx : xix i (xai h a).1) : xf 123 26 L (.int i :: .ref a :: st) h = xf 123 27 L (.int ((xai h a).2 i.toNatClampNeg) :: st) h := xo_iaload (by decide +kernel) hx
set_option maxRecDepth 20000 in
theorem u_X8_occurs_27 (l0 l2 l3 l4 l5 : Option Value) (x : Int32) (st : List Value) (h : xH) : xf 123 27 [l0, some (.int x), l2, l3, l4, l5] st h = xf 123 28 [l0, some (.int x), l2, l3, l4, l5] (.int x :: st) h := xo_iload (k := 1) (by decide +kernel) rfl
set_option maxRecDepth 20000 in
theorem u_X8_occurs_28 (L : xL) (a b : Int32) (st : List Value) (h : xH) : xf 123 28 L (.int b :: .int a :: st) h = if a = b then xf 123 31 L st h else xf 123 50 L st h := xo_icmp_ne (t := 50) (by decide +kernel) rfl
set_option maxRecDepth 20000 in
theorem u_X8_occurs_31 (l1 l2 l3 l4 l5 : Option Value) (x : Nat) (st : List Value) (h : xH) : xf 123 31 [some (.ref x), l1, l2, l3, l4, l5] st h = xf 123 32 [some (.ref x), l1, l2, l3, l4, l5] (.ref x :: st) h := xo_aload (k := 0) (by decide +kernel) rfl
set_option maxRecDepth 20000 in
theorem u_X8_occurs_32 (L : xL) (a : Nat) (st : List Value) (h : xH) (hc : (xob h a).1 = 8) : xf 123 32 L (.ref a :: st) h = xf 123 35 L ((xob h a).2.getD 1 .null :: st) h := xo_getf (r := 513) (by decide +kernel) (by decide) hc
set_option maxRecDepth 20000 in
theorem u_X8_occurs_35 (L : xL) (st : List Value) (h : xH) : xf 123 35 L st h = xf 123 36 L (.int 1 :: st) h := xo_iconst (k := 1) (by decide +kernel) (by decide)
set_option maxRecDepth 20000 in
theorem u_X8_occurs_36 (l0 l1 l2 l3 l5 : Option Value) (x : Int32) (st : List Value) (h : xH) : xf 123 36 [l0, l1, l2, l3, some (.int x), l5] st h = xf 123 38 [l0, l1, l2, l3, some (.int x), l5] (.int x :: st) h := xo_iload (k := 4) (by decide +kernel) rfl
set_option maxRecDepth 20000 in
theorem u_X8_occurs_38 (L : xL) (a b : Int32) (st : List Value) (h : xH) : xf 123 38 L (.int b :: .int a :: st) h = xf 123 39 L (.int (a + b) :: st) h := xo_iadd (by decide +kernel)
set_option maxRecDepth 20000 in
theorem u_X8_occurs_39 (L : xL) (st : List Value) (h : xH) : xf 123 39 L st h = xf 123 40 L (.int 1 :: st) h := xo_iconst (k := 1) (by decide +kernel) (by decide)
set_option maxRecDepth 20000 in
theorem u_X8_occurs_40 (L : xL) (a b : Int32) (st : List Value) (h : xH) : xf 123 40 L (.int b :: .int a :: st) h = xf 123 41 L (.int (a + b) :: st) h := xo_iadd (by decide +kernel)
set_option maxRecDepth 20000 in
theorem u_X8_occurs_41 (L : xL) (i : Int32) (a : Nat) (st : List Value) (h : xH) (hx : xix i (xai h a).1) : xf 123 41 L (.int i :: .ref a :: st) h = xf 123 42 L (.int ((xai h a).2 i.toNatClampNeg) :: st) h := xo_iaload (by decide +kernel) hx
set_option maxRecDepth 20000 in
theorem u_X8_occurs_42 (l0 l1 l3 l4 l5 : Option Value) (x : Int32) (st : List Value) (h : xH) : xf 123 42 [l0, l1, some (.int x), l3, l4, l5] st h = xf 123 43 [l0, l1, some (.int x), l3, l4, l5] (.int x :: st) h := xo_iload (k := 2) (by decide +kernel) rfl
set_option maxRecDepth 20000 in
theorem u_X8_occurs_43 (L : xL) (a b : Int32) (st : List Value) (h : xH) : xf 123 43 L (.int b :: .int a :: st) h = if a = b then xf 123 46 L st h else xf 123 50 L st h := xo_icmp_ne (t := 50) (by decide +kernel) rfl
set_option maxRecDepth 20000 in
theorem u_X8_occurs_46 (L : xL) (st : List Value) (h : xH) : xf 123 46 L st h = xf 123 47 L (.int 1 :: st) h := xo_iconst (k := 1) (by decide +kernel) (by decide)
set_option maxRecDepth 20000 in
theorem u_X8_occurs_47 (L : xL) (st : List Value) (h : xH) : xf 123 47 L st h = xf 123 51 L st h := xo_goto (n := 50) (t := 51) (by decide +kernel) rfl
set_option maxRecDepth 20000 in
theorem u_X8_occurs_50 (L : xL) (st : List Value) (h : xH) : xf 123 50 L st h = xf 123 51 L (.int 0 :: st) h := xo_iconst (k := 0) (by decide +kernel) (by decide)
set_option maxRecDepth 20000 in
theorem u_X8_occurs_51 (l0 l1 l2 l3 l4 l5 : Option Value) (x : Int32) (st : List Value) (h : xH) : xf 123 51 [l0, l1, l2, l3, l4, l5] (.int x :: st) h = xf 123 53 [l0, l1, l2, l3, xcat l4, some (.int x)] st h := xo_istore (k := 5) (by decide +kernel) (Nat.le_of_ble_eq_true rfl) rfl
set_option maxRecDepth 20000 in
theorem u_X8_occurs_53 (l0 l1 l2 l4 l5 : Option Value) (x : Int32) (st : List Value) (h : xH) : xf 123 53 [l0, l1, l2, some (.int x), l4, l5] st h = xf 123 54 [l0, l1, l2, some (.int x), l4, l5] (.int x :: st) h := xo_iload (k := 3) (by decide +kernel) rfl
set_option maxRecDepth 20000 in
theorem u_X8_occurs_54 (l0 l1 l2 l3 l4 : Option Value) (x : Int32) (st : List Value) (h : xH) : xf 123 54 [l0, l1, l2, l3, l4, some (.int x)] st h = xf 123 56 [l0, l1, l2, l3, l4, some (.int x)] (.int x :: st) h := xo_iload (k := 5) (by decide +kernel) rfl
set_option maxRecDepth 20000 in
theorem u_X8_occurs_56 (L : xL) (a : Int32) (st : List Value) (h : xH) : xf 123 56 L (.int a :: st) h = if a = 0 then xf 123 63 L st h else xf 123 59 L st h := xo_if_eq (t := 63) (by decide +kernel) rfl
set_option maxRecDepth 20000 in
theorem u_X8_occurs_59 (L : xL) (st : List Value) (h : xH) : xf 123 59 L st h = xf 123 60 L (.int 1 :: st) h := xo_iconst (k := 1) (by decide +kernel) (by decide)
set_option maxRecDepth 20000 in
theorem u_X8_occurs_60 (L : xL) (st : List Value) (h : xH) : xf 123 60 L st h = xf 123 64 L st h := xo_goto (n := 63) (t := 64) (by decide +kernel) rfl
set_option maxRecDepth 20000 in
theorem u_X8_occurs_63 (L : xL) (st : List Value) (h : xH) : xf 123 63 L st h = xf 123 64 L (.int 0 :: st) h := xo_iconst (k := 0) (by decide +kernel) (by decide)
set_option maxRecDepth 20000 in
theorem u_X8_occurs_64 (L : xL) (a b : Int32) (st : List Value) (h : xH) : xf 123 64 L (.int b :: .int a :: st) h = xf 123 65 L (.int (a + b) :: st) h := xo_iadd (by decide +kernel)
set_option maxRecDepth 20000 in
theorem u_X8_occurs_65 (l0 l1 l2 l3 l4 l5 : Option Value) (x : Int32) (st : List Value) (h : xH) : xf 123 65 [l0, l1, l2, l3, l4, l5] (.int x :: st) h = xf 123 66 [l0, l1, xcat l2, some (.int x), l4, l5] st h := xo_istore (k := 3) (by decide +kernel) (Nat.le_of_ble_eq_true rfl) rfl
set_option maxRecDepth 20000 in
theorem u_X8_occurs_66 (l0 l1 l2 l3 l5 : Option Value) (x : Int32) (st : List Value) (h : xH) : xf 123 66 [l0, l1, l2, l3, some (.int x), l5] st h = xf 123 68 [l0, l1, l2, l3, some (.int x), l5] (.int x :: st) h := xo_iload (k := 4) (by decide +kernel) rfl
set_option maxRecDepth 20000 in
theorem u_X8_occurs_68 (l0 l1 l2 l3 l4 : Option Value) (x : Int32) (st : List Value) (h : xH) : xf 123 68 [l0, l1, l2, l3, l4, some (.int x)] st h = xf 123 70 [l0, l1, l2, l3, l4, some (.int x)] (.int x :: st) h := xo_iload (k := 5) (by decide +kernel) rfl
set_option maxRecDepth 20000 in
theorem u_X8_occurs_70 (L : xL) (a : Int32) (st : List Value) (h : xH) : xf 123 70 L (.int a :: st) h = if a = 0 then xf 123 77 L st h else xf 123 73 L st h := xo_if_eq (t := 77) (by decide +kernel) rfl
set_option maxRecDepth 20000 in
theorem u_X8_occurs_73 (L : xL) (st : List Value) (h : xH) : xf 123 73 L st h = xf 123 74 L (.int 2 :: st) h := xo_iconst (k := 2) (by decide +kernel) (by decide)
set_option maxRecDepth 20000 in
theorem u_X8_occurs_74 (L : xL) (st : List Value) (h : xH) : xf 123 74 L st h = xf 123 78 L st h := xo_goto (n := 77) (t := 78) (by decide +kernel) rfl
set_option maxRecDepth 20000 in
theorem u_X8_occurs_77 (L : xL) (st : List Value) (h : xH) : xf 123 77 L st h = xf 123 78 L (.int 1 :: st) h := xo_iconst (k := 1) (by decide +kernel) (by decide)
set_option maxRecDepth 20000 in
theorem u_X8_occurs_78 (L : xL) (a b : Int32) (st : List Value) (h : xH) : xf 123 78 L (.int b :: .int a :: st) h = xf 123 79 L (.int (a + b) :: st) h := xo_iadd (by decide +kernel)
set_option maxRecDepth 20000 in
theorem u_X8_occurs_79 (l0 l1 l2 l3 l4 l5 : Option Value) (x : Int32) (st : List Value) (h : xH) : xf 123 79 [l0, l1, l2, l3, l4, l5] (.int x :: st) h = xf 123 81 [l0, l1, l2, xcat l3, some (.int x), l5] st h := xo_istore (k := 4) (by decide +kernel) (Nat.le_of_ble_eq_true rfl) rfl
set_option maxRecDepth 20000 in
theorem u_X8_occurs_81 (L : xL) (st : List Value) (h : xH) : xf 123 81 L st h = xf 123 5 L st h := xo_goto (n := 84) (t := 5) (by decide +kernel) rfl
set_option maxRecDepth 20000 in
theorem u_X8_occurs_84 (l0 l1 l2 l4 l5 : Option Value) (x : Int32) (st : List Value) (h : xH) : xf 123 84 [l0, l1, l2, some (.int x), l4, l5] st h = xf 123 85 [l0, l1, l2, some (.int x), l4, l5] (.int x :: st) h := xo_iload (k := 3) (by decide +kernel) rfl
set_option maxRecDepth 20000 in
theorem u_X8_occurs_85 (L : xL) (x : Int32) (h : xH) : xf 123 85 L [.int x] h = some (.inl (some (.int x)), h) := xo_ireturn (n := 86) (by decide +kernel) rfl
set_option maxRecDepth 20000 in
theorem e_X8_occurs (v0 : Nat) (v1 : Int32) (v2 : Int32) (h : xH) : xev 123 [.ref v0, .int v1, .int v2] h = xf 123 0 [some (.ref v0), some (.int v1), some (.int v2), none, none, none] [] h := rfl
set_option maxRecDepth 20000 in
theorem u_X8_find_0 (l1 l2 l3 : Option Value) (x : Nat) (st : List Value) (h : xH) : xf 124 0 [some (.ref x), l1, l2, l3] st h = xf 124 1 [some (.ref x), l1, l2, l3] (.ref x :: st) h := xo_aload (k := 0) (by decide +kernel) rfl
set_option maxRecDepth 20000 in
theorem u_X8_find_1 (L : xL) (st : List Value) (h : xH) : xf 124 1 L st h = xf 124 2 L (.int 0 :: st) h := xo_iconst (k := 0) (by decide +kernel) (by decide)
set_option maxRecDepth 20000 in
theorem u_X8_find_2 (L : xL) (v : Int32) (a : Nat) (st : List Value) (h : xH) (hc : (xob h a).1 = 8) : xf 124 2 L (.int v :: .ref a :: st) h = xf 124 5 L st (xso h a 17 (.int v)) := xo_putf (r := 529) (by decide +kernel) (by decide) rfl hc
set_option maxRecDepth 20000 in
theorem u_X8_find_5 (L : xL) (st : List Value) (h : xH) : xf 124 5 L st h = xf 124 6 L (.int 0 :: st) h := xo_iconst (k := 0) (by decide +kernel) (by decide)
set_option maxRecDepth 20000 in
theorem u_X8_find_6 (l0 l1 l2 l3 : Option Value) (x : Int32) (st : List Value) (h : xH) : xf 124 6 [l0, l1, l2, l3] (.int x :: st) h = xf 124 7 [xcat l0, some (.int x), l2, l3] st h := xo_istore (k := 1) (by decide +kernel) (Nat.le_of_ble_eq_true rfl) rfl
set_option maxRecDepth 20000 in
theorem u_X8_find_7 (l0 l2 l3 : Option Value) (x : Int32) (st : List Value) (h : xH) : xf 124 7 [l0, some (.int x), l2, l3] st h = xf 124 8 [l0, some (.int x), l2, l3] (.int x :: st) h := xo_iload (k := 1) (by decide +kernel) rfl
set_option maxRecDepth 20000 in
theorem u_X8_find_8 (L : xL) (st : List Value) (h : xH) : xf 124 8 L st h = xf 124 10 L (.int 24 :: st) h := xo_iconst (k := 24) (by decide +kernel) (by decide)
set_option maxRecDepth 20000 in
theorem u_X8_find_10 (L : xL) (a b : Int32) (st : List Value) (h : xH) : xf 124 10 L (.int b :: .int a :: st) h = if a < b then xf 124 13 L st h else xf 124 74 L st h := xo_icmp_ge (t := 74) (by decide +kernel) rfl
set_option maxRecDepth 20000 in
theorem u_X8_find_13 (L : xL) (st : List Value) (h : xH) : xf 124 13 L st h = xf 124 14 L (.int 0 :: st) h := xo_iconst (k := 0) (by decide +kernel) (by decide)
set_option maxRecDepth 20000 in
theorem u_X8_find_14 (l0 l1 l2 l3 : Option Value) (x : Int32) (st : List Value) (h : xH) : xf 124 14 [l0, l1, l2, l3] (.int x :: st) h = xf 124 15 [l0, xcat l1, some (.int x), l3] st h := xo_istore (k := 2) (by decide +kernel) (Nat.le_of_ble_eq_true rfl) rfl
set_option maxRecDepth 20000 in
theorem u_X8_find_15 (l0 l1 l3 : Option Value) (x : Int32) (st : List Value) (h : xH) : xf 124 15 [l0, l1, some (.int x), l3] st h = xf 124 16 [l0, l1, some (.int x), l3] (.int x :: st) h := xo_iload (k := 2) (by decide +kernel) rfl
set_option maxRecDepth 20000 in
theorem u_X8_find_16 (L : xL) (st : List Value) (h : xH) : xf 124 16 L st h = xf 124 18 L (.int 24 :: st) h := xo_iconst (k := 24) (by decide +kernel) (by decide)
set_option maxRecDepth 20000 in
theorem u_X8_find_18 (L : xL) (a b : Int32) (st : List Value) (h : xH) : xf 124 18 L (.int b :: .int a :: st) h = if a < b then xf 124 21 L st h else xf 124 68 L st h := xo_icmp_ge (t := 68) (by decide +kernel) rfl
set_option maxRecDepth 20000 in
theorem u_X8_find_21 (l1 l2 l3 : Option Value) (x : Nat) (st : List Value) (h : xH) : xf 124 21 [some (.ref x), l1, l2, l3] st h = xf 124 22 [some (.ref x), l1, l2, l3] (.ref x :: st) h := xo_aload (k := 0) (by decide +kernel) rfl
set_option maxRecDepth 20000 in
theorem u_X8_find_22 (l0 l2 l3 : Option Value) (x : Int32) (st : List Value) (h : xH) : xf 124 22 [l0, some (.int x), l2, l3] st h = xf 124 23 [l0, some (.int x), l2, l3] (.int x :: st) h := xo_iload (k := 1) (by decide +kernel) rfl
set_option maxRecDepth 20000 in
theorem u_X8_find_23 (l0 l1 l3 : Option Value) (x : Int32) (st : List Value) (h : xH) : xf 124 23 [l0, l1, some (.int x), l3] st h = xf 124 24 [l0, l1, some (.int x), l3] (.int x :: st) h := xo_iload (k := 2) (by decide +kernel) rfl
set_option maxRecDepth 20000 in
theorem u_X8_find_24 (L : xL) (v0 : Int32) (v1 : Int32) (b : Nat) (st : List Value) (h : xH) (hb : (xob h b).1 = 8) (hl : st.length ≤ 4) : xf 124 24 L (.int v1 :: .int v0 :: .ref b :: st) h = xgo 124 24 27 L st (xev 123 [.ref b, .int v0, .int v1] h) := xo_callV (as := [.int v0, .int v1]) (by decide +kernel) rfl ⟨(by decide +kernel : xna 123 = 2), Nat.le_of_ble_eq_true rfl, rfl, by decide⟩ hb hl
set_option maxRecDepth 20000 in
theorem u_X8_find_27 (l0 l1 l2 l3 : Option Value) (x : Int32) (st : List Value) (h : xH) : xf 124 27 [l0, l1, l2, l3] (.int x :: st) h = xf 124 28 [l0, l1, xcat l2, some (.int x)] st h := xo_istore (k := 3) (by decide +kernel) (Nat.le_of_ble_eq_true rfl) rfl
set_option maxRecDepth 20000 in
theorem u_X8_find_28 (l0 l1 l2 : Option Value) (x : Int32) (st : List Value) (h : xH) : xf 124 28 [l0, l1, l2, some (.int x)] st h = xf 124 29 [l0, l1, l2, some (.int x)] (.int x :: st) h := xo_iload (k := 3) (by decide +kernel) rfl
set_option maxRecDepth 20000 in
theorem u_X8_find_29 (l1 l2 l3 : Option Value) (x : Nat) (st : List Value) (h : xH) : xf 124 29 [some (.ref x), l1, l2, l3] st h = xf 124 30 [some (.ref x), l1, l2, l3] (.ref x :: st) h := xo_aload (k := 0) (by decide +kernel) rfl
set_option maxRecDepth 20000 in
theorem u_X8_find_30 (L : xL) (a : Nat) (st : List Value) (h : xH) (hc : (xob h a).1 = 8) : xf 124 30 L (.ref a :: st) h = xf 124 33 L ((xob h a).2.getD 1 .null :: st) h := xo_getf (r := 513) (by decide +kernel) (by decide) hc
set_option maxRecDepth 20000 in
theorem u_X8_find_33 (L : xL) (st : List Value) (h : xH) : xf 124 33 L st h = xf 124 35 L (.int 113 :: st) h := xo_iconst (k := 113) (by decide +kernel) (by decide)
set_option maxRecDepth 20000 in
theorem u_X8_find_35 (L : xL) (i : Int32) (a : Nat) (st : List Value) (h : xH) (hx : xix i (xai h a).1) : xf 124 35 L (.int i :: .ref a :: st) h = xf 124 36 L (.int ((xai h a).2 i.toNatClampNeg) :: st) h := xo_iaload (by decide +kernel) hx
set_option maxRecDepth 20000 in
theorem u_X8_find_36 (L : xL) (a b : Int32) (st : List Value) (h : xH) : xf 124 36 L (.int b :: .int a :: st) h = if a < b then xf 124 62 L st h else xf 124 39 L st h := xo_icmp_lt (t := 62) (by decide +kernel) rfl
set_option maxRecDepth 20000 in
theorem u_X8_find_39 (l0 l1 l2 : Option Value) (x : Int32) (st : List Value) (h : xH) : xf 124 39 [l0, l1, l2, some (.int x)] st h = xf 124 40 [l0, l1, l2, some (.int x)] (.int x :: st) h := xo_iload (k := 3) (by decide +kernel) rfl
set_option maxRecDepth 20000 in
theorem u_X8_find_40 (l1 l2 l3 : Option Value) (x : Nat) (st : List Value) (h : xH) : xf 124 40 [some (.ref x), l1, l2, l3] st h = xf 124 41 [some (.ref x), l1, l2, l3] (.ref x :: st) h := xo_aload (k := 0) (by decide +kernel) rfl
set_option maxRecDepth 20000 in
theorem u_X8_find_41 (L : xL) (a : Nat) (st : List Value) (h : xH) (hc : (xob h a).1 = 8) : xf 124 41 L (.ref a :: st) h = xf 124 44 L ((xob h a).2.getD 17 .null :: st) h := xo_getf (r := 529) (by decide +kernel) (by decide) hc
set_option maxRecDepth 20000 in
theorem u_X8_find_44 (L : xL) (a b : Int32) (st : List Value) (h : xH) : xf 124 44 L (.int b :: .int a :: st) h = if b < a then xf 124 47 L st h else xf 124 62 L st h := xo_icmp_le (t := 62) (by decide +kernel) rfl
set_option maxRecDepth 20000 in
theorem u_X8_find_47 (l1 l2 l3 : Option Value) (x : Nat) (st : List Value) (h : xH) : xf 124 47 [some (.ref x), l1, l2, l3] st h = xf 124 48 [some (.ref x), l1, l2, l3] (.ref x :: st) h := xo_aload (k := 0) (by decide +kernel) rfl
set_option maxRecDepth 20000 in
theorem u_X8_find_48 (l0 l1 l2 : Option Value) (x : Int32) (st : List Value) (h : xH) : xf 124 48 [l0, l1, l2, some (.int x)] st h = xf 124 49 [l0, l1, l2, some (.int x)] (.int x :: st) h := xo_iload (k := 3) (by decide +kernel) rfl
set_option maxRecDepth 20000 in
theorem u_X8_find_49 (L : xL) (v : Int32) (a : Nat) (st : List Value) (h : xH) (hc : (xob h a).1 = 8) : xf 124 49 L (.int v :: .ref a :: st) h = xf 124 52 L st (xso h a 17 (.int v)) := xo_putf (r := 529) (by decide +kernel) (by decide) rfl hc
set_option maxRecDepth 20000 in
theorem u_X8_find_52 (l1 l2 l3 : Option Value) (x : Nat) (st : List Value) (h : xH) : xf 124 52 [some (.ref x), l1, l2, l3] st h = xf 124 53 [some (.ref x), l1, l2, l3] (.ref x :: st) h := xo_aload (k := 0) (by decide +kernel) rfl
set_option maxRecDepth 20000 in
theorem u_X8_find_53 (l0 l2 l3 : Option Value) (x : Int32) (st : List Value) (h : xH) : xf 124 53 [l0, some (.int x), l2, l3] st h = xf 124 54 [l0, some (.int x), l2, l3] (.int x :: st) h := xo_iload (k := 1) (by decide +kernel) rfl
set_option maxRecDepth 20000 in
theorem u_X8_find_54 (L : xL) (v : Int32) (a : Nat) (st : List Value) (h : xH) (hc : (xob h a).1 = 8) : xf 124 54 L (.int v :: .ref a :: st) h = xf 124 57 L st (xso h a 15 (.int v)) := xo_putf (r := 527) (by decide +kernel) (by decide) rfl hc
set_option maxRecDepth 20000 in
theorem u_X8_find_57 (l1 l2 l3 : Option Value) (x : Nat) (st : List Value) (h : xH) : xf 124 57 [some (.ref x), l1, l2, l3] st h = xf 124 58 [some (.ref x), l1, l2, l3] (.ref x :: st) h := xo_aload (k := 0) (by decide +kernel) rfl
set_option maxRecDepth 20000 in
theorem u_X8_find_58 (l0 l1 l3 : Option Value) (x : Int32) (st : List Value) (h : xH) : xf 124 58 [l0, l1, some (.int x), l3] st h = xf 124 59 [l0, l1, some (.int x), l3] (.int x :: st) h := xo_iload (k := 2) (by decide +kernel) rfl
set_option maxRecDepth 20000 in
theorem u_X8_find_59 (L : xL) (v : Int32) (a : Nat) (st : List Value) (h : xH) (hc : (xob h a).1 = 8) : xf 124 59 L (.int v :: .ref a :: st) h = xf 124 62 L st (xso h a 16 (.int v)) := xo_putf (r := 528) (by decide +kernel) (by decide) rfl hc
set_option maxRecDepth 20000 in
theorem u_X8_find_62 (l0 l1 l3 : Option Value) (x : Int32) (st : List Value) (h : xH) : xf 124 62 [l0, l1, some (.int x), l3] st h = xf 124 65 [l0, xcat l1, some (.int (x + 1)), l3] st h := xo_iinc (k := 2) (c := 1) (by decide +kernel) rfl (by decide) rfl
set_option maxRecDepth 20000 in
theorem u_X8_find_65 (L : xL) (st : List Value) (h : xH) : xf 124 65 L st h = xf 124 15 L st h := xo_goto (n := 68) (t := 15) (by decide +kernel) rfl
set_option maxRecDepth 20000 in
theorem u_X8_find_68 (l0 l2 l3 : Option Value) (x : Int32) (st : List Value) (h : xH) : xf 124 68 [l0, some (.int x), l2, l3] st h = xf 124 71 [xcat l0, some (.int (x + 1)), l2, l3] st h := xo_iinc (k := 1) (c := 1) (by decide +kernel) rfl (by decide) rfl
set_option maxRecDepth 20000 in
theorem u_X8_find_71 (L : xL) (st : List Value) (h : xH) : xf 124 71 L st h = xf 124 7 L st h := xo_goto (n := 74) (t := 7) (by decide +kernel) rfl
set_option maxRecDepth 20000 in
theorem u_X8_find_74 (l1 l2 l3 : Option Value) (x : Nat) (st : List Value) (h : xH) : xf 124 74 [some (.ref x), l1, l2, l3] st h = xf 124 75 [some (.ref x), l1, l2, l3] (.ref x :: st) h := xo_aload (k := 0) (by decide +kernel) rfl
set_option maxRecDepth 20000 in
theorem u_X8_find_75 (L : xL) (st : List Value) (h : xH) : xf 124 75 L st h = xf 124 76 L (.int (-1) :: st) h := xo_iconst (k := (-1)) (by decide +kernel) (by decide)
set_option maxRecDepth 20000 in
theorem u_X8_find_76 (L : xL) (v : Int32) (a : Nat) (st : List Value) (h : xH) (hc : (xob h a).1 = 8) : xf 124 76 L (.int v :: .ref a :: st) h = xf 124 79 L st (xso h a 18 (.int v)) := xo_putf (r := 530) (by decide +kernel) (by decide) rfl hc
set_option maxRecDepth 20000 in
theorem u_X8_find_79 (L : xL) (st : List Value) (h : xH) : xf 124 79 L st h = xf 124 81 L (.int 23 :: st) h := xo_iconst (k := 23) (by decide +kernel) (by decide)
set_option maxRecDepth 20000 in
theorem u_X8_find_81 (l0 l1 l2 l3 : Option Value) (x : Int32) (st : List Value) (h : xH) : xf 124 81 [l0, l1, l2, l3] (.int x :: st) h = xf 124 82 [xcat l0, some (.int x), l2, l3] st h := xo_istore (k := 1) (by decide +kernel) (Nat.le_of_ble_eq_true rfl) rfl
set_option maxRecDepth 20000 in
theorem u_X8_find_82 (l0 l2 l3 : Option Value) (x : Int32) (st : List Value) (h : xH) : xf 124 82 [l0, some (.int x), l2, l3] st h = xf 124 83 [l0, some (.int x), l2, l3] (.int x :: st) h := xo_iload (k := 1) (by decide +kernel) rfl
set_option maxRecDepth 20000 in
theorem u_X8_find_83 (L : xL) (st : List Value) (h : xH) : xf 124 83 L st h = xf 124 85 L (.int 8 :: st) h := xo_iconst (k := 8) (by decide +kernel) (by decide)
set_option maxRecDepth 20000 in
theorem u_X8_find_85 (L : xL) (a b : Int32) (st : List Value) (h : xH) : xf 124 85 L (.int b :: .int a :: st) h = if a < b then xf 124 121 L st h else xf 124 88 L st h := xo_icmp_lt (t := 121) (by decide +kernel) rfl
set_option maxRecDepth 20000 in
theorem u_X8_find_88 (l1 l2 l3 : Option Value) (x : Nat) (st : List Value) (h : xH) : xf 124 88 [some (.ref x), l1, l2, l3] st h = xf 124 89 [some (.ref x), l1, l2, l3] (.ref x :: st) h := xo_aload (k := 0) (by decide +kernel) rfl
set_option maxRecDepth 20000 in
theorem u_X8_find_89 (l1 l2 l3 : Option Value) (x : Nat) (st : List Value) (h : xH) : xf 124 89 [some (.ref x), l1, l2, l3] st h = xf 124 90 [some (.ref x), l1, l2, l3] (.ref x :: st) h := xo_aload (k := 0) (by decide +kernel) rfl
set_option maxRecDepth 20000 in
theorem u_X8_find_90 (L : xL) (a : Nat) (st : List Value) (h : xH) (hc : (xob h a).1 = 8) : xf 124 90 L (.ref a :: st) h = xf 124 93 L ((xob h a).2.getD 17 .null :: st) h := xo_getf (r := 529) (by decide +kernel) (by decide) hc
set_option maxRecDepth 20000 in
theorem u_X8_find_93 (L : xL) (a : Int32) (st : List Value) (h : xH) : xf 124 93 L (.int a :: st) h = if 0 < a then xf 124 96 L st h else xf 124 108 L st h := xo_if_le (t := 108) (by decide +kernel) rfl
set_option maxRecDepth 20000 in
theorem u_X8_find_96 (l1 l2 l3 : Option Value) (x : Nat) (st : List Value) (h : xH) : xf 124 96 [some (.ref x), l1, l2, l3] st h = xf 124 97 [some (.ref x), l1, l2, l3] (.ref x :: st) h := xo_aload (k := 0) (by decide +kernel) rfl
set_option maxRecDepth 20000 in
theorem u_X8_find_97 (l0 l2 l3 : Option Value) (x : Int32) (st : List Value) (h : xH) : xf 124 97 [l0, some (.int x), l2, l3] st h = xf 124 98 [l0, some (.int x), l2, l3] (.int x :: st) h := xo_iload (k := 1) (by decide +kernel) rfl
set_option maxRecDepth 20000 in
theorem u_X8_find_98 (L : xL) (v0 : Int32) (b : Nat) (st : List Value) (h : xH) (hb : (xob h b).1 = 8) (hl : st.length ≤ 4) : xf 124 98 L (.int v0 :: .ref b :: st) h = xgo 124 98 101 L st (xev 104 [.ref b, .int v0] h) := xo_callV (as := [.int v0]) (by decide +kernel) rfl ⟨(by decide +kernel : xna 104 = 1), Nat.le_of_ble_eq_true rfl, rfl, by decide⟩ hb hl
set_option maxRecDepth 20000 in
theorem u_X8_find_101 (L : xL) (a : Int32) (st : List Value) (h : xH) : xf 124 101 L (.int a :: st) h = if a = 0 then xf 124 104 L st h else xf 124 108 L st h := xo_if_ne (t := 108) (by decide +kernel) rfl
set_option maxRecDepth 20000 in
theorem u_X8_find_104 (l0 l2 l3 : Option Value) (x : Int32) (st : List Value) (h : xH) : xf 124 104 [l0, some (.int x), l2, l3] st h = xf 124 105 [l0, some (.int x), l2, l3] (.int x :: st) h := xo_iload (k := 1) (by decide +kernel) rfl
set_option maxRecDepth 20000 in
theorem u_X8_find_105 (L : xL) (st : List Value) (h : xH) : xf 124 105 L st h = xf 124 112 L st h := xo_goto (n := 108) (t := 112) (by decide +kernel) rfl
set_option maxRecDepth 20000 in
theorem u_X8_find_108 (l1 l2 l3 : Option Value) (x : Nat) (st : List Value) (h : xH) : xf 124 108 [some (.ref x), l1, l2, l3] st h = xf 124 109 [some (.ref x), l1, l2, l3] (.ref x :: st) h := xo_aload (k := 0) (by decide +kernel) rfl
set_option maxRecDepth 20000 in
theorem u_X8_find_109 (L : xL) (a : Nat) (st : List Value) (h : xH) (hc : (xob h a).1 = 8) : xf 124 109 L (.ref a :: st) h = xf 124 112 L ((xob h a).2.getD 18 .null :: st) h := xo_getf (r := 530) (by decide +kernel) (by decide) hc
set_option maxRecDepth 20000 in
theorem u_X8_find_112 (L : xL) (v : Int32) (a : Nat) (st : List Value) (h : xH) (hc : (xob h a).1 = 8) : xf 124 112 L (.int v :: .ref a :: st) h = xf 124 115 L st (xso h a 18 (.int v)) := xo_putf (r := 530) (by decide +kernel) (by decide) rfl hc
set_option maxRecDepth 20000 in
theorem u_X8_find_115 (l0 l2 l3 : Option Value) (x : Int32) (st : List Value) (h : xH) : xf 124 115 [l0, some (.int x), l2, l3] st h = xf 124 118 [xcat l0, some (.int (x + (-1))), l2, l3] st h := xo_iinc (k := 1) (c := (-1)) (by decide +kernel) rfl (by decide) rfl
set_option maxRecDepth 20000 in
theorem u_X8_find_118 (L : xL) (st : List Value) (h : xH) : xf 124 118 L st h = xf 124 82 L st h := xo_goto (n := 121) (t := 82) (by decide +kernel) rfl
set_option maxRecDepth 20000 in
theorem u_X8_find_121 (L : xL) (st : List Value) (h : xH) : xf 124 121 L st h = xf 124 123 L (.int 8 :: st) h := xo_iconst (k := 8) (by decide +kernel) (by decide)
set_option maxRecDepth 20000 in
theorem u_X8_find_123 (l0 l1 l2 l3 : Option Value) (x : Int32) (st : List Value) (h : xH) : xf 124 123 [l0, l1, l2, l3] (.int x :: st) h = xf 124 124 [xcat l0, some (.int x), l2, l3] st h := xo_istore (k := 1) (by decide +kernel) (Nat.le_of_ble_eq_true rfl) rfl
set_option maxRecDepth 20000 in
theorem u_X8_find_124 (l0 l2 l3 : Option Value) (x : Int32) (st : List Value) (h : xH) : xf 124 124 [l0, some (.int x), l2, l3] st h = xf 124 125 [l0, some (.int x), l2, l3] (.int x :: st) h := xo_iload (k := 1) (by decide +kernel) rfl
set_option maxRecDepth 20000 in
theorem u_X8_find_125 (L : xL) (st : List Value) (h : xH) : xf 124 125 L st h = xf 124 127 L (.int 24 :: st) h := xo_iconst (k := 24) (by decide +kernel) (by decide)
set_option maxRecDepth 20000 in
theorem u_X8_find_127 (L : xL) (a b : Int32) (st : List Value) (h : xH) : xf 124 127 L (.int b :: .int a :: st) h = if a < b then xf 124 130 L st h else xf 124 197 L st h := xo_icmp_ge (t := 197) (by decide +kernel) rfl
set_option maxRecDepth 20000 in
theorem u_X8_find_130 (l1 l2 l3 : Option Value) (x : Nat) (st : List Value) (h : xH) : xf 124 130 [some (.ref x), l1, l2, l3] st h = xf 124 131 [some (.ref x), l1, l2, l3] (.ref x :: st) h := xo_aload (k := 0) (by decide +kernel) rfl
set_option maxRecDepth 20000 in
theorem u_X8_find_131 (L : xL) (a : Nat) (st : List Value) (h : xH) (hc : (xob h a).1 = 8) : xf 124 131 L (.ref a :: st) h = xf 124 134 L ((xob h a).2.getD 17 .null :: st) h := xo_getf (r := 529) (by decide +kernel) (by decide) hc
set_option maxRecDepth 20000 in
theorem u_X8_find_134 (L : xL) (a : Int32) (st : List Value) (h : xH) : xf 124 134 L (.int a :: st) h = if 0 < a then xf 124 137 L st h else xf 124 173 L st h := xo_if_le (t := 173) (by decide +kernel) rfl
set_option maxRecDepth 20000 in
theorem u_X8_find_137 (l1 l2 l3 : Option Value) (x : Nat) (st : List Value) (h : xH) : xf 124 137 [some (.ref x), l1, l2, l3] st h = xf 124 138 [some (.ref x), l1, l2, l3] (.ref x :: st) h := xo_aload (k := 0) (by decide +kernel) rfl
set_option maxRecDepth 20000 in
theorem u_X8_find_138 (l0 l2 l3 : Option Value) (x : Int32) (st : List Value) (h : xH) : xf 124 138 [l0, some (.int x), l2, l3] st h = xf 124 139 [l0, some (.int x), l2, l3] (.int x :: st) h := xo_iload (k := 1) (by decide +kernel) rfl
set_option maxRecDepth 20000 in
theorem u_X8_find_139 (L : xL) (v0 : Int32) (b : Nat) (st : List Value) (h : xH) (hb : (xob h b).1 = 8) (hl : st.length ≤ 4) : xf 124 139 L (.int v0 :: .ref b :: st) h = xgo 124 139 142 L st (xev 104 [.ref b, .int v0] h) := xo_callV (as := [.int v0]) (by decide +kernel) rfl ⟨(by decide +kernel : xna 104 = 1), Nat.le_of_ble_eq_true rfl, rfl, by decide⟩ hb hl
set_option maxRecDepth 20000 in
theorem u_X8_find_142 (L : xL) (a : Int32) (st : List Value) (h : xH) : xf 124 142 L (.int a :: st) h = if a = 0 then xf 124 173 L st h else xf 124 145 L st h := xo_if_eq (t := 173) (by decide +kernel) rfl
set_option maxRecDepth 20000 in
theorem u_X8_find_145 (l1 l2 l3 : Option Value) (x : Nat) (st : List Value) (h : xH) : xf 124 145 [some (.ref x), l1, l2, l3] st h = xf 124 146 [some (.ref x), l1, l2, l3] (.ref x :: st) h := xo_aload (k := 0) (by decide +kernel) rfl
set_option maxRecDepth 20000 in
theorem u_X8_find_146 (l0 l2 l3 : Option Value) (x : Int32) (st : List Value) (h : xH) : xf 124 146 [l0, some (.int x), l2, l3] st h = xf 124 147 [l0, some (.int x), l2, l3] (.int x :: st) h := xo_iload (k := 1) (by decide +kernel) rfl
set_option maxRecDepth 20000 in
theorem u_X8_find_147 (L : xL) (v0 : Int32) (b : Nat) (st : List Value) (h : xH) (hb : (xob h b).1 = 8) (hl : st.length ≤ 4) : xf 124 147 L (.int v0 :: .ref b :: st) h = xgo 124 147 150 L st (xev 105 [.ref b, .int v0] h) := xo_callV (as := [.int v0]) (by decide +kernel) rfl ⟨(by decide +kernel : xna 105 = 1), Nat.le_of_ble_eq_true rfl, rfl, by decide⟩ hb hl
set_option maxRecDepth 20000 in
theorem u_X8_find_150 (l1 l2 l3 : Option Value) (x : Nat) (st : List Value) (h : xH) : xf 124 150 [some (.ref x), l1, l2, l3] st h = xf 124 151 [some (.ref x), l1, l2, l3] (.ref x :: st) h := xo_aload (k := 0) (by decide +kernel) rfl
set_option maxRecDepth 20000 in
theorem u_X8_find_151 (L : xL) (a : Nat) (st : List Value) (h : xH) (hc : (xob h a).1 = 8) : xf 124 151 L (.ref a :: st) h = xf 124 154 L ((xob h a).2.getD 15 .null :: st) h := xo_getf (r := 527) (by decide +kernel) (by decide) hc
set_option maxRecDepth 20000 in
theorem u_X8_find_154 (L : xL) (a b : Int32) (st : List Value) (h : xH) : xf 124 154 L (.int b :: .int a :: st) h = if a = b then xf 124 157 L st h else xf 124 173 L st h := xo_icmp_ne (t := 173) (by decide +kernel) rfl
set_option maxRecDepth 20000 in
theorem u_X8_find_157 (l1 l2 l3 : Option Value) (x : Nat) (st : List Value) (h : xH) : xf 124 157 [some (.ref x), l1, l2, l3] st h = xf 124 158 [some (.ref x), l1, l2, l3] (.ref x :: st) h := xo_aload (k := 0) (by decide +kernel) rfl
set_option maxRecDepth 20000 in
theorem u_X8_find_158 (l0 l2 l3 : Option Value) (x : Int32) (st : List Value) (h : xH) : xf 124 158 [l0, some (.int x), l2, l3] st h = xf 124 159 [l0, some (.int x), l2, l3] (.int x :: st) h := xo_iload (k := 1) (by decide +kernel) rfl
set_option maxRecDepth 20000 in
theorem u_X8_find_159 (L : xL) (v0 : Int32) (b : Nat) (st : List Value) (h : xH) (hb : (xob h b).1 = 8) (hl : st.length ≤ 4) : xf 124 159 L (.int v0 :: .ref b :: st) h = xgo 124 159 162 L st (xev 106 [.ref b, .int v0] h) := xo_callV (as := [.int v0]) (by decide +kernel) rfl ⟨(by decide +kernel : xna 106 = 1), Nat.le_of_ble_eq_true rfl, rfl, by decide⟩ hb hl
set_option maxRecDepth 20000 in
theorem u_X8_find_162 (l1 l2 l3 : Option Value) (x : Nat) (st : List Value) (h : xH) : xf 124 162 [some (.ref x), l1, l2, l3] st h = xf 124 163 [some (.ref x), l1, l2, l3] (.ref x :: st) h := xo_aload (k := 0) (by decide +kernel) rfl
set_option maxRecDepth 20000 in
theorem u_X8_find_163 (L : xL) (a : Nat) (st : List Value) (h : xH) (hc : (xob h a).1 = 8) : xf 124 163 L (.ref a :: st) h = xf 124 166 L ((xob h a).2.getD 16 .null :: st) h := xo_getf (r := 528) (by decide +kernel) (by decide) hc
set_option maxRecDepth 20000 in
theorem u_X8_find_166 (L : xL) (a b : Int32) (st : List Value) (h : xH) : xf 124 166 L (.int b :: .int a :: st) h = if a = b then xf 124 169 L st h else xf 124 173 L st h := xo_icmp_ne (t := 173) (by decide +kernel) rfl
set_option maxRecDepth 20000 in
theorem u_X8_find_169 (L : xL) (st : List Value) (h : xH) : xf 124 169 L st h = xf 124 170 L (.int 1 :: st) h := xo_iconst (k := 1) (by decide +kernel) (by decide)
set_option maxRecDepth 20000 in
theorem u_X8_find_170 (L : xL) (st : List Value) (h : xH) : xf 124 170 L st h = xf 124 174 L st h := xo_goto (n := 173) (t := 174) (by decide +kernel) rfl
set_option maxRecDepth 20000 in
theorem u_X8_find_173 (L : xL) (st : List Value) (h : xH) : xf 124 173 L st h = xf 124 174 L (.int 0 :: st) h := xo_iconst (k := 0) (by decide +kernel) (by decide)
set_option maxRecDepth 20000 in
theorem u_X8_find_174 (l0 l1 l2 l3 : Option Value) (x : Int32) (st : List Value) (h : xH) : xf 124 174 [l0, l1, l2, l3] (.int x :: st) h = xf 124 175 [l0, xcat l1, some (.int x), l3] st h := xo_istore (k := 2) (by decide +kernel) (Nat.le_of_ble_eq_true rfl) rfl
set_option maxRecDepth 20000 in
theorem u_X8_find_175 (l1 l2 l3 : Option Value) (x : Nat) (st : List Value) (h : xH) : xf 124 175 [some (.ref x), l1, l2, l3] st h = xf 124 176 [some (.ref x), l1, l2, l3] (.ref x :: st) h := xo_aload (k := 0) (by decide +kernel) rfl
set_option maxRecDepth 20000 in
theorem u_X8_find_176 (l0 l1 l3 : Option Value) (x : Int32) (st : List Value) (h : xH) : xf 124 176 [l0, l1, some (.int x), l3] st h = xf 124 177 [l0, l1, some (.int x), l3] (.int x :: st) h := xo_iload (k := 2) (by decide +kernel) rfl
set_option maxRecDepth 20000 in
theorem u_X8_find_177 (L : xL) (a : Int32) (st : List Value) (h : xH) : xf 124 177 L (.int a :: st) h = if a = 0 then xf 124 184 L st h else xf 124 180 L st h := xo_if_eq (t := 184) (by decide +kernel) rfl
set_option maxRecDepth 20000 in
theorem u_X8_find_180 (l0 l2 l3 : Option Value) (x : Int32) (st : List Value) (h : xH) : xf 124 180 [l0, some (.int x), l2, l3] st h = xf 124 181 [l0, some (.int x), l2, l3] (.int x :: st) h := xo_iload (k := 1) (by decide +kernel) rfl
set_option maxRecDepth 20000 in
theorem u_X8_find_181 (L : xL) (st : List Value) (h : xH) : xf 124 181 L st h = xf 124 188 L st h := xo_goto (n := 184) (t := 188) (by decide +kernel) rfl
set_option maxRecDepth 20000 in
theorem u_X8_find_184 (l1 l2 l3 : Option Value) (x : Nat) (st : List Value) (h : xH) : xf 124 184 [some (.ref x), l1, l2, l3] st h = xf 124 185 [some (.ref x), l1, l2, l3] (.ref x :: st) h := xo_aload (k := 0) (by decide +kernel) rfl
set_option maxRecDepth 20000 in
theorem u_X8_find_185 (L : xL) (a : Nat) (st : List Value) (h : xH) (hc : (xob h a).1 = 8) : xf 124 185 L (.ref a :: st) h = xf 124 188 L ((xob h a).2.getD 18 .null :: st) h := xo_getf (r := 530) (by decide +kernel) (by decide) hc
set_option maxRecDepth 20000 in
theorem u_X8_find_188 (L : xL) (v : Int32) (a : Nat) (st : List Value) (h : xH) (hc : (xob h a).1 = 8) : xf 124 188 L (.int v :: .ref a :: st) h = xf 124 191 L st (xso h a 18 (.int v)) := xo_putf (r := 530) (by decide +kernel) (by decide) rfl hc
set_option maxRecDepth 20000 in
theorem u_X8_find_191 (l0 l2 l3 : Option Value) (x : Int32) (st : List Value) (h : xH) : xf 124 191 [l0, some (.int x), l2, l3] st h = xf 124 194 [xcat l0, some (.int (x + 1)), l2, l3] st h := xo_iinc (k := 1) (c := 1) (by decide +kernel) rfl (by decide) rfl
set_option maxRecDepth 20000 in
theorem u_X8_find_194 (L : xL) (st : List Value) (h : xH) : xf 124 194 L st h = xf 124 124 L st h := xo_goto (n := 197) (t := 124) (by decide +kernel) rfl
set_option maxRecDepth 20000 in
theorem u_X8_find_197 (L : xL) (h : xH) : xf 124 197 L [] h = some (.inl none, h) := xo_return (n := 198) (by decide +kernel) rfl
set_option maxRecDepth 20000 in
theorem e_X8_find (v0 : Nat) (h : xH) : xev 124 [.ref v0] h = xf 124 0 [some (.ref v0), none, none, none] [] h := rfl
set_option maxRecDepth 20000 in
theorem u_X8_step_0 (l1 l2 l3 : Option Value) (x : Nat) (st : List Value) (h : xH) : xf 125 0 [some (.ref x), l1, l2, l3] st h = xf 125 1 [some (.ref x), l1, l2, l3] (.ref x :: st) h := xo_aload (k := 0) (by decide +kernel) rfl
set_option maxRecDepth 20000 in
theorem u_X8_step_1 (L : xL) (b : Nat) (st : List Value) (h : xH) (hb : (xob h b).1 = 8) (hl : st.length ≤ 4) : xf 125 1 L (.ref b :: st) h = xgo 125 1 4 L st (xev 124 [.ref b] h) := xo_callV (as := []) (by decide +kernel) rfl ⟨(by decide +kernel : xna 124 = 0), Nat.le_of_ble_eq_true rfl, rfl, by decide⟩ hb hl
set_option maxRecDepth 20000 in
theorem u_X8_step_4 (l1 l2 l3 : Option Value) (x : Nat) (st : List Value) (h : xH) : xf 125 4 [some (.ref x), l1, l2, l3] st h = xf 125 5 [some (.ref x), l1, l2, l3] (.ref x :: st) h := xo_aload (k := 0) (by decide +kernel) rfl
set_option maxRecDepth 20000 in
theorem u_X8_step_5 (L : xL) (a : Nat) (st : List Value) (h : xH) (hc : (xob h a).1 = 8) : xf 125 5 L (.ref a :: st) h = xf 125 8 L ((xob h a).2.getD 18 .null :: st) h := xo_getf (r := 530) (by decide +kernel) (by decide) hc
set_option maxRecDepth 20000 in
theorem u_X8_step_8 (L : xL) (st : List Value) (h : xH) : xf 125 8 L st h = xf 125 9 L (.int (-1) :: st) h := xo_iconst (k := (-1)) (by decide +kernel) (by decide)
set_option maxRecDepth 20000 in
theorem u_X8_step_9 (L : xL) (a b : Int32) (st : List Value) (h : xH) : xf 125 9 L (.int b :: .int a :: st) h = if a = b then xf 125 12 L st h else xf 125 14 L st h := xo_icmp_ne (t := 14) (by decide +kernel) rfl
set_option maxRecDepth 20000 in
theorem u_X8_step_12 (L : xL) (st : List Value) (h : xH) : xf 125 12 L st h = xf 125 13 L (.int (-1) :: st) h := xo_iconst (k := (-1)) (by decide +kernel) (by decide)
set_option maxRecDepth 20000 in
theorem u_X8_step_13 (L : xL) (x : Int32) (h : xH) : xf 125 13 L [.int x] h = some (.inl (some (.int x)), h) := xo_ireturn (n := 14) (by decide +kernel) rfl
set_option maxRecDepth 20000 in
theorem u_X8_step_14 (l1 l2 l3 : Option Value) (x : Nat) (st : List Value) (h : xH) : xf 125 14 [some (.ref x), l1, l2, l3] st h = xf 125 15 [some (.ref x), l1, l2, l3] (.ref x :: st) h := xo_aload (k := 0) (by decide +kernel) rfl
set_option maxRecDepth 20000 in
theorem u_X8_step_15 (L : xL) (a : Nat) (st : List Value) (h : xH) (hc : (xob h a).1 = 8) : xf 125 15 L (.ref a :: st) h = xf 125 18 L ((xob h a).2.getD 1 .null :: st) h := xo_getf (r := 513) (by decide +kernel) (by decide) hc
set_option maxRecDepth 20000 in
theorem u_X8_step_18 (L : xL) (st : List Value) (h : xH) : xf 125 18 L st h = xf 125 20 L (.int 65 :: st) h := xo_iconst (k := 65) (by decide +kernel) (by decide)
set_option maxRecDepth 20000 in
theorem u_X8_step_20 (l1 l2 l3 : Option Value) (x : Nat) (st : List Value) (h : xH) : xf 125 20 [some (.ref x), l1, l2, l3] st h = xf 125 21 [some (.ref x), l1, l2, l3] (.ref x :: st) h := xo_aload (k := 0) (by decide +kernel) rfl
set_option maxRecDepth 20000 in
theorem u_X8_step_21 (L : xL) (a : Nat) (st : List Value) (h : xH) (hc : (xob h a).1 = 8) : xf 125 21 L (.ref a :: st) h = xf 125 24 L ((xob h a).2.getD 18 .null :: st) h := xo_getf (r := 530) (by decide +kernel) (by decide) hc
set_option maxRecDepth 20000 in
theorem u_X8_step_24 (L : xL) (a b : Int32) (st : List Value) (h : xH) : xf 125 24 L (.int b :: .int a :: st) h = xf 125 25 L (.int (a + b) :: st) h := xo_iadd (by decide +kernel)
set_option maxRecDepth 20000 in
theorem u_X8_step_25 (L : xL) (st : List Value) (h : xH) : xf 125 25 L st h = xf 125 27 L (.int 8 :: st) h := xo_iconst (k := 8) (by decide +kernel) (by decide)
set_option maxRecDepth 20000 in
theorem u_X8_step_27 (L : xL) (a b : Int32) (st : List Value) (h : xH) : xf 125 27 L (.int b :: .int a :: st) h = xf 125 28 L (.int (a - b) :: st) h := xo_isub (by decide +kernel)
set_option maxRecDepth 20000 in
theorem u_X8_step_28 (L : xL) (st : List Value) (h : xH) : xf 125 28 L st h = xf 125 29 L (.int 1 :: st) h := xo_iconst (k := 1) (by decide +kernel) (by decide)
set_option maxRecDepth 20000 in
theorem u_X8_step_29 (L : xL) (v i : Int32) (a : Nat) (st : List Value) (h : xH) (hx : xix i (xai h a).1) : xf 125 29 L (.int v :: .int i :: .ref a :: st) h = xf 125 30 L st (xsi h a i.toNatClampNeg v) := xo_iastore (by decide +kernel) hx
set_option maxRecDepth 20000 in
theorem u_X8_step_30 (l1 l2 l3 : Option Value) (x : Nat) (st : List Value) (h : xH) : xf 125 30 [some (.ref x), l1, l2, l3] st h = xf 125 31 [some (.ref x), l1, l2, l3] (.ref x :: st) h := xo_aload (k := 0) (by decide +kernel) rfl
set_option maxRecDepth 20000 in
theorem u_X8_step_31 (L : xL) (a : Nat) (st : List Value) (h : xH) (hc : (xob h a).1 = 8) : xf 125 31 L (.ref a :: st) h = xf 125 34 L ((xob h a).2.getD 1 .null :: st) h := xo_getf (r := 513) (by decide +kernel) (by decide) hc
set_option maxRecDepth 20000 in
theorem u_X8_step_34 (L : xL) (st : List Value) (h : xH) : xf 125 34 L st h = xf 125 36 L (.int 81 :: st) h := xo_iconst (k := 81) (by decide +kernel) (by decide)
set_option maxRecDepth 20000 in
theorem u_X8_step_36 (l1 l2 l3 : Option Value) (x : Nat) (st : List Value) (h : xH) : xf 125 36 [some (.ref x), l1, l2, l3] st h = xf 125 37 [some (.ref x), l1, l2, l3] (.ref x :: st) h := xo_aload (k := 0) (by decide +kernel) rfl
set_option maxRecDepth 20000 in
theorem u_X8_step_37 (L : xL) (a : Nat) (st : List Value) (h : xH) (hc : (xob h a).1 = 8) : xf 125 37 L (.ref a :: st) h = xf 125 40 L ((xob h a).2.getD 18 .null :: st) h := xo_getf (r := 530) (by decide +kernel) (by decide) hc
set_option maxRecDepth 20000 in
theorem u_X8_step_40 (L : xL) (a b : Int32) (st : List Value) (h : xH) : xf 125 40 L (.int b :: .int a :: st) h = xf 125 41 L (.int (a + b) :: st) h := xo_iadd (by decide +kernel)
set_option maxRecDepth 20000 in
theorem u_X8_step_41 (L : xL) (st : List Value) (h : xH) : xf 125 41 L st h = xf 125 43 L (.int 8 :: st) h := xo_iconst (k := 8) (by decide +kernel) (by decide)
set_option maxRecDepth 20000 in
theorem u_X8_step_43 (L : xL) (a b : Int32) (st : List Value) (h : xH) : xf 125 43 L (.int b :: .int a :: st) h = xf 125 44 L (.int (a - b) :: st) h := xo_isub (by decide +kernel)
set_option maxRecDepth 20000 in
theorem u_X8_step_44 (l1 l2 l3 : Option Value) (x : Nat) (st : List Value) (h : xH) : xf 125 44 [some (.ref x), l1, l2, l3] st h = xf 125 45 [some (.ref x), l1, l2, l3] (.ref x :: st) h := xo_aload (k := 0) (by decide +kernel) rfl
set_option maxRecDepth 20000 in
theorem u_X8_step_45 (L : xL) (a : Nat) (st : List Value) (h : xH) (hc : (xob h a).1 = 8) : xf 125 45 L (.ref a :: st) h = xf 125 48 L ((xob h a).2.getD 15 .null :: st) h := xo_getf (r := 527) (by decide +kernel) (by decide) hc
set_option maxRecDepth 20000 in
theorem u_X8_step_48 (L : xL) (v i : Int32) (a : Nat) (st : List Value) (h : xH) (hx : xix i (xai h a).1) : xf 125 48 L (.int v :: .int i :: .ref a :: st) h = xf 125 49 L st (xsi h a i.toNatClampNeg v) := xo_iastore (by decide +kernel) hx
set_option maxRecDepth 20000 in
theorem u_X8_step_49 (l1 l2 l3 : Option Value) (x : Nat) (st : List Value) (h : xH) : xf 125 49 [some (.ref x), l1, l2, l3] st h = xf 125 50 [some (.ref x), l1, l2, l3] (.ref x :: st) h := xo_aload (k := 0) (by decide +kernel) rfl
set_option maxRecDepth 20000 in
theorem u_X8_step_50 (L : xL) (a : Nat) (st : List Value) (h : xH) (hc : (xob h a).1 = 8) : xf 125 50 L (.ref a :: st) h = xf 125 53 L ((xob h a).2.getD 1 .null :: st) h := xo_getf (r := 513) (by decide +kernel) (by decide) hc
set_option maxRecDepth 20000 in
theorem u_X8_step_53 (L : xL) (st : List Value) (h : xH) : xf 125 53 L st h = xf 125 55 L (.int 97 :: st) h := xo_iconst (k := 97) (by decide +kernel) (by decide)
set_option maxRecDepth 20000 in
theorem u_X8_step_55 (l1 l2 l3 : Option Value) (x : Nat) (st : List Value) (h : xH) : xf 125 55 [some (.ref x), l1, l2, l3] st h = xf 125 56 [some (.ref x), l1, l2, l3] (.ref x :: st) h := xo_aload (k := 0) (by decide +kernel) rfl
set_option maxRecDepth 20000 in
theorem u_X8_step_56 (L : xL) (a : Nat) (st : List Value) (h : xH) (hc : (xob h a).1 = 8) : xf 125 56 L (.ref a :: st) h = xf 125 59 L ((xob h a).2.getD 18 .null :: st) h := xo_getf (r := 530) (by decide +kernel) (by decide) hc
set_option maxRecDepth 20000 in
theorem u_X8_step_59 (L : xL) (a b : Int32) (st : List Value) (h : xH) : xf 125 59 L (.int b :: .int a :: st) h = xf 125 60 L (.int (a + b) :: st) h := xo_iadd (by decide +kernel)
set_option maxRecDepth 20000 in
theorem u_X8_step_60 (L : xL) (st : List Value) (h : xH) : xf 125 60 L st h = xf 125 62 L (.int 8 :: st) h := xo_iconst (k := 8) (by decide +kernel) (by decide)
set_option maxRecDepth 20000 in
theorem u_X8_step_62 (L : xL) (a b : Int32) (st : List Value) (h : xH) : xf 125 62 L (.int b :: .int a :: st) h = xf 125 63 L (.int (a - b) :: st) h := xo_isub (by decide +kernel)
set_option maxRecDepth 20000 in
theorem u_X8_step_63 (l1 l2 l3 : Option Value) (x : Nat) (st : List Value) (h : xH) : xf 125 63 [some (.ref x), l1, l2, l3] st h = xf 125 64 [some (.ref x), l1, l2, l3] (.ref x :: st) h := xo_aload (k := 0) (by decide +kernel) rfl
set_option maxRecDepth 20000 in
theorem u_X8_step_64 (L : xL) (a : Nat) (st : List Value) (h : xH) (hc : (xob h a).1 = 8) : xf 125 64 L (.ref a :: st) h = xf 125 67 L ((xob h a).2.getD 16 .null :: st) h := xo_getf (r := 528) (by decide +kernel) (by decide) hc
set_option maxRecDepth 20000 in
theorem u_X8_step_67 (L : xL) (v i : Int32) (a : Nat) (st : List Value) (h : xH) (hx : xix i (xai h a).1) : xf 125 67 L (.int v :: .int i :: .ref a :: st) h = xf 125 68 L st (xsi h a i.toNatClampNeg v) := xo_iastore (by decide +kernel) hx
set_option maxRecDepth 20000 in
theorem u_X8_step_68 (L : xL) (st : List Value) (h : xH) : xf 125 68 L st h = xf 125 69 L (.int 0 :: st) h := xo_iconst (k := 0) (by decide +kernel) (by decide)
set_option maxRecDepth 20000 in
theorem u_X8_step_69 (l0 l1 l2 l3 : Option Value) (x : Int32) (st : List Value) (h : xH) : xf 125 69 [l0, l1, l2, l3] (.int x :: st) h = xf 125 70 [xcat l0, some (.int x), l2, l3] st h := xo_istore (k := 1) (by decide +kernel) (Nat.le_of_ble_eq_true rfl) rfl
set_option maxRecDepth 20000 in
theorem u_X8_step_70 (L : xL) (st : List Value) (h : xH) : xf 125 70 L st h = xf 125 71 L (.int 0 :: st) h := xo_iconst (k := 0) (by decide +kernel) (by decide)
set_option maxRecDepth 20000 in
theorem u_X8_step_71 (l0 l1 l2 l3 : Option Value) (x : Int32) (st : List Value) (h : xH) : xf 125 71 [l0, l1, l2, l3] (.int x :: st) h = xf 125 72 [l0, xcat l1, some (.int x), l3] st h := xo_istore (k := 2) (by decide +kernel) (Nat.le_of_ble_eq_true rfl) rfl
set_option maxRecDepth 20000 in
theorem u_X8_step_72 (l0 l1 l3 : Option Value) (x : Int32) (st : List Value) (h : xH) : xf 125 72 [l0, l1, some (.int x), l3] st h = xf 125 73 [l0, l1, some (.int x), l3] (.int x :: st) h := xo_iload (k := 2) (by decide +kernel) rfl
set_option maxRecDepth 20000 in
theorem u_X8_step_73 (l1 l2 l3 : Option Value) (x : Nat) (st : List Value) (h : xH) : xf 125 73 [some (.ref x), l1, l2, l3] st h = xf 125 74 [some (.ref x), l1, l2, l3] (.ref x :: st) h := xo_aload (k := 0) (by decide +kernel) rfl
set_option maxRecDepth 20000 in
theorem u_X8_step_74 (L : xL) (a : Nat) (st : List Value) (h : xH) (hc : (xob h a).1 = 8) : xf 125 74 L (.ref a :: st) h = xf 125 77 L ((xob h a).2.getD 1 .null :: st) h := xo_getf (r := 513) (by decide +kernel) (by decide) hc
set_option maxRecDepth 20000 in
theorem u_X8_step_77 (L : xL) (st : List Value) (h : xH) : xf 125 77 L st h = xf 125 78 L (.int 0 :: st) h := xo_iconst (k := 0) (by decide +kernel) (by decide)
set_option maxRecDepth 20000 in
theorem u_X8_step_78 (L : xL) (i : Int32) (a : Nat) (st : List Value) (h : xH) (hx : xix i (xai h a).1) : xf 125 78 L (.int i :: .ref a :: st) h = xf 125 79 L (.int ((xai h a).2 i.toNatClampNeg) :: st) h := xo_iaload (by decide +kernel) hx
set_option maxRecDepth 20000 in
theorem u_X8_step_79 (L : xL) (a b : Int32) (st : List Value) (h : xH) : xf 125 79 L (.int b :: .int a :: st) h = if a < b then xf 125 82 L st h else xf 125 177 L st h := xo_icmp_ge (t := 177) (by decide +kernel) rfl
set_option maxRecDepth 20000 in
theorem u_X8_step_82 (l0 l1 l3 : Option Value) (x : Int32) (st : List Value) (h : xH) : xf 125 82 [l0, l1, some (.int x), l3] st h = xf 125 83 [l0, l1, some (.int x), l3] (.int x :: st) h := xo_iload (k := 2) (by decide +kernel) rfl
set_option maxRecDepth 20000 in
theorem u_X8_step_83 (L : xL) (st : List Value) (h : xH) : xf 125 83 L st h = xf 125 84 L (.int 1 :: st) h := xo_iconst (k := 1) (by decide +kernel) (by decide)
set_option maxRecDepth 20000 in
theorem u_X8_step_84 (L : xL) (a b : Int32) (st : List Value) (h : xH) : xf 125 84 L (.int b :: .int a :: st) h = xf 125 85 L (.int (a + b) :: st) h := xo_iadd (by decide +kernel)
set_option maxRecDepth 20000 in
theorem u_X8_step_85 (l1 l2 l3 : Option Value) (x : Nat) (st : List Value) (h : xH) : xf 125 85 [some (.ref x), l1, l2, l3] st h = xf 125 86 [some (.ref x), l1, l2, l3] (.ref x :: st) h := xo_aload (k := 0) (by decide +kernel) rfl
set_option maxRecDepth 20000 in
theorem u_X8_step_86 (L : xL) (a : Nat) (st : List Value) (h : xH) (hc : (xob h a).1 = 8) : xf 125 86 L (.ref a :: st) h = xf 125 89 L ((xob h a).2.getD 1 .null :: st) h := xo_getf (r := 513) (by decide +kernel) (by decide) hc
set_option maxRecDepth 20000 in
theorem u_X8_step_89 (L : xL) (st : List Value) (h : xH) : xf 125 89 L st h = xf 125 90 L (.int 0 :: st) h := xo_iconst (k := 0) (by decide +kernel) (by decide)
set_option maxRecDepth 20000 in
theorem u_X8_step_90 (L : xL) (i : Int32) (a : Nat) (st : List Value) (h : xH) (hx : xix i (xai h a).1) : xf 125 90 L (.int i :: .ref a :: st) h = xf 125 91 L (.int ((xai h a).2 i.toNatClampNeg) :: st) h := xo_iaload (by decide +kernel) hx
set_option maxRecDepth 20000 in
theorem u_X8_step_91 (L : xL) (a b : Int32) (st : List Value) (h : xH) : xf 125 91 L (.int b :: .int a :: st) h = if a < b then xf 125 94 L st h else xf 125 130 L st h := xo_icmp_ge (t := 130) (by decide +kernel) rfl
set_option maxRecDepth 20000 in
theorem u_X8_step_94 (l1 l2 l3 : Option Value) (x : Nat) (st : List Value) (h : xH) : xf 125 94 [some (.ref x), l1, l2, l3] st h = xf 125 95 [some (.ref x), l1, l2, l3] (.ref x :: st) h := xo_aload (k := 0) (by decide +kernel) rfl
set_option maxRecDepth 20000 in
theorem u_X8_step_95 (L : xL) (a : Nat) (st : List Value) (h : xH) (hc : (xob h a).1 = 8) : xf 125 95 L (.ref a :: st) h = xf 125 98 L ((xob h a).2.getD 1 .null :: st) h := xo_getf (r := 513) (by decide +kernel) (by decide) hc
set_option maxRecDepth 20000 in
theorem u_X8_step_98 (L : xL) (st : List Value) (h : xH) : xf 125 98 L st h = xf 125 99 L (.int 1 :: st) h := xo_iconst (k := 1) (by decide +kernel) (by decide)
set_option maxRecDepth 20000 in
theorem u_X8_step_99 (l0 l1 l3 : Option Value) (x : Int32) (st : List Value) (h : xH) : xf 125 99 [l0, l1, some (.int x), l3] st h = xf 125 100 [l0, l1, some (.int x), l3] (.int x :: st) h := xo_iload (k := 2) (by decide +kernel) rfl
set_option maxRecDepth 20000 in
theorem u_X8_step_100 (L : xL) (a b : Int32) (st : List Value) (h : xH) : xf 125 100 L (.int b :: .int a :: st) h = xf 125 101 L (.int (a + b) :: st) h := xo_iadd (by decide +kernel)
set_option maxRecDepth 20000 in
theorem u_X8_step_101 (L : xL) (i : Int32) (a : Nat) (st : List Value) (h : xH) (hx : xix i (xai h a).1) : xf 125 101 L (.int i :: .ref a :: st) h = xf 125 102 L (.int ((xai h a).2 i.toNatClampNeg) :: st) h := xo_iaload (by decide +kernel) hx
set_option maxRecDepth 20000 in
theorem u_X8_step_102 (l1 l2 l3 : Option Value) (x : Nat) (st : List Value) (h : xH) : xf 125 102 [some (.ref x), l1, l2, l3] st h = xf 125 103 [some (.ref x), l1, l2, l3] (.ref x :: st) h := xo_aload (k := 0) (by decide +kernel) rfl
set_option maxRecDepth 20000 in
theorem u_X8_step_103 (L : xL) (a : Nat) (st : List Value) (h : xH) (hc : (xob h a).1 = 8) : xf 125 103 L (.ref a :: st) h = xf 125 106 L ((xob h a).2.getD 15 .null :: st) h := xo_getf (r := 527) (by decide +kernel) (by decide) hc
set_option maxRecDepth 20000 in
theorem u_X8_step_106 (L : xL) (a b : Int32) (st : List Value) (h : xH) : xf 125 106 L (.int b :: .int a :: st) h = if a = b then xf 125 109 L st h else xf 125 130 L st h := xo_icmp_ne (t := 130) (by decide +kernel) rfl
set_option maxRecDepth 20000 in
theorem u_X8_step_109 (l1 l2 l3 : Option Value) (x : Nat) (st : List Value) (h : xH) : xf 125 109 [some (.ref x), l1, l2, l3] st h = xf 125 110 [some (.ref x), l1, l2, l3] (.ref x :: st) h := xo_aload (k := 0) (by decide +kernel) rfl
set_option maxRecDepth 20000 in
theorem u_X8_step_110 (L : xL) (a : Nat) (st : List Value) (h : xH) (hc : (xob h a).1 = 8) : xf 125 110 L (.ref a :: st) h = xf 125 113 L ((xob h a).2.getD 1 .null :: st) h := xo_getf (r := 513) (by decide +kernel) (by decide) hc
set_option maxRecDepth 20000 in
theorem u_X8_step_113 (L : xL) (st : List Value) (h : xH) : xf 125 113 L st h = xf 125 114 L (.int 1 :: st) h := xo_iconst (k := 1) (by decide +kernel) (by decide)
set_option maxRecDepth 20000 in
theorem u_X8_step_114 (l0 l1 l3 : Option Value) (x : Int32) (st : List Value) (h : xH) : xf 125 114 [l0, l1, some (.int x), l3] st h = xf 125 115 [l0, l1, some (.int x), l3] (.int x :: st) h := xo_iload (k := 2) (by decide +kernel) rfl
set_option maxRecDepth 20000 in
theorem u_X8_step_115 (L : xL) (a b : Int32) (st : List Value) (h : xH) : xf 125 115 L (.int b :: .int a :: st) h = xf 125 116 L (.int (a + b) :: st) h := xo_iadd (by decide +kernel)
set_option maxRecDepth 20000 in
theorem u_X8_step_116 (L : xL) (st : List Value) (h : xH) : xf 125 116 L st h = xf 125 117 L (.int 1 :: st) h := xo_iconst (k := 1) (by decide +kernel) (by decide)
set_option maxRecDepth 20000 in
theorem u_X8_step_117 (L : xL) (a b : Int32) (st : List Value) (h : xH) : xf 125 117 L (.int b :: .int a :: st) h = xf 125 118 L (.int (a + b) :: st) h := xo_iadd (by decide +kernel)
set_option maxRecDepth 20000 in
theorem u_X8_step_118 (L : xL) (i : Int32) (a : Nat) (st : List Value) (h : xH) (hx : xix i (xai h a).1) : xf 125 118 L (.int i :: .ref a :: st) h = xf 125 119 L (.int ((xai h a).2 i.toNatClampNeg) :: st) h := xo_iaload (by decide +kernel) hx
set_option maxRecDepth 20000 in
theorem u_X8_step_119 (l1 l2 l3 : Option Value) (x : Nat) (st : List Value) (h : xH) : xf 125 119 [some (.ref x), l1, l2, l3] st h = xf 125 120 [some (.ref x), l1, l2, l3] (.ref x :: st) h := xo_aload (k := 0) (by decide +kernel) rfl
set_option maxRecDepth 20000 in
theorem u_X8_step_120 (L : xL) (a : Nat) (st : List Value) (h : xH) (hc : (xob h a).1 = 8) : xf 125 120 L (.ref a :: st) h = xf 125 123 L ((xob h a).2.getD 16 .null :: st) h := xo_getf (r := 528) (by decide +kernel) (by decide) hc
set_option maxRecDepth 20000 in
theorem u_X8_step_123 (L : xL) (a b : Int32) (st : List Value) (h : xH) : xf 125 123 L (.int b :: .int a :: st) h = if a = b then xf 125 126 L st h else xf 125 130 L st h := xo_icmp_ne (t := 130) (by decide +kernel) rfl
set_option maxRecDepth 20000 in
theorem u_X8_step_126 (L : xL) (st : List Value) (h : xH) : xf 125 126 L st h = xf 125 127 L (.int 1 :: st) h := xo_iconst (k := 1) (by decide +kernel) (by decide)
set_option maxRecDepth 20000 in
theorem u_X8_step_127 (L : xL) (st : List Value) (h : xH) : xf 125 127 L st h = xf 125 131 L st h := xo_goto (n := 130) (t := 131) (by decide +kernel) rfl
set_option maxRecDepth 20000 in
theorem u_X8_step_130 (L : xL) (st : List Value) (h : xH) : xf 125 130 L st h = xf 125 131 L (.int 0 :: st) h := xo_iconst (k := 0) (by decide +kernel) (by decide)
set_option maxRecDepth 20000 in
theorem u_X8_step_131 (l0 l1 l2 l3 : Option Value) (x : Int32) (st : List Value) (h : xH) : xf 125 131 [l0, l1, l2, l3] (.int x :: st) h = xf 125 132 [l0, l1, xcat l2, some (.int x)] st h := xo_istore (k := 3) (by decide +kernel) (Nat.le_of_ble_eq_true rfl) rfl
set_option maxRecDepth 20000 in
theorem u_X8_step_132 (l1 l2 l3 : Option Value) (x : Nat) (st : List Value) (h : xH) : xf 125 132 [some (.ref x), l1, l2, l3] st h = xf 125 133 [some (.ref x), l1, l2, l3] (.ref x :: st) h := xo_aload (k := 0) (by decide +kernel) rfl
set_option maxRecDepth 20000 in
theorem u_X8_step_133 (L : xL) (a : Nat) (st : List Value) (h : xH) (hc : (xob h a).1 = 8) : xf 125 133 L (.ref a :: st) h = xf 125 136 L ((xob h a).2.getD 1 .null :: st) h := xo_getf (r := 513) (by decide +kernel) (by decide) hc
set_option maxRecDepth 20000 in
theorem u_X8_step_136 (L : xL) (st : List Value) (h : xH) : xf 125 136 L st h = xf 125 137 L (.int 1 :: st) h := xo_iconst (k := 1) (by decide +kernel) (by decide)
set_option maxRecDepth 20000 in
theorem u_X8_step_137 (l0 l2 l3 : Option Value) (x : Int32) (st : List Value) (h : xH) : xf 125 137 [l0, some (.int x), l2, l3] st h = xf 125 138 [l0, some (.int x), l2, l3] (.int x :: st) h := xo_iload (k := 1) (by decide +kernel) rfl
set_option maxRecDepth 20000 in
theorem u_X8_step_138 (L : xL) (a b : Int32) (st : List Value) (h : xH) : xf 125 138 L (.int b :: .int a :: st) h = xf 125 139 L (.int (a + b) :: st) h := xo_iadd (by decide +kernel)
set_option maxRecDepth 20000 in
theorem u_X8_step_139 (l0 l1 l2 : Option Value) (x : Int32) (st : List Value) (h : xH) : xf 125 139 [l0, l1, l2, some (.int x)] st h = xf 125 140 [l0, l1, l2, some (.int x)] (.int x :: st) h := xo_iload (k := 3) (by decide +kernel) rfl
set_option maxRecDepth 20000 in
theorem u_X8_step_140 (L : xL) (a : Int32) (st : List Value) (h : xH) : xf 125 140 L (.int a :: st) h = if a = 0 then xf 125 150 L st h else xf 125 143 L st h := xo_if_eq (t := 150) (by decide +kernel) rfl
set_option maxRecDepth 20000 in
theorem u_X8_step_143 (l1 l2 l3 : Option Value) (x : Nat) (st : List Value) (h : xH) : xf 125 143 [some (.ref x), l1, l2, l3] st h = xf 125 144 [some (.ref x), l1, l2, l3] (.ref x :: st) h := xo_aload (k := 0) (by decide +kernel) rfl
set_option maxRecDepth 20000 in
theorem u_X8_step_144 (L : xL) (a : Nat) (st : List Value) (h : xH) (hc : (xob h a).1 = 8) : xf 125 144 L (.ref a :: st) h = xf 125 147 L ((xob h a).2.getD 18 .null :: st) h := xo_getf (r := 530) (by decide +kernel) (by decide) hc
set_option maxRecDepth 20000 in
theorem u_X8_step_147 (L : xL) (st : List Value) (h : xH) : xf 125 147 L st h = xf 125 158 L st h := xo_goto (n := 150) (t := 158) (by decide +kernel) rfl
set_option maxRecDepth 20000 in
theorem u_X8_step_150 (l1 l2 l3 : Option Value) (x : Nat) (st : List Value) (h : xH) : xf 125 150 [some (.ref x), l1, l2, l3] st h = xf 125 151 [some (.ref x), l1, l2, l3] (.ref x :: st) h := xo_aload (k := 0) (by decide +kernel) rfl
set_option maxRecDepth 20000 in
theorem u_X8_step_151 (L : xL) (a : Nat) (st : List Value) (h : xH) (hc : (xob h a).1 = 8) : xf 125 151 L (.ref a :: st) h = xf 125 154 L ((xob h a).2.getD 1 .null :: st) h := xo_getf (r := 513) (by decide +kernel) (by decide) hc
set_option maxRecDepth 20000 in
theorem u_X8_step_154 (L : xL) (st : List Value) (h : xH) : xf 125 154 L st h = xf 125 155 L (.int 1 :: st) h := xo_iconst (k := 1) (by decide +kernel) (by decide)
set_option maxRecDepth 20000 in
theorem u_X8_step_155 (l0 l1 l3 : Option Value) (x : Int32) (st : List Value) (h : xH) : xf 125 155 [l0, l1, some (.int x), l3] st h = xf 125 156 [l0, l1, some (.int x), l3] (.int x :: st) h := xo_iload (k := 2) (by decide +kernel) rfl
set_option maxRecDepth 20000 in
theorem u_X8_step_156 (L : xL) (a b : Int32) (st : List Value) (h : xH) : xf 125 156 L (.int b :: .int a :: st) h = xf 125 157 L (.int (a + b) :: st) h := xo_iadd (by decide +kernel)
set_option maxRecDepth 20000 in
theorem u_X8_step_157 (L : xL) (i : Int32) (a : Nat) (st : List Value) (h : xH) (hx : xix i (xai h a).1) : xf 125 157 L (.int i :: .ref a :: st) h = xf 125 158 L (.int ((xai h a).2 i.toNatClampNeg) :: st) h := xo_iaload (by decide +kernel) hx
set_option maxRecDepth 20000 in
theorem u_X8_step_158 (L : xL) (v i : Int32) (a : Nat) (st : List Value) (h : xH) (hx : xix i (xai h a).1) : xf 125 158 L (.int v :: .int i :: .ref a :: st) h = xf 125 159 L st (xsi h a i.toNatClampNeg v) := xo_iastore (by decide +kernel) hx
set_option maxRecDepth 20000 in
theorem u_X8_step_159 (l0 l2 l3 : Option Value) (x : Int32) (st : List Value) (h : xH) : xf 125 159 [l0, some (.int x), l2, l3] st h = xf 125 162 [xcat l0, some (.int (x + 1)), l2, l3] st h := xo_iinc (k := 1) (c := 1) (by decide +kernel) rfl (by decide) rfl
set_option maxRecDepth 20000 in
theorem u_X8_step_162 (l0 l1 l3 : Option Value) (x : Int32) (st : List Value) (h : xH) : xf 125 162 [l0, l1, some (.int x), l3] st h = xf 125 163 [l0, l1, some (.int x), l3] (.int x :: st) h := xo_iload (k := 2) (by decide +kernel) rfl
set_option maxRecDepth 20000 in
theorem u_X8_step_163 (l0 l1 l2 : Option Value) (x : Int32) (st : List Value) (h : xH) : xf 125 163 [l0, l1, l2, some (.int x)] st h = xf 125 164 [l0, l1, l2, some (.int x)] (.int x :: st) h := xo_iload (k := 3) (by decide +kernel) rfl
set_option maxRecDepth 20000 in
theorem u_X8_step_164 (L : xL) (a : Int32) (st : List Value) (h : xH) : xf 125 164 L (.int a :: st) h = if a = 0 then xf 125 171 L st h else xf 125 167 L st h := xo_if_eq (t := 171) (by decide +kernel) rfl
set_option maxRecDepth 20000 in
theorem u_X8_step_167 (L : xL) (st : List Value) (h : xH) : xf 125 167 L st h = xf 125 168 L (.int 2 :: st) h := xo_iconst (k := 2) (by decide +kernel) (by decide)
set_option maxRecDepth 20000 in
theorem u_X8_step_168 (L : xL) (st : List Value) (h : xH) : xf 125 168 L st h = xf 125 172 L st h := xo_goto (n := 171) (t := 172) (by decide +kernel) rfl
set_option maxRecDepth 20000 in
theorem u_X8_step_171 (L : xL) (st : List Value) (h : xH) : xf 125 171 L st h = xf 125 172 L (.int 1 :: st) h := xo_iconst (k := 1) (by decide +kernel) (by decide)
set_option maxRecDepth 20000 in
theorem u_X8_step_172 (L : xL) (a b : Int32) (st : List Value) (h : xH) : xf 125 172 L (.int b :: .int a :: st) h = xf 125 173 L (.int (a + b) :: st) h := xo_iadd (by decide +kernel)
set_option maxRecDepth 20000 in
theorem u_X8_step_173 (l0 l1 l2 l3 : Option Value) (x : Int32) (st : List Value) (h : xH) : xf 125 173 [l0, l1, l2, l3] (.int x :: st) h = xf 125 174 [l0, xcat l1, some (.int x), l3] st h := xo_istore (k := 2) (by decide +kernel) (Nat.le_of_ble_eq_true rfl) rfl
set_option maxRecDepth 20000 in
theorem u_X8_step_174 (L : xL) (st : List Value) (h : xH) : xf 125 174 L st h = xf 125 72 L st h := xo_goto (n := 177) (t := 72) (by decide +kernel) rfl
set_option maxRecDepth 20000 in
theorem u_X8_step_177 (l1 l2 l3 : Option Value) (x : Nat) (st : List Value) (h : xH) : xf 125 177 [some (.ref x), l1, l2, l3] st h = xf 125 178 [some (.ref x), l1, l2, l3] (.ref x :: st) h := xo_aload (k := 0) (by decide +kernel) rfl
set_option maxRecDepth 20000 in
theorem u_X8_step_178 (L : xL) (a : Nat) (st : List Value) (h : xH) (hc : (xob h a).1 = 8) : xf 125 178 L (.ref a :: st) h = xf 125 181 L ((xob h a).2.getD 1 .null :: st) h := xo_getf (r := 513) (by decide +kernel) (by decide) hc
set_option maxRecDepth 20000 in
theorem u_X8_step_181 (L : xL) (st : List Value) (h : xH) : xf 125 181 L st h = xf 125 182 L (.int 0 :: st) h := xo_iconst (k := 0) (by decide +kernel) (by decide)
set_option maxRecDepth 20000 in
theorem u_X8_step_182 (l0 l2 l3 : Option Value) (x : Int32) (st : List Value) (h : xH) : xf 125 182 [l0, some (.int x), l2, l3] st h = xf 125 183 [l0, some (.int x), l2, l3] (.int x :: st) h := xo_iload (k := 1) (by decide +kernel) rfl
set_option maxRecDepth 20000 in
theorem u_X8_step_183 (L : xL) (v i : Int32) (a : Nat) (st : List Value) (h : xH) (hx : xix i (xai h a).1) : xf 125 183 L (.int v :: .int i :: .ref a :: st) h = xf 125 184 L st (xsi h a i.toNatClampNeg v) := xo_iastore (by decide +kernel) hx
set_option maxRecDepth 20000 in
theorem u_X8_step_184 (l1 l2 l3 : Option Value) (x : Nat) (st : List Value) (h : xH) : xf 125 184 [some (.ref x), l1, l2, l3] st h = xf 125 185 [some (.ref x), l1, l2, l3] (.ref x :: st) h := xo_aload (k := 0) (by decide +kernel) rfl
set_option maxRecDepth 20000 in
theorem u_X8_step_185 (L : xL) (a : Nat) (st : List Value) (h : xH) (hc : (xob h a).1 = 8) : xf 125 185 L (.ref a :: st) h = xf 125 188 L ((xob h a).2.getD 1 .null :: st) h := xo_getf (r := 513) (by decide +kernel) (by decide) hc
set_option maxRecDepth 20000 in
theorem u_X8_step_188 (L : xL) (st : List Value) (h : xH) : xf 125 188 L st h = xf 125 190 L (.int 115 :: st) h := xo_iconst (k := 115) (by decide +kernel) (by decide)
set_option maxRecDepth 20000 in
theorem u_X8_step_190 (L : xL) (a : Int32) (b : Nat) (st : List Value) (h : xH) : xf 125 190 L (.int a :: .ref b :: st) h = xf 125 191 L (.int a :: .ref b :: .int a :: .ref b :: st) h := xo_dup2 (by decide +kernel)
set_option maxRecDepth 20000 in
theorem u_X8_step_191 (L : xL) (i : Int32) (a : Nat) (st : List Value) (h : xH) (hx : xix i (xai h a).1) : xf 125 191 L (.int i :: .ref a :: st) h = xf 125 192 L (.int ((xai h a).2 i.toNatClampNeg) :: st) h := xo_iaload (by decide +kernel) hx
set_option maxRecDepth 20000 in
theorem u_X8_step_192 (L : xL) (st : List Value) (h : xH) : xf 125 192 L st h = xf 125 193 L (.int 1 :: st) h := xo_iconst (k := 1) (by decide +kernel) (by decide)
set_option maxRecDepth 20000 in
theorem u_X8_step_193 (L : xL) (a b : Int32) (st : List Value) (h : xH) : xf 125 193 L (.int b :: .int a :: st) h = xf 125 194 L (.int (a + b) :: st) h := xo_iadd (by decide +kernel)
set_option maxRecDepth 20000 in
theorem u_X8_step_194 (L : xL) (v i : Int32) (a : Nat) (st : List Value) (h : xH) (hx : xix i (xai h a).1) : xf 125 194 L (.int v :: .int i :: .ref a :: st) h = xf 125 195 L st (xsi h a i.toNatClampNeg v) := xo_iastore (by decide +kernel) hx
set_option maxRecDepth 20000 in
theorem u_X8_step_195 (l1 l2 l3 : Option Value) (x : Nat) (st : List Value) (h : xH) : xf 125 195 [some (.ref x), l1, l2, l3] st h = xf 125 196 [some (.ref x), l1, l2, l3] (.ref x :: st) h := xo_aload (k := 0) (by decide +kernel) rfl
set_option maxRecDepth 20000 in
theorem u_X8_step_196 (L : xL) (a : Nat) (st : List Value) (h : xH) (hc : (xob h a).1 = 8) : xf 125 196 L (.ref a :: st) h = xf 125 199 L ((xob h a).2.getD 18 .null :: st) h := xo_getf (r := 530) (by decide +kernel) (by decide) hc
set_option maxRecDepth 20000 in
theorem u_X8_step_199 (L : xL) (x : Int32) (h : xH) : xf 125 199 L [.int x] h = some (.inl (some (.int x)), h) := xo_ireturn (n := 200) (by decide +kernel) rfl
set_option maxRecDepth 20000 in
theorem e_X8_step (v0 : Nat) (h : xH) : xev 125 [.ref v0] h = xf 125 0 [some (.ref v0), none, none, none] [] h := rfl
set_option maxRecDepth 20000 in
theorem u_X8_steps_0 (L : xL) (st : List Value) (h : xH) : xf 126 0 L st h = xf 126 1 L (.int 0 :: st) h := xo_iconst (k := 0) (by decide +kernel) (by decide)
set_option maxRecDepth 20000 in
theorem u_X8_steps_1 (l0 l1 : Option Value) (x : Int32) (st : List Value) (h : xH) : xf 126 1 [l0, l1] (.int x :: st) h = xf 126 2 [xcat l0, some (.int x)] st h := xo_istore (k := 1) (by decide +kernel) (Nat.le_of_ble_eq_true rfl) rfl
set_option maxRecDepth 20000 in
theorem u_X8_steps_2 (l1 : Option Value) (x : Nat) (st : List Value) (h : xH) : xf 126 2 [some (.ref x), l1] st h = xf 126 3 [some (.ref x), l1] (.ref x :: st) h := xo_aload (k := 0) (by decide +kernel) rfl
set_option maxRecDepth 20000 in
theorem u_X8_steps_3 (L : xL) (b : Nat) (st : List Value) (h : xH) (hb : (xob h b).1 = 8) (hl : st.length ≤ 4) : xf 126 3 L (.ref b :: st) h = xgo 126 3 6 L st (xev 125 [.ref b] h) := xo_callV (as := []) (by decide +kernel) rfl ⟨(by decide +kernel : xna 125 = 0), Nat.le_of_ble_eq_true rfl, rfl, by decide⟩ hb hl
set_option maxRecDepth 20000 in
theorem u_X8_steps_6 (L : xL) (st : List Value) (h : xH) : xf 126 6 L st h = xf 126 7 L (.int (-1) :: st) h := xo_iconst (k := (-1)) (by decide +kernel) (by decide)
set_option maxRecDepth 20000 in
theorem u_X8_steps_7 (L : xL) (a b : Int32) (st : List Value) (h : xH) : xf 126 7 L (.int b :: .int a :: st) h = if a = b then xf 126 16 L st h else xf 126 10 L st h := xo_icmp_eq (t := 16) (by decide +kernel) rfl
set_option maxRecDepth 20000 in
theorem u_X8_steps_10 (l0 : Option Value) (x : Int32) (st : List Value) (h : xH) : xf 126 10 [l0, some (.int x)] st h = xf 126 13 [xcat l0, some (.int (x + 1))] st h := xo_iinc (k := 1) (c := 1) (by decide +kernel) rfl (by decide) rfl
set_option maxRecDepth 20000 in
theorem u_X8_steps_13 (L : xL) (st : List Value) (h : xH) : xf 126 13 L st h = xf 126 2 L st h := xo_goto (n := 16) (t := 2) (by decide +kernel) rfl
set_option maxRecDepth 20000 in
theorem u_X8_steps_16 (l0 : Option Value) (x : Int32) (st : List Value) (h : xH) : xf 126 16 [l0, some (.int x)] st h = xf 126 17 [l0, some (.int x)] (.int x :: st) h := xo_iload (k := 1) (by decide +kernel) rfl
set_option maxRecDepth 20000 in
theorem u_X8_steps_17 (L : xL) (x : Int32) (h : xH) : xf 126 17 L [.int x] h = some (.inl (some (.int x)), h) := xo_ireturn (n := 18) (by decide +kernel) rfl
set_option maxRecDepth 20000 in
theorem e_X8_steps (v0 : Nat) (h : xH) : xev 126 [.ref v0] h = xf 126 0 [some (.ref v0), none] [] h := rfl
set_option maxRecDepth 20000 in
theorem u_X8_name_0 (x : Nat) (st : List Value) (h : xH) : xf 127 0 [some (.ref x)] st h = xf 127 1 [some (.ref x)] (.ref x :: st) h := xo_aload (k := 0) (by decide +kernel) rfl
set_option maxRecDepth 20000 in
theorem u_X8_name_1 (L : xL) (st : List Value) (h : xH) : xf 127 1 L st h = xf 127 2 L (.int 0 :: st) h := xo_iconst (k := 0) (by decide +kernel) (by decide)
set_option maxRecDepth 20000 in
theorem u_X8_name_2 (L : xL) (v : Int32) (a : Nat) (st : List Value) (h : xH) (hc : (xob h a).1 = 8) : xf 127 2 L (.int v :: .ref a :: st) h = xf 127 5 L st (xso h a 0 (.int v)) := xo_putf (r := 512) (by decide +kernel) (by decide) rfl hc
set_option maxRecDepth 20000 in
theorem u_X8_name_5 (x : Nat) (st : List Value) (h : xH) : xf 127 5 [some (.ref x)] st h = xf 127 6 [some (.ref x)] (.ref x :: st) h := xo_aload (k := 0) (by decide +kernel) rfl
set_option maxRecDepth 20000 in
theorem u_X8_name_6 (L : xL) (b : Nat) (st : List Value) (h : xH) (hb : (xob h b).1 = 8) (hl : st.length ≤ 4) : xf 127 6 L (.ref b :: st) h = xgo 127 6 9 L st (xev 101 [.ref b] h) := xo_callV (as := []) (by decide +kernel) rfl ⟨(by decide +kernel : xna 101 = 0), Nat.le_of_ble_eq_true rfl, rfl, by decide⟩ hb hl
set_option maxRecDepth 20000 in
theorem u_X8_name_9 (x : Nat) (st : List Value) (h : xH) : xf 127 9 [some (.ref x)] st h = xf 127 10 [some (.ref x)] (.ref x :: st) h := xo_aload (k := 0) (by decide +kernel) rfl
set_option maxRecDepth 20000 in
theorem u_X8_name_10 (L : xL) (b : Nat) (st : List Value) (h : xH) (hb : (xob h b).1 = 8) (hl : st.length ≤ 4) : xf 127 10 L (.ref b :: st) h = xgo 127 10 13 L st (xev 125 [.ref b] h) := xo_callV (as := []) (by decide +kernel) rfl ⟨(by decide +kernel : xna 125 = 0), Nat.le_of_ble_eq_true rfl, rfl, by decide⟩ hb hl
set_option maxRecDepth 20000 in
theorem u_X8_name_13 (L : xL) (x : Int32) (h : xH) : xf 127 13 L [.int x] h = some (.inl (some (.int x)), h) := xo_ireturn (n := 14) (by decide +kernel) rfl
set_option maxRecDepth 20000 in
theorem e_X8_name (v0 : Nat) (h : xH) : xev 127 [.ref v0] h = xf 127 0 [some (.ref v0)] [] h := rfl
set_option maxRecDepth 20000 in
theorem u_X8_nameAll_0 (x : Nat) (st : List Value) (h : xH) : xf 128 0 [some (.ref x)] st h = xf 128 1 [some (.ref x)] (.ref x :: st) h := xo_aload (k := 0) (by decide +kernel) rfl
set_option maxRecDepth 20000 in
theorem u_X8_nameAll_1 (L : xL) (st : List Value) (h : xH) : xf 128 1 L st h = xf 128 2 L (.int 0 :: st) h := xo_iconst (k := 0) (by decide +kernel) (by decide)
set_option maxRecDepth 20000 in
theorem u_X8_nameAll_2 (L : xL) (v : Int32) (a : Nat) (st : List Value) (h : xH) (hc : (xob h a).1 = 8) : xf 128 2 L (.int v :: .ref a :: st) h = xf 128 5 L st (xso h a 0 (.int v)) := xo_putf (r := 512) (by decide +kernel) (by decide) rfl hc
set_option maxRecDepth 20000 in
theorem u_X8_nameAll_5 (x : Nat) (st : List Value) (h : xH) : xf 128 5 [some (.ref x)] st h = xf 128 6 [some (.ref x)] (.ref x :: st) h := xo_aload (k := 0) (by decide +kernel) rfl
set_option maxRecDepth 20000 in
theorem u_X8_nameAll_6 (L : xL) (b : Nat) (st : List Value) (h : xH) (hb : (xob h b).1 = 8) (hl : st.length ≤ 4) : xf 128 6 L (.ref b :: st) h = xgo 128 6 9 L st (xev 101 [.ref b] h) := xo_callV (as := []) (by decide +kernel) rfl ⟨(by decide +kernel : xna 101 = 0), Nat.le_of_ble_eq_true rfl, rfl, by decide⟩ hb hl
set_option maxRecDepth 20000 in
theorem u_X8_nameAll_9 (x : Nat) (st : List Value) (h : xH) : xf 128 9 [some (.ref x)] st h = xf 128 10 [some (.ref x)] (.ref x :: st) h := xo_aload (k := 0) (by decide +kernel) rfl
set_option maxRecDepth 20000 in
theorem u_X8_nameAll_10 (L : xL) (b : Nat) (st : List Value) (h : xH) (hb : (xob h b).1 = 8) (hl : st.length ≤ 4) : xf 128 10 L (.ref b :: st) h = xgo 128 10 13 L st (xev 126 [.ref b] h) := xo_callV (as := []) (by decide +kernel) rfl ⟨(by decide +kernel : xna 126 = 0), Nat.le_of_ble_eq_true rfl, rfl, by decide⟩ hb hl
set_option maxRecDepth 20000 in
theorem u_X8_nameAll_13 (L : xL) (x : Int32) (h : xH) : xf 128 13 L [.int x] h = some (.inl (some (.int x)), h) := xo_ireturn (n := 14) (by decide +kernel) rfl
set_option maxRecDepth 20000 in
theorem e_X8_nameAll (v0 : Nat) (h : xH) : xev 128 [.ref v0] h = xf 128 0 [some (.ref v0)] [] h := rfl
set_option maxRecDepth 20000 in
theorem u_X8_mayGo_0 (l1 l2 : Option Value) (x : Nat) (st : List Value) (h : xH) : xf 129 0 [some (.ref x), l1, l2] st h = xf 129 1 [some (.ref x), l1, l2] (.ref x :: st) h := xo_aload (k := 0) (by decide +kernel) rfl
set_option maxRecDepth 20000 in
theorem u_X8_mayGo_1 (l0 l2 : Option Value) (x : Int32) (st : List Value) (h : xH) : xf 129 1 [l0, some (.int x), l2] st h = xf 129 2 [l0, some (.int x), l2] (.int x :: st) h := xo_iload (k := 1) (by decide +kernel) rfl
set_option maxRecDepth 20000 in
theorem u_X8_mayGo_2 (L : xL) (v0 : Int32) (b : Nat) (st : List Value) (h : xH) (hb : (xob h b).1 = 8) (hl : st.length ≤ 4) : xf 129 2 L (.int v0 :: .ref b :: st) h = xgo 129 2 5 L st (xev 109 [.ref b, .int v0] h) := xo_callV (as := [.int v0]) (by decide +kernel) rfl ⟨(by decide +kernel : xna 109 = 1), Nat.le_of_ble_eq_true rfl, rfl, by decide⟩ hb hl
set_option maxRecDepth 20000 in
theorem u_X8_mayGo_5 (l0 l1 l2 : Option Value) (x : Int32) (st : List Value) (h : xH) : xf 129 5 [l0, l1, l2] (.int x :: st) h = xf 129 6 [l0, xcat l1, some (.int x)] st h := xo_istore (k := 2) (by decide +kernel) (Nat.le_of_ble_eq_true rfl) rfl
set_option maxRecDepth 20000 in
theorem u_X8_mayGo_6 (l1 l2 : Option Value) (x : Nat) (st : List Value) (h : xH) : xf 129 6 [some (.ref x), l1, l2] st h = xf 129 7 [some (.ref x), l1, l2] (.ref x :: st) h := xo_aload (k := 0) (by decide +kernel) rfl
set_option maxRecDepth 20000 in
theorem u_X8_mayGo_7 (l0 l2 : Option Value) (x : Int32) (st : List Value) (h : xH) : xf 129 7 [l0, some (.int x), l2] st h = xf 129 8 [l0, some (.int x), l2] (.int x :: st) h := xo_iload (k := 1) (by decide +kernel) rfl
set_option maxRecDepth 20000 in
theorem u_X8_mayGo_8 (L : xL) (v0 : Int32) (b : Nat) (st : List Value) (h : xH) (hb : (xob h b).1 = 8) (hl : st.length ≤ 4) : xf 129 8 L (.int v0 :: .ref b :: st) h = xgo 129 8 11 L st (xev 104 [.ref b, .int v0] h) := xo_callV (as := [.int v0]) (by decide +kernel) rfl ⟨(by decide +kernel : xna 104 = 1), Nat.le_of_ble_eq_true rfl, rfl, by decide⟩ hb hl
set_option maxRecDepth 20000 in
theorem u_X8_mayGo_11 (L : xL) (a : Int32) (st : List Value) (h : xH) : xf 129 11 L (.int a :: st) h = if a = 0 then xf 129 50 L st h else xf 129 14 L st h := xo_if_eq (t := 50) (by decide +kernel) rfl
set_option maxRecDepth 20000 in
theorem u_X8_mayGo_14 (l1 l2 : Option Value) (x : Nat) (st : List Value) (h : xH) : xf 129 14 [some (.ref x), l1, l2] st h = xf 129 15 [some (.ref x), l1, l2] (.ref x :: st) h := xo_aload (k := 0) (by decide +kernel) rfl
set_option maxRecDepth 20000 in
theorem u_X8_mayGo_15 (l0 l2 : Option Value) (x : Int32) (st : List Value) (h : xH) : xf 129 15 [l0, some (.int x), l2] st h = xf 129 16 [l0, some (.int x), l2] (.int x :: st) h := xo_iload (k := 1) (by decide +kernel) rfl
set_option maxRecDepth 20000 in
theorem u_X8_mayGo_16 (L : xL) (v0 : Int32) (b : Nat) (st : List Value) (h : xH) (hb : (xob h b).1 = 8) (hl : st.length ≤ 4) : xf 129 16 L (.int v0 :: .ref b :: st) h = xgo 129 16 19 L st (xev 110 [.ref b, .int v0] h) := xo_callV (as := [.int v0]) (by decide +kernel) rfl ⟨(by decide +kernel : xna 110 = 1), Nat.le_of_ble_eq_true rfl, rfl, by decide⟩ hb hl
set_option maxRecDepth 20000 in
theorem u_X8_mayGo_19 (L : xL) (a : Int32) (st : List Value) (h : xH) : xf 129 19 L (.int a :: st) h = if a = 0 then xf 129 22 L st h else xf 129 50 L st h := xo_if_ne (t := 50) (by decide +kernel) rfl
set_option maxRecDepth 20000 in
theorem u_X8_mayGo_22 (l0 l1 : Option Value) (x : Int32) (st : List Value) (h : xH) : xf 129 22 [l0, l1, some (.int x)] st h = xf 129 23 [l0, l1, some (.int x)] (.int x :: st) h := xo_iload (k := 2) (by decide +kernel) rfl
set_option maxRecDepth 20000 in
theorem u_X8_mayGo_23 (l1 l2 : Option Value) (x : Nat) (st : List Value) (h : xH) : xf 129 23 [some (.ref x), l1, l2] st h = xf 129 24 [some (.ref x), l1, l2] (.ref x :: st) h := xo_aload (k := 0) (by decide +kernel) rfl
set_option maxRecDepth 20000 in
theorem u_X8_mayGo_24 (L : xL) (a : Nat) (st : List Value) (h : xH) (hc : (xob h a).1 = 8) : xf 129 24 L (.ref a :: st) h = xf 129 27 L ((xob h a).2.getD 1 .null :: st) h := xo_getf (r := 513) (by decide +kernel) (by decide) hc
set_option maxRecDepth 20000 in
theorem u_X8_mayGo_27 (L : xL) (st : List Value) (h : xH) : xf 129 27 L st h = xf 129 29 L (.int 114 :: st) h := xo_iconst (k := 114) (by decide +kernel) (by decide)
set_option maxRecDepth 20000 in
theorem u_X8_mayGo_29 (L : xL) (i : Int32) (a : Nat) (st : List Value) (h : xH) (hx : xix i (xai h a).1) : xf 129 29 L (.int i :: .ref a :: st) h = xf 129 30 L (.int ((xai h a).2 i.toNatClampNeg) :: st) h := xo_iaload (by decide +kernel) hx
set_option maxRecDepth 20000 in
theorem u_X8_mayGo_30 (L : xL) (a b : Int32) (st : List Value) (h : xH) : xf 129 30 L (.int b :: .int a :: st) h = if a < b then xf 129 33 L st h else xf 129 50 L st h := xo_icmp_ge (t := 50) (by decide +kernel) rfl
set_option maxRecDepth 20000 in
theorem u_X8_mayGo_33 (l1 l2 : Option Value) (x : Nat) (st : List Value) (h : xH) : xf 129 33 [some (.ref x), l1, l2] st h = xf 129 34 [some (.ref x), l1, l2] (.ref x :: st) h := xo_aload (k := 0) (by decide +kernel) rfl
set_option maxRecDepth 20000 in
theorem u_X8_mayGo_34 (L : xL) (a : Nat) (st : List Value) (h : xH) (hc : (xob h a).1 = 8) : xf 129 34 L (.ref a :: st) h = xf 129 37 L ((xob h a).2.getD 1 .null :: st) h := xo_getf (r := 513) (by decide +kernel) (by decide) hc
set_option maxRecDepth 20000 in
theorem u_X8_mayGo_37 (L : xL) (st : List Value) (h : xH) : xf 129 37 L st h = xf 129 38 L (.int 0 :: st) h := xo_iconst (k := 0) (by decide +kernel) (by decide)
set_option maxRecDepth 20000 in
theorem u_X8_mayGo_38 (L : xL) (i : Int32) (a : Nat) (st : List Value) (h : xH) (hx : xix i (xai h a).1) : xf 129 38 L (.int i :: .ref a :: st) h = xf 129 39 L (.int ((xai h a).2 i.toNatClampNeg) :: st) h := xo_iaload (by decide +kernel) hx
set_option maxRecDepth 20000 in
theorem u_X8_mayGo_39 (l0 l1 : Option Value) (x : Int32) (st : List Value) (h : xH) : xf 129 39 [l0, l1, some (.int x)] st h = xf 129 40 [l0, l1, some (.int x)] (.int x :: st) h := xo_iload (k := 2) (by decide +kernel) rfl
set_option maxRecDepth 20000 in
theorem u_X8_mayGo_40 (L : xL) (a b : Int32) (st : List Value) (h : xH) : xf 129 40 L (.int b :: .int a :: st) h = xf 129 41 L (.int (a + b) :: st) h := xo_iadd (by decide +kernel)
set_option maxRecDepth 20000 in
theorem u_X8_mayGo_41 (L : xL) (st : List Value) (h : xH) : xf 129 41 L st h = xf 129 43 L (.int 64 :: st) h := xo_iconst (k := 64) (by decide +kernel) (by decide)
set_option maxRecDepth 20000 in
theorem u_X8_mayGo_43 (L : xL) (a b : Int32) (st : List Value) (h : xH) : xf 129 43 L (.int b :: .int a :: st) h = if b < a then xf 129 50 L st h else xf 129 46 L st h := xo_icmp_gt (t := 50) (by decide +kernel) rfl
set_option maxRecDepth 20000 in
theorem u_X8_mayGo_46 (L : xL) (st : List Value) (h : xH) : xf 129 46 L st h = xf 129 47 L (.int 1 :: st) h := xo_iconst (k := 1) (by decide +kernel) (by decide)
set_option maxRecDepth 20000 in
theorem u_X8_mayGo_47 (L : xL) (st : List Value) (h : xH) : xf 129 47 L st h = xf 129 51 L st h := xo_goto (n := 50) (t := 51) (by decide +kernel) rfl
set_option maxRecDepth 20000 in
theorem u_X8_mayGo_50 (L : xL) (st : List Value) (h : xH) : xf 129 50 L st h = xf 129 51 L (.int 0 :: st) h := xo_iconst (k := 0) (by decide +kernel) (by decide)
set_option maxRecDepth 20000 in
theorem u_X8_mayGo_51 (L : xL) (x : Int32) (h : xH) (hv : x = 0 ∨ x = 1) : xf 129 51 L [.int x] h = some (.inl (some (.int x)), h) := xo_ireturn (n := 52) (by decide +kernel) (by rcases hv with rfl | rfl <;> rfl)
set_option maxRecDepth 20000 in
theorem e_X8_mayGo (v0 : Nat) (v1 : Int32) (h : xH) : xev 129 [.ref v0, .int v1] h = xf 129 0 [some (.ref v0), some (.int v1), none] [] h := rfl
set_option maxRecDepth 20000 in
theorem u_X8_letGo_0 (l1 l2 l3 : Option Value) (x : Nat) (st : List Value) (h : xH) : xf 130 0 [some (.ref x), l1, l2, l3] st h = xf 130 1 [some (.ref x), l1, l2, l3] (.ref x :: st) h := xo_aload (k := 0) (by decide +kernel) rfl
set_option maxRecDepth 20000 in
theorem u_X8_letGo_1 (L : xL) (st : List Value) (h : xH) : xf 130 1 L st h = xf 130 2 L (.int 0 :: st) h := xo_iconst (k := 0) (by decide +kernel) (by decide)
set_option maxRecDepth 20000 in
theorem u_X8_letGo_2 (L : xL) (v : Int32) (a : Nat) (st : List Value) (h : xH) (hc : (xob h a).1 = 8) : xf 130 2 L (.int v :: .ref a :: st) h = xf 130 5 L st (xso h a 0 (.int v)) := xo_putf (r := 512) (by decide +kernel) (by decide) rfl hc
set_option maxRecDepth 20000 in
theorem u_X8_letGo_5 (l1 l2 l3 : Option Value) (x : Nat) (st : List Value) (h : xH) : xf 130 5 [some (.ref x), l1, l2, l3] st h = xf 130 6 [some (.ref x), l1, l2, l3] (.ref x :: st) h := xo_aload (k := 0) (by decide +kernel) rfl
set_option maxRecDepth 20000 in
theorem u_X8_letGo_6 (L : xL) (b : Nat) (st : List Value) (h : xH) (hb : (xob h b).1 = 8) (hl : st.length ≤ 4) : xf 130 6 L (.ref b :: st) h = xgo 130 6 9 L st (xev 101 [.ref b] h) := xo_callV (as := []) (by decide +kernel) rfl ⟨(by decide +kernel : xna 101 = 0), Nat.le_of_ble_eq_true rfl, rfl, by decide⟩ hb hl
set_option maxRecDepth 20000 in
theorem u_X8_letGo_9 (L : xL) (st : List Value) (h : xH) : xf 130 9 L st h = xf 130 10 L (.int 0 :: st) h := xo_iconst (k := 0) (by decide +kernel) (by decide)
set_option maxRecDepth 20000 in
theorem u_X8_letGo_10 (l0 l1 l2 l3 : Option Value) (x : Int32) (st : List Value) (h : xH) : xf 130 10 [l0, l1, l2, l3] (.int x :: st) h = xf 130 11 [xcat l0, some (.int x), l2, l3] st h := xo_istore (k := 1) (by decide +kernel) (Nat.le_of_ble_eq_true rfl) rfl
set_option maxRecDepth 20000 in
theorem u_X8_letGo_11 (L : xL) (st : List Value) (h : xH) : xf 130 11 L st h = xf 130 13 L (.int 8 :: st) h := xo_iconst (k := 8) (by decide +kernel) (by decide)
set_option maxRecDepth 20000 in
theorem u_X8_letGo_13 (l0 l1 l2 l3 : Option Value) (x : Int32) (st : List Value) (h : xH) : xf 130 13 [l0, l1, l2, l3] (.int x :: st) h = xf 130 14 [l0, xcat l1, some (.int x), l3] st h := xo_istore (k := 2) (by decide +kernel) (Nat.le_of_ble_eq_true rfl) rfl
set_option maxRecDepth 20000 in
theorem u_X8_letGo_14 (l0 l1 l3 : Option Value) (x : Int32) (st : List Value) (h : xH) : xf 130 14 [l0, l1, some (.int x), l3] st h = xf 130 15 [l0, l1, some (.int x), l3] (.int x :: st) h := xo_iload (k := 2) (by decide +kernel) rfl
set_option maxRecDepth 20000 in
theorem u_X8_letGo_15 (L : xL) (st : List Value) (h : xH) : xf 130 15 L st h = xf 130 17 L (.int 24 :: st) h := xo_iconst (k := 24) (by decide +kernel) (by decide)
set_option maxRecDepth 20000 in
theorem u_X8_letGo_17 (L : xL) (a b : Int32) (st : List Value) (h : xH) : xf 130 17 L (.int b :: .int a :: st) h = if a < b then xf 130 20 L st h else xf 130 92 L st h := xo_icmp_ge (t := 92) (by decide +kernel) rfl
set_option maxRecDepth 20000 in
theorem u_X8_letGo_20 (l1 l2 l3 : Option Value) (x : Nat) (st : List Value) (h : xH) : xf 130 20 [some (.ref x), l1, l2, l3] st h = xf 130 21 [some (.ref x), l1, l2, l3] (.ref x :: st) h := xo_aload (k := 0) (by decide +kernel) rfl
set_option maxRecDepth 20000 in
theorem u_X8_letGo_21 (l0 l1 l3 : Option Value) (x : Int32) (st : List Value) (h : xH) : xf 130 21 [l0, l1, some (.int x), l3] st h = xf 130 22 [l0, l1, some (.int x), l3] (.int x :: st) h := xo_iload (k := 2) (by decide +kernel) rfl
set_option maxRecDepth 20000 in
theorem u_X8_letGo_22 (L : xL) (v0 : Int32) (b : Nat) (st : List Value) (h : xH) (hb : (xob h b).1 = 8) (hl : st.length ≤ 4) : xf 130 22 L (.int v0 :: .ref b :: st) h = xgo 130 22 25 L st (xev 129 [.ref b, .int v0] h) := xo_callV (as := [.int v0]) (by decide +kernel) rfl ⟨(by decide +kernel : xna 129 = 1), Nat.le_of_ble_eq_true rfl, rfl, by decide⟩ hb hl
set_option maxRecDepth 20000 in
theorem u_X8_letGo_25 (L : xL) (a : Int32) (st : List Value) (h : xH) : xf 130 25 L (.int a :: st) h = if a = 0 then xf 130 86 L st h else xf 130 28 L st h := xo_if_eq (t := 86) (by decide +kernel) rfl
set_option maxRecDepth 20000 in
theorem u_X8_letGo_28 (l1 l2 l3 : Option Value) (x : Nat) (st : List Value) (h : xH) : xf 130 28 [some (.ref x), l1, l2, l3] st h = xf 130 29 [some (.ref x), l1, l2, l3] (.ref x :: st) h := xo_aload (k := 0) (by decide +kernel) rfl
set_option maxRecDepth 20000 in
theorem u_X8_letGo_29 (L : xL) (a : Nat) (st : List Value) (h : xH) (hc : (xob h a).1 = 8) : xf 130 29 L (.ref a :: st) h = xf 130 32 L ((xob h a).2.getD 1 .null :: st) h := xo_getf (r := 513) (by decide +kernel) (by decide) hc
set_option maxRecDepth 20000 in
theorem u_X8_letGo_32 (L : xL) (st : List Value) (h : xH) : xf 130 32 L st h = xf 130 33 L (.int 0 :: st) h := xo_iconst (k := 0) (by decide +kernel) (by decide)
set_option maxRecDepth 20000 in
theorem u_X8_letGo_33 (L : xL) (i : Int32) (a : Nat) (st : List Value) (h : xH) (hx : xix i (xai h a).1) : xf 130 33 L (.int i :: .ref a :: st) h = xf 130 34 L (.int ((xai h a).2 i.toNatClampNeg) :: st) h := xo_iaload (by decide +kernel) hx
set_option maxRecDepth 20000 in
theorem u_X8_letGo_34 (L : xL) (st : List Value) (h : xH) : xf 130 34 L st h = xf 130 35 L (.int 1 :: st) h := xo_iconst (k := 1) (by decide +kernel) (by decide)
set_option maxRecDepth 20000 in
theorem u_X8_letGo_35 (L : xL) (a b : Int32) (st : List Value) (h : xH) : xf 130 35 L (.int b :: .int a :: st) h = xf 130 36 L (.int (a - b) :: st) h := xo_isub (by decide +kernel)
set_option maxRecDepth 20000 in
theorem u_X8_letGo_36 (l0 l1 l2 l3 : Option Value) (x : Int32) (st : List Value) (h : xH) : xf 130 36 [l0, l1, l2, l3] (.int x :: st) h = xf 130 37 [l0, l1, xcat l2, some (.int x)] st h := xo_istore (k := 3) (by decide +kernel) (Nat.le_of_ble_eq_true rfl) rfl
set_option maxRecDepth 20000 in
theorem u_X8_letGo_37 (l0 l1 l2 : Option Value) (x : Int32) (st : List Value) (h : xH) : xf 130 37 [l0, l1, l2, some (.int x)] st h = xf 130 38 [l0, l1, l2, some (.int x)] (.int x :: st) h := xo_iload (k := 3) (by decide +kernel) rfl
set_option maxRecDepth 20000 in
theorem u_X8_letGo_38 (L : xL) (a : Int32) (st : List Value) (h : xH) : xf 130 38 L (.int a :: st) h = if a < 0 then xf 130 64 L st h else xf 130 41 L st h := xo_if_lt (t := 64) (by decide +kernel) rfl
set_option maxRecDepth 20000 in
theorem u_X8_letGo_41 (l1 l2 l3 : Option Value) (x : Nat) (st : List Value) (h : xH) : xf 130 41 [some (.ref x), l1, l2, l3] st h = xf 130 42 [some (.ref x), l1, l2, l3] (.ref x :: st) h := xo_aload (k := 0) (by decide +kernel) rfl
set_option maxRecDepth 20000 in
theorem u_X8_letGo_42 (L : xL) (a : Nat) (st : List Value) (h : xH) (hc : (xob h a).1 = 8) : xf 130 42 L (.ref a :: st) h = xf 130 45 L ((xob h a).2.getD 1 .null :: st) h := xo_getf (r := 513) (by decide +kernel) (by decide) hc
set_option maxRecDepth 20000 in
theorem u_X8_letGo_45 (L : xL) (st : List Value) (h : xH) : xf 130 45 L st h = xf 130 46 L (.int 1 :: st) h := xo_iconst (k := 1) (by decide +kernel) (by decide)
set_option maxRecDepth 20000 in
theorem u_X8_letGo_46 (l0 l1 l2 : Option Value) (x : Int32) (st : List Value) (h : xH) : xf 130 46 [l0, l1, l2, some (.int x)] st h = xf 130 47 [l0, l1, l2, some (.int x)] (.int x :: st) h := xo_iload (k := 3) (by decide +kernel) rfl
set_option maxRecDepth 20000 in
theorem u_X8_letGo_47 (L : xL) (a b : Int32) (st : List Value) (h : xH) : xf 130 47 L (.int b :: .int a :: st) h = xf 130 48 L (.int (a + b) :: st) h := xo_iadd (by decide +kernel)
set_option maxRecDepth 20000 in
theorem u_X8_letGo_48 (L : xL) (i : Int32) (a : Nat) (st : List Value) (h : xH) (hx : xix i (xai h a).1) : xf 130 48 L (.int i :: .ref a :: st) h = xf 130 49 L (.int ((xai h a).2 i.toNatClampNeg) :: st) h := xo_iaload (by decide +kernel) hx
set_option maxRecDepth 20000 in
theorem u_X8_letGo_49 (l0 l1 l3 : Option Value) (x : Int32) (st : List Value) (h : xH) : xf 130 49 [l0, l1, some (.int x), l3] st h = xf 130 50 [l0, l1, some (.int x), l3] (.int x :: st) h := xo_iload (k := 2) (by decide +kernel) rfl
set_option maxRecDepth 20000 in
theorem u_X8_letGo_50 (L : xL) (a b : Int32) (st : List Value) (h : xH) : xf 130 50 L (.int b :: .int a :: st) h = if a = b then xf 130 53 L st h else xf 130 58 L st h := xo_icmp_ne (t := 58) (by decide +kernel) rfl
set_option maxRecDepth 20000 in
theorem u_X8_letGo_53 (l1 l2 l3 : Option Value) (x : Nat) (st : List Value) (h : xH) : xf 130 53 [some (.ref x), l1, l2, l3] st h = xf 130 54 [some (.ref x), l1, l2, l3] (.ref x :: st) h := xo_aload (k := 0) (by decide +kernel) rfl
set_option maxRecDepth 20000 in
theorem u_X8_letGo_54 (l0 l1 l2 : Option Value) (x : Int32) (st : List Value) (h : xH) : xf 130 54 [l0, l1, l2, some (.int x)] st h = xf 130 55 [l0, l1, l2, some (.int x)] (.int x :: st) h := xo_iload (k := 3) (by decide +kernel) rfl
set_option maxRecDepth 20000 in
theorem u_X8_letGo_55 (L : xL) (v0 : Int32) (b : Nat) (st : List Value) (h : xH) (hb : (xob h b).1 = 8) (hl : st.length ≤ 4) : xf 130 55 L (.int v0 :: .ref b :: st) h = xgo 130 55 58 L st (xev 121 [.ref b, .int v0] h) := xo_callV (as := [.int v0]) (by decide +kernel) rfl ⟨(by decide +kernel : xna 121 = 1), Nat.le_of_ble_eq_true rfl, rfl, by decide⟩ hb hl
set_option maxRecDepth 20000 in
theorem u_X8_letGo_58 (l0 l1 l2 : Option Value) (x : Int32) (st : List Value) (h : xH) : xf 130 58 [l0, l1, l2, some (.int x)] st h = xf 130 61 [l0, l1, xcat l2, some (.int (x + (-1)))] st h := xo_iinc (k := 3) (c := (-1)) (by decide +kernel) rfl (by decide) rfl
set_option maxRecDepth 20000 in
theorem u_X8_letGo_61 (L : xL) (st : List Value) (h : xH) : xf 130 61 L st h = xf 130 37 L st h := xo_goto (n := 64) (t := 37) (by decide +kernel) rfl
set_option maxRecDepth 20000 in
theorem u_X8_letGo_64 (l1 l2 l3 : Option Value) (x : Nat) (st : List Value) (h : xH) : xf 130 64 [some (.ref x), l1, l2, l3] st h = xf 130 65 [some (.ref x), l1, l2, l3] (.ref x :: st) h := xo_aload (k := 0) (by decide +kernel) rfl
set_option maxRecDepth 20000 in
theorem u_X8_letGo_65 (L : xL) (a : Nat) (st : List Value) (h : xH) (hc : (xob h a).1 = 8) : xf 130 65 L (.ref a :: st) h = xf 130 68 L ((xob h a).2.getD 1 .null :: st) h := xo_getf (r := 513) (by decide +kernel) (by decide) hc
set_option maxRecDepth 20000 in
theorem u_X8_letGo_68 (L : xL) (st : List Value) (h : xH) : xf 130 68 L st h = xf 130 70 L (.int 65 :: st) h := xo_iconst (k := 65) (by decide +kernel) (by decide)
set_option maxRecDepth 20000 in
theorem u_X8_letGo_70 (l0 l1 l3 : Option Value) (x : Int32) (st : List Value) (h : xH) : xf 130 70 [l0, l1, some (.int x), l3] st h = xf 130 71 [l0, l1, some (.int x), l3] (.int x :: st) h := xo_iload (k := 2) (by decide +kernel) rfl
set_option maxRecDepth 20000 in
theorem u_X8_letGo_71 (L : xL) (a b : Int32) (st : List Value) (h : xH) : xf 130 71 L (.int b :: .int a :: st) h = xf 130 72 L (.int (a + b) :: st) h := xo_iadd (by decide +kernel)
set_option maxRecDepth 20000 in
theorem u_X8_letGo_72 (L : xL) (st : List Value) (h : xH) : xf 130 72 L st h = xf 130 74 L (.int 8 :: st) h := xo_iconst (k := 8) (by decide +kernel) (by decide)
set_option maxRecDepth 20000 in
theorem u_X8_letGo_74 (L : xL) (a b : Int32) (st : List Value) (h : xH) : xf 130 74 L (.int b :: .int a :: st) h = xf 130 75 L (.int (a - b) :: st) h := xo_isub (by decide +kernel)
set_option maxRecDepth 20000 in
theorem u_X8_letGo_75 (L : xL) (st : List Value) (h : xH) : xf 130 75 L st h = xf 130 76 L (.int 0 :: st) h := xo_iconst (k := 0) (by decide +kernel) (by decide)
set_option maxRecDepth 20000 in
theorem u_X8_letGo_76 (L : xL) (v i : Int32) (a : Nat) (st : List Value) (h : xH) (hx : xix i (xai h a).1) : xf 130 76 L (.int v :: .int i :: .ref a :: st) h = xf 130 77 L st (xsi h a i.toNatClampNeg v) := xo_iastore (by decide +kernel) hx
set_option maxRecDepth 20000 in
theorem u_X8_letGo_77 (l0 l2 l3 : Option Value) (x : Int32) (st : List Value) (h : xH) : xf 130 77 [l0, some (.int x), l2, l3] st h = xf 130 80 [xcat l0, some (.int (x + 1)), l2, l3] st h := xo_iinc (k := 1) (c := 1) (by decide +kernel) rfl (by decide) rfl
set_option maxRecDepth 20000 in
theorem u_X8_letGo_80 (L : xL) (st : List Value) (h : xH) : xf 130 80 L st h = xf 130 82 L (.int 8 :: st) h := xo_iconst (k := 8) (by decide +kernel) (by decide)
set_option maxRecDepth 20000 in
theorem u_X8_letGo_82 (l0 l1 l2 l3 : Option Value) (x : Int32) (st : List Value) (h : xH) : xf 130 82 [l0, l1, l2, l3] (.int x :: st) h = xf 130 83 [l0, xcat l1, some (.int x), l3] st h := xo_istore (k := 2) (by decide +kernel) (Nat.le_of_ble_eq_true rfl) rfl
set_option maxRecDepth 20000 in
theorem u_X8_letGo_83 (L : xL) (st : List Value) (h : xH) : xf 130 83 L st h = xf 130 14 L st h := xo_goto (n := 86) (t := 14) (by decide +kernel) rfl
set_option maxRecDepth 20000 in
theorem u_X8_letGo_86 (l0 l1 l3 : Option Value) (x : Int32) (st : List Value) (h : xH) : xf 130 86 [l0, l1, some (.int x), l3] st h = xf 130 89 [l0, xcat l1, some (.int (x + 1)), l3] st h := xo_iinc (k := 2) (c := 1) (by decide +kernel) rfl (by decide) rfl
set_option maxRecDepth 20000 in
theorem u_X8_letGo_89 (L : xL) (st : List Value) (h : xH) : xf 130 89 L st h = xf 130 14 L st h := xo_goto (n := 92) (t := 14) (by decide +kernel) rfl
set_option maxRecDepth 20000 in
theorem u_X8_letGo_92 (l1 l2 l3 : Option Value) (x : Nat) (st : List Value) (h : xH) : xf 130 92 [some (.ref x), l1, l2, l3] st h = xf 130 93 [some (.ref x), l1, l2, l3] (.ref x :: st) h := xo_aload (k := 0) (by decide +kernel) rfl
set_option maxRecDepth 20000 in
theorem u_X8_letGo_93 (L : xL) (a : Nat) (st : List Value) (h : xH) (hc : (xob h a).1 = 8) : xf 130 93 L (.ref a :: st) h = xf 130 96 L ((xob h a).2.getD 1 .null :: st) h := xo_getf (r := 513) (by decide +kernel) (by decide) hc
set_option maxRecDepth 20000 in
theorem u_X8_letGo_96 (L : xL) (st : List Value) (h : xH) : xf 130 96 L st h = xf 130 98 L (.int 116 :: st) h := xo_iconst (k := 116) (by decide +kernel) (by decide)
set_option maxRecDepth 20000 in
theorem u_X8_letGo_98 (L : xL) (a : Int32) (b : Nat) (st : List Value) (h : xH) : xf 130 98 L (.int a :: .ref b :: st) h = xf 130 99 L (.int a :: .ref b :: .int a :: .ref b :: st) h := xo_dup2 (by decide +kernel)
set_option maxRecDepth 20000 in
theorem u_X8_letGo_99 (L : xL) (i : Int32) (a : Nat) (st : List Value) (h : xH) (hx : xix i (xai h a).1) : xf 130 99 L (.int i :: .ref a :: st) h = xf 130 100 L (.int ((xai h a).2 i.toNatClampNeg) :: st) h := xo_iaload (by decide +kernel) hx
set_option maxRecDepth 20000 in
theorem u_X8_letGo_100 (l0 l2 l3 : Option Value) (x : Int32) (st : List Value) (h : xH) : xf 130 100 [l0, some (.int x), l2, l3] st h = xf 130 101 [l0, some (.int x), l2, l3] (.int x :: st) h := xo_iload (k := 1) (by decide +kernel) rfl
set_option maxRecDepth 20000 in
theorem u_X8_letGo_101 (L : xL) (a b : Int32) (st : List Value) (h : xH) : xf 130 101 L (.int b :: .int a :: st) h = xf 130 102 L (.int (a + b) :: st) h := xo_iadd (by decide +kernel)
set_option maxRecDepth 20000 in
theorem u_X8_letGo_102 (L : xL) (v i : Int32) (a : Nat) (st : List Value) (h : xH) (hx : xix i (xai h a).1) : xf 130 102 L (.int v :: .int i :: .ref a :: st) h = xf 130 103 L st (xsi h a i.toNatClampNeg v) := xo_iastore (by decide +kernel) hx
set_option maxRecDepth 20000 in
theorem u_X8_letGo_103 (l0 l2 l3 : Option Value) (x : Int32) (st : List Value) (h : xH) : xf 130 103 [l0, some (.int x), l2, l3] st h = xf 130 104 [l0, some (.int x), l2, l3] (.int x :: st) h := xo_iload (k := 1) (by decide +kernel) rfl
set_option maxRecDepth 20000 in
theorem u_X8_letGo_104 (L : xL) (x : Int32) (h : xH) : xf 130 104 L [.int x] h = some (.inl (some (.int x)), h) := xo_ireturn (n := 105) (by decide +kernel) rfl
set_option maxRecDepth 20000 in
theorem e_X8_letGo (v0 : Nat) (h : xH) : xev 130 [.ref v0] h = xf 130 0 [some (.ref v0), none, none, none] [] h := rfl
set_option maxRecDepth 20000 in
theorem u_X8_openAll_0 (l1 : Option Value) (x : Nat) (st : List Value) (h : xH) : xf 131 0 [some (.ref x), l1] st h = xf 131 1 [some (.ref x), l1] (.ref x :: st) h := xo_aload (k := 0) (by decide +kernel) rfl
set_option maxRecDepth 20000 in
theorem u_X8_openAll_1 (L : xL) (b : Nat) (st : List Value) (h : xH) (hb : (xob h b).1 = 8) (hl : st.length ≤ 4) : xf 131 1 L (.ref b :: st) h = xgo 131 1 4 L st (xev 107 [.ref b] h) := xo_callV (as := []) (by decide +kernel) rfl ⟨(by decide +kernel : xna 107 = 0), Nat.le_of_ble_eq_true rfl, rfl, by decide⟩ hb hl
set_option maxRecDepth 20000 in
theorem u_X8_openAll_4 (l1 : Option Value) (x : Nat) (st : List Value) (h : xH) : xf 131 4 [some (.ref x), l1] st h = xf 131 5 [some (.ref x), l1] (.ref x :: st) h := xo_aload (k := 0) (by decide +kernel) rfl
set_option maxRecDepth 20000 in
theorem u_X8_openAll_5 (l1 : Option Value) (x : Nat) (st : List Value) (h : xH) : xf 131 5 [some (.ref x), l1] st h = xf 131 6 [some (.ref x), l1] (.ref x :: st) h := xo_aload (k := 0) (by decide +kernel) rfl
set_option maxRecDepth 20000 in
theorem u_X8_openAll_6 (L : xL) (b : Nat) (st : List Value) (h : xH) (hb : (xob h b).1 = 8) (hl : st.length ≤ 4) : xf 131 6 L (.ref b :: st) h = xgo 131 6 9 L st (xev 113 [.ref b] h) := xo_callV (as := []) (by decide +kernel) rfl ⟨(by decide +kernel : xna 113 = 0), Nat.le_of_ble_eq_true rfl, rfl, by decide⟩ hb hl
set_option maxRecDepth 20000 in
theorem u_X8_openAll_9 (L : xL) (st : List Value) (h : xH) : xf 131 9 L st h = xf 131 11 L (.int 64 :: st) h := xo_iconst (k := 64) (by decide +kernel) (by decide)
set_option maxRecDepth 20000 in
theorem u_X8_openAll_11 (L : xL) (a b : Int32) (st : List Value) (h : xH) : xf 131 11 L (.int b :: .int a :: st) h = if b < a then xf 131 14 L st h else xf 131 18 L st h := xo_icmp_le (t := 18) (by decide +kernel) rfl
set_option maxRecDepth 20000 in
theorem u_X8_openAll_14 (L : xL) (st : List Value) (h : xH) : xf 131 14 L st h = xf 131 15 L (.int 1 :: st) h := xo_iconst (k := 1) (by decide +kernel) (by decide)
set_option maxRecDepth 20000 in
theorem u_X8_openAll_15 (L : xL) (st : List Value) (h : xH) : xf 131 15 L st h = xf 131 19 L st h := xo_goto (n := 18) (t := 19) (by decide +kernel) rfl
set_option maxRecDepth 20000 in
theorem u_X8_openAll_18 (L : xL) (st : List Value) (h : xH) : xf 131 18 L st h = xf 131 19 L (.int 0 :: st) h := xo_iconst (k := 0) (by decide +kernel) (by decide)
set_option maxRecDepth 20000 in
theorem u_X8_openAll_19 (L : xL) (v0 : Int32) (b : Nat) (st : List Value) (h : xH) (hb : (xob h b).1 = 8) (hl : st.length ≤ 4) : xf 131 19 L (.int v0 :: .ref b :: st) h = xgo 131 19 22 L st (xev 100 [.ref b, .int v0] h) := xo_callV (as := [.int v0]) (by decide +kernel) rfl ⟨(by decide +kernel : xna 100 = 1), Nat.le_of_ble_eq_true rfl, rfl, by decide⟩ hb hl
set_option maxRecDepth 20000 in
theorem u_X8_openAll_22 (L : xL) (a : Int32) (st : List Value) (h : xH) : xf 131 22 L (.int a :: st) h = if a = 0 then xf 131 25 L st h else xf 131 27 L st h := xo_if_ne (t := 27) (by decide +kernel) rfl
set_option maxRecDepth 20000 in
theorem u_X8_openAll_25 (L : xL) (st : List Value) (h : xH) : xf 131 25 L st h = xf 131 26 L (.int 0 :: st) h := xo_iconst (k := 0) (by decide +kernel) (by decide)
set_option maxRecDepth 20000 in
theorem u_X8_openAll_26 (L : xL) (x : Int32) (h : xH) : xf 131 26 L [.int x] h = some (.inl (some (.int x)), h) := xo_ireturn (n := 27) (by decide +kernel) rfl
set_option maxRecDepth 20000 in
theorem u_X8_openAll_27 (l1 : Option Value) (x : Nat) (st : List Value) (h : xH) : xf 131 27 [some (.ref x), l1] st h = xf 131 28 [some (.ref x), l1] (.ref x :: st) h := xo_aload (k := 0) (by decide +kernel) rfl
set_option maxRecDepth 20000 in
theorem u_X8_openAll_28 (L : xL) (b : Nat) (st : List Value) (h : xH) (hb : (xob h b).1 = 8) (hl : st.length ≤ 4) : xf 131 28 L (.ref b :: st) h = xgo 131 28 31 L st (xev 101 [.ref b] h) := xo_callV (as := []) (by decide +kernel) rfl ⟨(by decide +kernel : xna 101 = 0), Nat.le_of_ble_eq_true rfl, rfl, by decide⟩ hb hl
set_option maxRecDepth 20000 in
theorem u_X8_openAll_31 (L : xL) (st : List Value) (h : xH) : xf 131 31 L st h = xf 131 32 L (.int 0 :: st) h := xo_iconst (k := 0) (by decide +kernel) (by decide)
set_option maxRecDepth 20000 in
theorem u_X8_openAll_32 (l0 l1 : Option Value) (x : Int32) (st : List Value) (h : xH) : xf 131 32 [l0, l1] (.int x :: st) h = xf 131 33 [xcat l0, some (.int x)] st h := xo_istore (k := 1) (by decide +kernel) (Nat.le_of_ble_eq_true rfl) rfl
set_option maxRecDepth 20000 in
theorem u_X8_openAll_33 (l0 : Option Value) (x : Int32) (st : List Value) (h : xH) : xf 131 33 [l0, some (.int x)] st h = xf 131 34 [l0, some (.int x)] (.int x :: st) h := xo_iload (k := 1) (by decide +kernel) rfl
set_option maxRecDepth 20000 in
theorem u_X8_openAll_34 (l1 : Option Value) (x : Nat) (st : List Value) (h : xH) : xf 131 34 [some (.ref x), l1] st h = xf 131 35 [some (.ref x), l1] (.ref x :: st) h := xo_aload (k := 0) (by decide +kernel) rfl
set_option maxRecDepth 20000 in
theorem u_X8_openAll_35 (L : xL) (a : Nat) (st : List Value) (h : xH) (hc : (xob h a).1 = 8) : xf 131 35 L (.ref a :: st) h = xf 131 38 L ((xob h a).2.getD 1 .null :: st) h := xo_getf (r := 513) (by decide +kernel) (by decide) hc
set_option maxRecDepth 20000 in
theorem u_X8_openAll_38 (L : xL) (st : List Value) (h : xH) : xf 131 38 L st h = xf 131 39 L (.int 0 :: st) h := xo_iconst (k := 0) (by decide +kernel) (by decide)
set_option maxRecDepth 20000 in
theorem u_X8_openAll_39 (L : xL) (i : Int32) (a : Nat) (st : List Value) (h : xH) (hx : xix i (xai h a).1) : xf 131 39 L (.int i :: .ref a :: st) h = xf 131 40 L (.int ((xai h a).2 i.toNatClampNeg) :: st) h := xo_iaload (by decide +kernel) hx
set_option maxRecDepth 20000 in
theorem u_X8_openAll_40 (L : xL) (a b : Int32) (st : List Value) (h : xH) : xf 131 40 L (.int b :: .int a :: st) h = if a < b then xf 131 43 L st h else xf 131 70 L st h := xo_icmp_ge (t := 70) (by decide +kernel) rfl
set_option maxRecDepth 20000 in
theorem u_X8_openAll_43 (l1 : Option Value) (x : Nat) (st : List Value) (h : xH) : xf 131 43 [some (.ref x), l1] st h = xf 131 44 [some (.ref x), l1] (.ref x :: st) h := xo_aload (k := 0) (by decide +kernel) rfl
set_option maxRecDepth 20000 in
theorem u_X8_openAll_44 (L : xL) (a : Nat) (st : List Value) (h : xH) (hc : (xob h a).1 = 8) : xf 131 44 L (.ref a :: st) h = xf 131 47 L ((xob h a).2.getD 1 .null :: st) h := xo_getf (r := 513) (by decide +kernel) (by decide) hc
set_option maxRecDepth 20000 in
theorem u_X8_openAll_47 (L : xL) (st : List Value) (h : xH) : xf 131 47 L st h = xf 131 48 L (.int 1 :: st) h := xo_iconst (k := 1) (by decide +kernel) (by decide)
set_option maxRecDepth 20000 in
theorem u_X8_openAll_48 (l0 : Option Value) (x : Int32) (st : List Value) (h : xH) : xf 131 48 [l0, some (.int x)] st h = xf 131 49 [l0, some (.int x)] (.int x :: st) h := xo_iload (k := 1) (by decide +kernel) rfl
set_option maxRecDepth 20000 in
theorem u_X8_openAll_49 (L : xL) (a b : Int32) (st : List Value) (h : xH) : xf 131 49 L (.int b :: .int a :: st) h = xf 131 50 L (.int (a + b) :: st) h := xo_iadd (by decide +kernel)
set_option maxRecDepth 20000 in
theorem u_X8_openAll_50 (L : xL) (i : Int32) (a : Nat) (st : List Value) (h : xH) (hx : xix i (xai h a).1) : xf 131 50 L (.int i :: .ref a :: st) h = xf 131 51 L (.int ((xai h a).2 i.toNatClampNeg) :: st) h := xo_iaload (by decide +kernel) hx
set_option maxRecDepth 20000 in
theorem u_X8_openAll_51 (L : xL) (st : List Value) (h : xH) : xf 131 51 L st h = xf 131 53 L (.int 8 :: st) h := xo_iconst (k := 8) (by decide +kernel) (by decide)
set_option maxRecDepth 20000 in
theorem u_X8_openAll_53 (L : xL) (a b : Int32) (st : List Value) (h : xH) : xf 131 53 L (.int b :: .int a :: st) h = if a < b then xf 131 56 L st h else xf 131 62 L st h := xo_icmp_ge (t := 62) (by decide +kernel) rfl
set_option maxRecDepth 20000 in
theorem u_X8_openAll_56 (l0 : Option Value) (x : Int32) (st : List Value) (h : xH) : xf 131 56 [l0, some (.int x)] st h = xf 131 59 [xcat l0, some (.int (x + 1))] st h := xo_iinc (k := 1) (c := 1) (by decide +kernel) rfl (by decide) rfl
set_option maxRecDepth 20000 in
theorem u_X8_openAll_59 (L : xL) (st : List Value) (h : xH) : xf 131 59 L st h = xf 131 33 L st h := xo_goto (n := 62) (t := 33) (by decide +kernel) rfl
set_option maxRecDepth 20000 in
theorem u_X8_openAll_62 (l1 : Option Value) (x : Nat) (st : List Value) (h : xH) : xf 131 62 [some (.ref x), l1] st h = xf 131 63 [some (.ref x), l1] (.ref x :: st) h := xo_aload (k := 0) (by decide +kernel) rfl
set_option maxRecDepth 20000 in
theorem u_X8_openAll_63 (l0 : Option Value) (x : Int32) (st : List Value) (h : xH) : xf 131 63 [l0, some (.int x)] st h = xf 131 64 [l0, some (.int x)] (.int x :: st) h := xo_iload (k := 1) (by decide +kernel) rfl
set_option maxRecDepth 20000 in
theorem u_X8_openAll_64 (L : xL) (v0 : Int32) (b : Nat) (st : List Value) (h : xH) (hb : (xob h b).1 = 8) (hl : st.length ≤ 4) : xf 131 64 L (.int v0 :: .ref b :: st) h = xgo 131 64 67 L st (xev 121 [.ref b, .int v0] h) := xo_callV (as := [.int v0]) (by decide +kernel) rfl ⟨(by decide +kernel : xna 121 = 1), Nat.le_of_ble_eq_true rfl, rfl, by decide⟩ hb hl
set_option maxRecDepth 20000 in
theorem u_X8_openAll_67 (L : xL) (st : List Value) (h : xH) : xf 131 67 L st h = xf 131 33 L st h := xo_goto (n := 70) (t := 33) (by decide +kernel) rfl
set_option maxRecDepth 20000 in
theorem u_X8_openAll_70 (l1 : Option Value) (x : Nat) (st : List Value) (h : xH) : xf 131 70 [some (.ref x), l1] st h = xf 131 71 [some (.ref x), l1] (.ref x :: st) h := xo_aload (k := 0) (by decide +kernel) rfl
set_option maxRecDepth 20000 in
theorem u_X8_openAll_71 (L : xL) (b : Nat) (st : List Value) (h : xH) (hb : (xob h b).1 = 8) (hl : st.length ≤ 4) : xf 131 71 L (.ref b :: st) h = xgo 131 71 74 L st (xev 119 [.ref b] h) := xo_callV (as := []) (by decide +kernel) rfl ⟨(by decide +kernel : xna 119 = 0), Nat.le_of_ble_eq_true rfl, rfl, by decide⟩ hb hl
set_option maxRecDepth 20000 in
theorem u_X8_openAll_74 (l1 : Option Value) (x : Nat) (st : List Value) (h : xH) : xf 131 74 [some (.ref x), l1] st h = xf 131 75 [some (.ref x), l1] (.ref x :: st) h := xo_aload (k := 0) (by decide +kernel) rfl
set_option maxRecDepth 20000 in
theorem u_X8_openAll_75 (L : xL) (a : Nat) (st : List Value) (h : xH) (hc : (xob h a).1 = 8) : xf 131 75 L (.ref a :: st) h = xf 131 78 L ((xob h a).2.getD 1 .null :: st) h := xo_getf (r := 513) (by decide +kernel) (by decide) hc
set_option maxRecDepth 20000 in
theorem u_X8_openAll_78 (L : xL) (st : List Value) (h : xH) : xf 131 78 L st h = xf 131 79 L (.int 0 :: st) h := xo_iconst (k := 0) (by decide +kernel) (by decide)
set_option maxRecDepth 20000 in
theorem u_X8_openAll_79 (L : xL) (i : Int32) (a : Nat) (st : List Value) (h : xH) (hx : xix i (xai h a).1) : xf 131 79 L (.int i :: .ref a :: st) h = xf 131 80 L (.int ((xai h a).2 i.toNatClampNeg) :: st) h := xo_iaload (by decide +kernel) hx
set_option maxRecDepth 20000 in
theorem u_X8_openAll_80 (L : xL) (x : Int32) (h : xH) : xf 131 80 L [.int x] h = some (.inl (some (.int x)), h) := xo_ireturn (n := 81) (by decide +kernel) rfl
set_option maxRecDepth 20000 in
theorem e_X8_openAll (v0 : Nat) (h : xH) : xev 131 [.ref v0] h = xf 131 0 [some (.ref v0), none] [] h := rfl
set_option maxRecDepth 20000 in
theorem u_X8_set_0 (l1 l2 l3 : Option Value) (x : Nat) (st : List Value) (h : xH) : xf 132 0 [some (.ref x), l1, l2, l3] st h = xf 132 1 [some (.ref x), l1, l2, l3] (.ref x :: st) h := xo_aload (k := 0) (by decide +kernel) rfl
set_option maxRecDepth 20000 in
theorem u_X8_set_1 (l0 l2 l3 : Option Value) (x : Int32) (st : List Value) (h : xH) : xf 132 1 [l0, some (.int x), l2, l3] st h = xf 132 2 [l0, some (.int x), l2, l3] (.int x :: st) h := xo_iload (k := 1) (by decide +kernel) rfl
set_option maxRecDepth 20000 in
theorem u_X8_set_2 (L : xL) (st : List Value) (h : xH) : xf 132 2 L st h = xf 132 3 L (.int 0 :: st) h := xo_iconst (k := 0) (by decide +kernel) (by decide)
set_option maxRecDepth 20000 in
theorem u_X8_set_3 (L : xL) (st : List Value) (h : xH) : xf 132 3 L st h = xf 132 4 L (.int 1 :: st) h := xo_iconst (k := 1) (by decide +kernel) (by decide)
set_option maxRecDepth 20000 in
theorem u_X8_set_4 (L : xL) (v0 : Int32) (v1 : Int32) (v2 : Int32) (st : List Value) (h : xH) (hl : st.length ≤ 4) : xf 132 4 L (.int v2 :: .int v1 :: .int v0 :: st) h = xgo 132 4 7 L st (xev 99 [.int v0, .int v1, .int v2] h) := xo_callS (as := [.int v0, .int v1, .int v2]) (by decide +kernel) rfl ⟨(by decide +kernel : xna 99 = 3), Nat.le_of_ble_eq_true rfl, by decide⟩ hl
set_option maxRecDepth 20000 in
theorem u_X8_set_7 (L : xL) (a : Int32) (st : List Value) (h : xH) : xf 132 7 L (.int a :: st) h = if a = 0 then xf 132 10 L st h else xf 132 14 L st h := xo_if_ne (t := 14) (by decide +kernel) rfl
set_option maxRecDepth 20000 in
theorem u_X8_set_10 (L : xL) (st : List Value) (h : xH) : xf 132 10 L st h = xf 132 11 L (.int 1 :: st) h := xo_iconst (k := 1) (by decide +kernel) (by decide)
set_option maxRecDepth 20000 in
theorem u_X8_set_11 (L : xL) (st : List Value) (h : xH) : xf 132 11 L st h = xf 132 37 L st h := xo_goto (n := 14) (t := 37) (by decide +kernel) rfl
set_option maxRecDepth 20000 in
theorem u_X8_set_14 (l0 l1 l3 : Option Value) (x : Int32) (st : List Value) (h : xH) : xf 132 14 [l0, l1, some (.int x), l3] st h = xf 132 15 [l0, l1, some (.int x), l3] (.int x :: st) h := xo_iload (k := 2) (by decide +kernel) rfl
set_option maxRecDepth 20000 in
theorem u_X8_set_15 (l0 l2 l3 : Option Value) (x : Int32) (st : List Value) (h : xH) : xf 132 15 [l0, some (.int x), l2, l3] st h = xf 132 16 [l0, some (.int x), l2, l3] (.int x :: st) h := xo_iload (k := 1) (by decide +kernel) rfl
set_option maxRecDepth 20000 in
theorem u_X8_set_16 (L : xL) (a : Int32) (st : List Value) (h : xH) : xf 132 16 L (.int a :: st) h = if a = 0 then xf 132 19 L st h else xf 132 23 L st h := xo_if_ne (t := 23) (by decide +kernel) rfl
set_option maxRecDepth 20000 in
theorem u_X8_set_19 (L : xL) (st : List Value) (h : xH) : xf 132 19 L st h = xf 132 20 L (.int 2 :: st) h := xo_iconst (k := 2) (by decide +kernel) (by decide)
set_option maxRecDepth 20000 in
theorem u_X8_set_20 (L : xL) (st : List Value) (h : xH) : xf 132 20 L st h = xf 132 24 L st h := xo_goto (n := 23) (t := 24) (by decide +kernel) rfl
set_option maxRecDepth 20000 in
theorem u_X8_set_23 (L : xL) (st : List Value) (h : xH) : xf 132 23 L st h = xf 132 24 L (.int 1 :: st) h := xo_iconst (k := 1) (by decide +kernel) (by decide)
set_option maxRecDepth 20000 in
theorem u_X8_set_24 (L : xL) (st : List Value) (h : xH) : xf 132 24 L st h = xf 132 26 L (.int 9 :: st) h := xo_iconst (k := 9) (by decide +kernel) (by decide)
set_option maxRecDepth 20000 in
theorem u_X8_set_26 (L : xL) (v0 : Int32) (v1 : Int32) (v2 : Int32) (st : List Value) (h : xH) (hl : st.length ≤ 4) : xf 132 26 L (.int v2 :: .int v1 :: .int v0 :: st) h = xgo 132 26 29 L st (xev 99 [.int v0, .int v1, .int v2] h) := xo_callS (as := [.int v0, .int v1, .int v2]) (by decide +kernel) rfl ⟨(by decide +kernel : xna 99 = 3), Nat.le_of_ble_eq_true rfl, by decide⟩ hl
set_option maxRecDepth 20000 in
theorem u_X8_set_29 (L : xL) (a : Int32) (st : List Value) (h : xH) : xf 132 29 L (.int a :: st) h = if a = 0 then xf 132 32 L st h else xf 132 36 L st h := xo_if_ne (t := 36) (by decide +kernel) rfl
set_option maxRecDepth 20000 in
theorem u_X8_set_32 (L : xL) (st : List Value) (h : xH) : xf 132 32 L st h = xf 132 33 L (.int 2 :: st) h := xo_iconst (k := 2) (by decide +kernel) (by decide)
set_option maxRecDepth 20000 in
theorem u_X8_set_33 (L : xL) (st : List Value) (h : xH) : xf 132 33 L st h = xf 132 37 L st h := xo_goto (n := 36) (t := 37) (by decide +kernel) rfl
set_option maxRecDepth 20000 in
theorem u_X8_set_36 (L : xL) (st : List Value) (h : xH) : xf 132 36 L st h = xf 132 37 L (.int 0 :: st) h := xo_iconst (k := 0) (by decide +kernel) (by decide)
set_option maxRecDepth 20000 in
theorem u_X8_set_37 (L : xL) (v0 : Int32) (b : Nat) (st : List Value) (h : xH) (hb : (xob h b).1 = 8) (hl : st.length ≤ 4) : xf 132 37 L (.int v0 :: .ref b :: st) h = xgo 132 37 40 L st (xev 100 [.ref b, .int v0] h) := xo_callV (as := [.int v0]) (by decide +kernel) rfl ⟨(by decide +kernel : xna 100 = 1), Nat.le_of_ble_eq_true rfl, rfl, by decide⟩ hb hl
set_option maxRecDepth 20000 in
theorem u_X8_set_40 (L : xL) (a : Int32) (st : List Value) (h : xH) : xf 132 40 L (.int a :: st) h = if a = 0 then xf 132 43 L st h else xf 132 45 L st h := xo_if_ne (t := 45) (by decide +kernel) rfl
set_option maxRecDepth 20000 in
theorem u_X8_set_43 (L : xL) (st : List Value) (h : xH) : xf 132 43 L st h = xf 132 44 L (.int 0 :: st) h := xo_iconst (k := 0) (by decide +kernel) (by decide)
set_option maxRecDepth 20000 in
theorem u_X8_set_44 (L : xL) (x : Int32) (h : xH) : xf 132 44 L [.int x] h = some (.inl (some (.int x)), h) := xo_ireturn (n := 45) (by decide +kernel) rfl
set_option maxRecDepth 20000 in
theorem u_X8_set_45 (l1 l2 l3 : Option Value) (x : Nat) (st : List Value) (h : xH) : xf 132 45 [some (.ref x), l1, l2, l3] st h = xf 132 46 [some (.ref x), l1, l2, l3] (.ref x :: st) h := xo_aload (k := 0) (by decide +kernel) rfl
set_option maxRecDepth 20000 in
theorem u_X8_set_46 (L : xL) (b : Nat) (st : List Value) (h : xH) (hb : (xob h b).1 = 8) (hl : st.length ≤ 4) : xf 132 46 L (.ref b :: st) h = xgo 132 46 49 L st (xev 101 [.ref b] h) := xo_callV (as := []) (by decide +kernel) rfl ⟨(by decide +kernel : xna 101 = 0), Nat.le_of_ble_eq_true rfl, rfl, by decide⟩ hb hl
set_option maxRecDepth 20000 in
theorem u_X8_set_49 (l1 l2 l3 : Option Value) (x : Nat) (st : List Value) (h : xH) : xf 132 49 [some (.ref x), l1, l2, l3] st h = xf 132 50 [some (.ref x), l1, l2, l3] (.ref x :: st) h := xo_aload (k := 0) (by decide +kernel) rfl
set_option maxRecDepth 20000 in
theorem u_X8_set_50 (L : xL) (a : Nat) (st : List Value) (h : xH) (hc : (xob h a).1 = 8) : xf 132 50 L (.ref a :: st) h = xf 132 53 L ((xob h a).2.getD 1 .null :: st) h := xo_getf (r := 513) (by decide +kernel) (by decide) hc
set_option maxRecDepth 20000 in
theorem u_X8_set_53 (L : xL) (st : List Value) (h : xH) : xf 132 53 L st h = xf 132 55 L (.int 113 :: st) h := xo_iconst (k := 113) (by decide +kernel) (by decide)
set_option maxRecDepth 20000 in
theorem u_X8_set_55 (l0 l2 l3 : Option Value) (x : Int32) (st : List Value) (h : xH) : xf 132 55 [l0, some (.int x), l2, l3] st h = xf 132 56 [l0, some (.int x), l2, l3] (.int x :: st) h := xo_iload (k := 1) (by decide +kernel) rfl
set_option maxRecDepth 20000 in
theorem u_X8_set_56 (L : xL) (a b : Int32) (st : List Value) (h : xH) : xf 132 56 L (.int b :: .int a :: st) h = xf 132 57 L (.int (a + b) :: st) h := xo_iadd (by decide +kernel)
set_option maxRecDepth 20000 in
theorem u_X8_set_57 (L : xL) (i : Int32) (a : Nat) (st : List Value) (h : xH) (hx : xix i (xai h a).1) : xf 132 57 L (.int i :: .ref a :: st) h = xf 132 58 L (.int ((xai h a).2 i.toNatClampNeg) :: st) h := xo_iaload (by decide +kernel) hx
set_option maxRecDepth 20000 in
theorem u_X8_set_58 (l0 l1 l2 l3 : Option Value) (x : Int32) (st : List Value) (h : xH) : xf 132 58 [l0, l1, l2, l3] (.int x :: st) h = xf 132 59 [l0, l1, xcat l2, some (.int x)] st h := xo_istore (k := 3) (by decide +kernel) (Nat.le_of_ble_eq_true rfl) rfl
set_option maxRecDepth 20000 in
theorem u_X8_set_59 (l1 l2 l3 : Option Value) (x : Nat) (st : List Value) (h : xH) : xf 132 59 [some (.ref x), l1, l2, l3] st h = xf 132 60 [some (.ref x), l1, l2, l3] (.ref x :: st) h := xo_aload (k := 0) (by decide +kernel) rfl
set_option maxRecDepth 20000 in
theorem u_X8_set_60 (L : xL) (a : Nat) (st : List Value) (h : xH) (hc : (xob h a).1 = 8) : xf 132 60 L (.ref a :: st) h = xf 132 63 L ((xob h a).2.getD 1 .null :: st) h := xo_getf (r := 513) (by decide +kernel) (by decide) hc
set_option maxRecDepth 20000 in
theorem u_X8_set_63 (L : xL) (st : List Value) (h : xH) : xf 132 63 L st h = xf 132 65 L (.int 113 :: st) h := xo_iconst (k := 113) (by decide +kernel) (by decide)
set_option maxRecDepth 20000 in
theorem u_X8_set_65 (l0 l2 l3 : Option Value) (x : Int32) (st : List Value) (h : xH) : xf 132 65 [l0, some (.int x), l2, l3] st h = xf 132 66 [l0, some (.int x), l2, l3] (.int x :: st) h := xo_iload (k := 1) (by decide +kernel) rfl
set_option maxRecDepth 20000 in
theorem u_X8_set_66 (L : xL) (a b : Int32) (st : List Value) (h : xH) : xf 132 66 L (.int b :: .int a :: st) h = xf 132 67 L (.int (a + b) :: st) h := xo_iadd (by decide +kernel)
set_option maxRecDepth 20000 in
theorem u_X8_set_67 (l0 l1 l3 : Option Value) (x : Int32) (st : List Value) (h : xH) : xf 132 67 [l0, l1, some (.int x), l3] st h = xf 132 68 [l0, l1, some (.int x), l3] (.int x :: st) h := xo_iload (k := 2) (by decide +kernel) rfl
set_option maxRecDepth 20000 in
theorem u_X8_set_68 (L : xL) (v i : Int32) (a : Nat) (st : List Value) (h : xH) (hx : xix i (xai h a).1) : xf 132 68 L (.int v :: .int i :: .ref a :: st) h = xf 132 69 L st (xsi h a i.toNatClampNeg v) := xo_iastore (by decide +kernel) hx
set_option maxRecDepth 20000 in
theorem u_X8_set_69 (l0 l1 l2 : Option Value) (x : Int32) (st : List Value) (h : xH) : xf 132 69 [l0, l1, l2, some (.int x)] st h = xf 132 70 [l0, l1, l2, some (.int x)] (.int x :: st) h := xo_iload (k := 3) (by decide +kernel) rfl
set_option maxRecDepth 20000 in
theorem u_X8_set_70 (L : xL) (x : Int32) (h : xH) : xf 132 70 L [.int x] h = some (.inl (some (.int x)), h) := xo_ireturn (n := 71) (by decide +kernel) rfl
set_option maxRecDepth 20000 in
theorem e_X8_set (v0 : Nat) (v1 : Int32) (v2 : Int32) (h : xH) : xev 132 [.ref v0, .int v1, .int v2] h = xf 132 0 [some (.ref v0), some (.int v1), some (.int v2), none] [] h := rfl
set_option maxRecDepth 20000 in
theorem u_X8_append_0 (l1 : Option Value) (x : Nat) (st : List Value) (h : xH) : xf 133 0 [some (.ref x), l1] st h = xf 133 1 [some (.ref x), l1] (.ref x :: st) h := xo_aload (k := 0) (by decide +kernel) rfl
set_option maxRecDepth 20000 in
theorem u_X8_append_1 (l0 : Option Value) (x : Int32) (st : List Value) (h : xH) : xf 133 1 [l0, some (.int x)] st h = xf 133 2 [l0, some (.int x)] (.int x :: st) h := xo_iload (k := 1) (by decide +kernel) rfl
set_option maxRecDepth 20000 in
theorem u_X8_append_2 (L : xL) (st : List Value) (h : xH) : xf 133 2 L st h = xf 133 4 L (.int 33 :: st) h := xo_iconst (k := 33) (by decide +kernel) (by decide)
set_option maxRecDepth 20000 in
theorem u_X8_append_4 (L : xL) (st : List Value) (h : xH) : xf 133 4 L st h = xf 133 6 L (.int 126 :: st) h := xo_iconst (k := 126) (by decide +kernel) (by decide)
set_option maxRecDepth 20000 in
theorem u_X8_append_6 (L : xL) (v0 : Int32) (v1 : Int32) (v2 : Int32) (st : List Value) (h : xH) (hl : st.length ≤ 4) : xf 133 6 L (.int v2 :: .int v1 :: .int v0 :: st) h = xgo 133 6 9 L st (xev 99 [.int v0, .int v1, .int v2] h) := xo_callS (as := [.int v0, .int v1, .int v2]) (by decide +kernel) rfl ⟨(by decide +kernel : xna 99 = 3), Nat.le_of_ble_eq_true rfl, by decide⟩ hl
set_option maxRecDepth 20000 in
theorem u_X8_append_9 (L : xL) (a : Int32) (st : List Value) (h : xH) : xf 133 9 L (.int a :: st) h = if a = 0 then xf 133 12 L st h else xf 133 16 L st h := xo_if_ne (t := 16) (by decide +kernel) rfl
set_option maxRecDepth 20000 in
theorem u_X8_append_12 (L : xL) (st : List Value) (h : xH) : xf 133 12 L st h = xf 133 13 L (.int 1 :: st) h := xo_iconst (k := 1) (by decide +kernel) (by decide)
set_option maxRecDepth 20000 in
theorem u_X8_append_13 (L : xL) (st : List Value) (h : xH) : xf 133 13 L st h = xf 133 30 L st h := xo_goto (n := 16) (t := 30) (by decide +kernel) rfl
set_option maxRecDepth 20000 in
theorem u_X8_append_16 (l1 : Option Value) (x : Nat) (st : List Value) (h : xH) : xf 133 16 [some (.ref x), l1] st h = xf 133 17 [some (.ref x), l1] (.ref x :: st) h := xo_aload (k := 0) (by decide +kernel) rfl
set_option maxRecDepth 20000 in
theorem u_X8_append_17 (L : xL) (a : Nat) (st : List Value) (h : xH) (hc : (xob h a).1 = 8) : xf 133 17 L (.ref a :: st) h = xf 133 20 L ((xob h a).2.getD 6 .null :: st) h := xo_getf (r := 518) (by decide +kernel) (by decide) hc
set_option maxRecDepth 20000 in
theorem u_X8_append_20 (L : xL) (st : List Value) (h : xH) : xf 133 20 L st h = xf 133 22 L (.int 60 :: st) h := xo_iconst (k := 60) (by decide +kernel) (by decide)
set_option maxRecDepth 20000 in
theorem u_X8_append_22 (L : xL) (a b : Int32) (st : List Value) (h : xH) : xf 133 22 L (.int b :: .int a :: st) h = if a = b then xf 133 25 L st h else xf 133 29 L st h := xo_icmp_ne (t := 29) (by decide +kernel) rfl
set_option maxRecDepth 20000 in
theorem u_X8_append_25 (L : xL) (st : List Value) (h : xH) : xf 133 25 L st h = xf 133 26 L (.int 2 :: st) h := xo_iconst (k := 2) (by decide +kernel) (by decide)
set_option maxRecDepth 20000 in
theorem u_X8_append_26 (L : xL) (st : List Value) (h : xH) : xf 133 26 L st h = xf 133 30 L st h := xo_goto (n := 29) (t := 30) (by decide +kernel) rfl
set_option maxRecDepth 20000 in
theorem u_X8_append_29 (L : xL) (st : List Value) (h : xH) : xf 133 29 L st h = xf 133 30 L (.int 0 :: st) h := xo_iconst (k := 0) (by decide +kernel) (by decide)
set_option maxRecDepth 20000 in
theorem u_X8_append_30 (L : xL) (v0 : Int32) (b : Nat) (st : List Value) (h : xH) (hb : (xob h b).1 = 8) (hl : st.length ≤ 4) : xf 133 30 L (.int v0 :: .ref b :: st) h = xgo 133 30 33 L st (xev 100 [.ref b, .int v0] h) := xo_callV (as := [.int v0]) (by decide +kernel) rfl ⟨(by decide +kernel : xna 100 = 1), Nat.le_of_ble_eq_true rfl, rfl, by decide⟩ hb hl
set_option maxRecDepth 20000 in
theorem u_X8_append_33 (L : xL) (a : Int32) (st : List Value) (h : xH) : xf 133 33 L (.int a :: st) h = if a = 0 then xf 133 36 L st h else xf 133 38 L st h := xo_if_ne (t := 38) (by decide +kernel) rfl
set_option maxRecDepth 20000 in
theorem u_X8_append_36 (L : xL) (st : List Value) (h : xH) : xf 133 36 L st h = xf 133 37 L (.int 0 :: st) h := xo_iconst (k := 0) (by decide +kernel) (by decide)
set_option maxRecDepth 20000 in
theorem u_X8_append_37 (L : xL) (x : Int32) (h : xH) : xf 133 37 L [.int x] h = some (.inl (some (.int x)), h) := xo_ireturn (n := 38) (by decide +kernel) rfl
set_option maxRecDepth 20000 in
theorem u_X8_append_38 (l1 : Option Value) (x : Nat) (st : List Value) (h : xH) : xf 133 38 [some (.ref x), l1] st h = xf 133 39 [some (.ref x), l1] (.ref x :: st) h := xo_aload (k := 0) (by decide +kernel) rfl
set_option maxRecDepth 20000 in
theorem u_X8_append_39 (L : xL) (a : Nat) (st : List Value) (h : xH) (hc : (xob h a).1 = 8) : xf 133 39 L (.ref a :: st) h = xf 133 42 L ((xob h a).2.getD 5 .null :: st) h := xo_getf (r := 517) (by decide +kernel) (by decide) hc
set_option maxRecDepth 20000 in
theorem u_X8_append_42 (l1 : Option Value) (x : Nat) (st : List Value) (h : xH) : xf 133 42 [some (.ref x), l1] st h = xf 133 43 [some (.ref x), l1] (.ref x :: st) h := xo_aload (k := 0) (by decide +kernel) rfl
set_option maxRecDepth 20000 in
theorem u_X8_append_43 (L : xL) (a : Nat) (st : List Value) (h : xH) (hc : (xob h a).1 = 8) : xf 133 43 L (.ref a :: st) h = xf 133 46 L ((xob h a).2.getD 6 .null :: st) h := xo_getf (r := 518) (by decide +kernel) (by decide) hc
set_option maxRecDepth 20000 in
theorem u_X8_append_46 (l0 : Option Value) (x : Int32) (st : List Value) (h : xH) : xf 133 46 [l0, some (.int x)] st h = xf 133 47 [l0, some (.int x)] (.int x :: st) h := xo_iload (k := 1) (by decide +kernel) rfl
set_option maxRecDepth 20000 in
theorem u_X8_append_47 (L : xL) (v i : Int32) (a : Nat) (st : List Value) (h : xH) (hx : xix i (xai h a).1) : xf 133 47 L (.int v :: .int i :: .ref a :: st) h = xf 133 48 L st (xsi h a i.toNatClampNeg v) := xo_iastore (by decide +kernel) hx
set_option maxRecDepth 20000 in
theorem u_X8_append_48 (l1 : Option Value) (x : Nat) (st : List Value) (h : xH) : xf 133 48 [some (.ref x), l1] st h = xf 133 49 [some (.ref x), l1] (.ref x :: st) h := xo_aload (k := 0) (by decide +kernel) rfl
set_option maxRecDepth 20000 in
theorem u_X8_append_49 (L : xL) (a : Nat) (st : List Value) (h : xH) : xf 133 49 L (.ref a :: st) h = xf 133 50 L (.ref a :: .ref a :: st) h := xo_dupR (by decide +kernel)
set_option maxRecDepth 20000 in
theorem u_X8_append_50 (L : xL) (a : Nat) (st : List Value) (h : xH) (hc : (xob h a).1 = 8) : xf 133 50 L (.ref a :: st) h = xf 133 53 L ((xob h a).2.getD 6 .null :: st) h := xo_getf (r := 518) (by decide +kernel) (by decide) hc
set_option maxRecDepth 20000 in
theorem u_X8_append_53 (L : xL) (st : List Value) (h : xH) : xf 133 53 L st h = xf 133 54 L (.int 1 :: st) h := xo_iconst (k := 1) (by decide +kernel) (by decide)
set_option maxRecDepth 20000 in
theorem u_X8_append_54 (L : xL) (a b : Int32) (st : List Value) (h : xH) : xf 133 54 L (.int b :: .int a :: st) h = xf 133 55 L (.int (a + b) :: st) h := xo_iadd (by decide +kernel)
set_option maxRecDepth 20000 in
theorem u_X8_append_55 (L : xL) (v : Int32) (a : Nat) (st : List Value) (h : xH) (hc : (xob h a).1 = 8) : xf 133 55 L (.int v :: .ref a :: st) h = xf 133 58 L st (xso h a 6 (.int v)) := xo_putf (r := 518) (by decide +kernel) (by decide) rfl hc
set_option maxRecDepth 20000 in
theorem u_X8_append_58 (l1 : Option Value) (x : Nat) (st : List Value) (h : xH) : xf 133 58 [some (.ref x), l1] st h = xf 133 59 [some (.ref x), l1] (.ref x :: st) h := xo_aload (k := 0) (by decide +kernel) rfl
set_option maxRecDepth 20000 in
theorem u_X8_append_59 (L : xL) (a : Nat) (st : List Value) (h : xH) (hc : (xob h a).1 = 8) : xf 133 59 L (.ref a :: st) h = xf 133 62 L ((xob h a).2.getD 6 .null :: st) h := xo_getf (r := 518) (by decide +kernel) (by decide) hc
set_option maxRecDepth 20000 in
theorem u_X8_append_62 (L : xL) (x : Int32) (h : xH) : xf 133 62 L [.int x] h = some (.inl (some (.int x)), h) := xo_ireturn (n := 63) (by decide +kernel) rfl
set_option maxRecDepth 20000 in
theorem e_X8_append (v0 : Nat) (v1 : Int32) (h : xH) : xev 133 [.ref v0, .int v1] h = xf 133 0 [some (.ref v0), some (.int v1)] [] h := rfl
set_option maxRecDepth 20000 in
theorem u_X8_clearBuffer_0 (l1 : Option Value) (x : Nat) (st : List Value) (h : xH) : xf 134 0 [some (.ref x), l1] st h = xf 134 1 [some (.ref x), l1] (.ref x :: st) h := xo_aload (k := 0) (by decide +kernel) rfl
set_option maxRecDepth 20000 in
theorem u_X8_clearBuffer_1 (L : xL) (st : List Value) (h : xH) : xf 134 1 L st h = xf 134 2 L (.int 0 :: st) h := xo_iconst (k := 0) (by decide +kernel) (by decide)
set_option maxRecDepth 20000 in
theorem u_X8_clearBuffer_2 (L : xL) (v : Int32) (a : Nat) (st : List Value) (h : xH) (hc : (xob h a).1 = 8) : xf 134 2 L (.int v :: .ref a :: st) h = xf 134 5 L st (xso h a 0 (.int v)) := xo_putf (r := 512) (by decide +kernel) (by decide) rfl hc
set_option maxRecDepth 20000 in
theorem u_X8_clearBuffer_5 (l1 : Option Value) (x : Nat) (st : List Value) (h : xH) : xf 134 5 [some (.ref x), l1] st h = xf 134 6 [some (.ref x), l1] (.ref x :: st) h := xo_aload (k := 0) (by decide +kernel) rfl
set_option maxRecDepth 20000 in
theorem u_X8_clearBuffer_6 (L : xL) (a : Nat) (st : List Value) (h : xH) (hc : (xob h a).1 = 8) : xf 134 6 L (.ref a :: st) h = xf 134 9 L ((xob h a).2.getD 6 .null :: st) h := xo_getf (r := 518) (by decide +kernel) (by decide) hc
set_option maxRecDepth 20000 in
theorem u_X8_clearBuffer_9 (l0 l1 : Option Value) (x : Int32) (st : List Value) (h : xH) : xf 134 9 [l0, l1] (.int x :: st) h = xf 134 10 [xcat l0, some (.int x)] st h := xo_istore (k := 1) (by decide +kernel) (Nat.le_of_ble_eq_true rfl) rfl
set_option maxRecDepth 20000 in
theorem u_X8_clearBuffer_10 (l1 : Option Value) (x : Nat) (st : List Value) (h : xH) : xf 134 10 [some (.ref x), l1] st h = xf 134 11 [some (.ref x), l1] (.ref x :: st) h := xo_aload (k := 0) (by decide +kernel) rfl
set_option maxRecDepth 20000 in
theorem u_X8_clearBuffer_11 (L : xL) (st : List Value) (h : xH) : xf 134 11 L st h = xf 134 12 L (.int 0 :: st) h := xo_iconst (k := 0) (by decide +kernel) (by decide)
set_option maxRecDepth 20000 in
theorem u_X8_clearBuffer_12 (L : xL) (v : Int32) (a : Nat) (st : List Value) (h : xH) (hc : (xob h a).1 = 8) : xf 134 12 L (.int v :: .ref a :: st) h = xf 134 15 L st (xso h a 6 (.int v)) := xo_putf (r := 518) (by decide +kernel) (by decide) rfl hc
set_option maxRecDepth 20000 in
theorem u_X8_clearBuffer_15 (l0 : Option Value) (x : Int32) (st : List Value) (h : xH) : xf 134 15 [l0, some (.int x)] st h = xf 134 16 [l0, some (.int x)] (.int x :: st) h := xo_iload (k := 1) (by decide +kernel) rfl
set_option maxRecDepth 20000 in
theorem u_X8_clearBuffer_16 (L : xL) (x : Int32) (h : xH) : xf 134 16 L [.int x] h = some (.inl (some (.int x)), h) := xo_ireturn (n := 17) (by decide +kernel) rfl
set_option maxRecDepth 20000 in
theorem e_X8_clearBuffer (v0 : Nat) (h : xH) : xev 134 [.ref v0] h = xf 134 0 [some (.ref v0), none] [] h := rfl
set_option maxRecDepth 20000 in
theorem u_X8_firstError_0 (x : Nat) (st : List Value) (h : xH) : xf 135 0 [some (.ref x)] st h = xf 135 1 [some (.ref x)] (.ref x :: st) h := xo_aload (k := 0) (by decide +kernel) rfl
set_option maxRecDepth 20000 in
theorem u_X8_firstError_1 (L : xL) (st : List Value) (h : xH) : xf 135 1 L st h = xf 135 2 L (.int 0 :: st) h := xo_iconst (k := 0) (by decide +kernel) (by decide)
set_option maxRecDepth 20000 in
theorem u_X8_firstError_2 (L : xL) (v : Int32) (a : Nat) (st : List Value) (h : xH) (hc : (xob h a).1 = 8) : xf 135 2 L (.int v :: .ref a :: st) h = xf 135 5 L st (xso h a 0 (.int v)) := xo_putf (r := 512) (by decide +kernel) (by decide) rfl hc
set_option maxRecDepth 20000 in
theorem u_X8_firstError_5 (x : Nat) (st : List Value) (h : xH) : xf 135 5 [some (.ref x)] st h = xf 135 6 [some (.ref x)] (.ref x :: st) h := xo_aload (k := 0) (by decide +kernel) rfl
set_option maxRecDepth 20000 in
theorem u_X8_firstError_6 (L : xL) (st : List Value) (h : xH) : xf 135 6 L st h = xf 135 7 L (.int 0 :: st) h := xo_iconst (k := 0) (by decide +kernel) (by decide)
set_option maxRecDepth 20000 in
theorem u_X8_firstError_7 (L : xL) (v0 : Int32) (b : Nat) (st : List Value) (h : xH) (hb : (xob h b).1 = 8) (hl : st.length ≤ 4) : xf 135 7 L (.int v0 :: .ref b :: st) h = xgo 135 7 10 L st (xev 116 [.ref b, .int v0] h) := xo_callV (as := [.int v0]) (by decide +kernel) rfl ⟨(by decide +kernel : xna 116 = 1), Nat.le_of_ble_eq_true rfl, rfl, by decide⟩ hb hl
set_option maxRecDepth 20000 in
theorem u_X8_firstError_10 (x : Nat) (st : List Value) (h : xH) : xf 135 10 [some (.ref x)] st h = xf 135 11 [some (.ref x)] (.ref x :: st) h := xo_aload (k := 0) (by decide +kernel) rfl
set_option maxRecDepth 20000 in
theorem u_X8_firstError_11 (L : xL) (a : Nat) (st : List Value) (h : xH) (hc : (xob h a).1 = 8) : xf 135 11 L (.ref a :: st) h = xf 135 14 L ((xob h a).2.getD 12 .null :: st) h := xo_getf (r := 524) (by decide +kernel) (by decide) hc
set_option maxRecDepth 20000 in
theorem u_X8_firstError_14 (L : xL) (x : Int32) (h : xH) : xf 135 14 L [.int x] h = some (.inl (some (.int x)), h) := xo_ireturn (n := 15) (by decide +kernel) rfl
set_option maxRecDepth 20000 in
theorem e_X8_firstError (v0 : Nat) (h : xH) : xev 135 [.ref v0] h = xf 135 0 [some (.ref v0)] [] h := rfl
set_option maxRecDepth 20000 in
theorem u_X8_undo_0 (l1 : Option Value) (x : Nat) (st : List Value) (h : xH) : xf 136 0 [some (.ref x), l1] st h = xf 136 1 [some (.ref x), l1] (.ref x :: st) h := xo_aload (k := 0) (by decide +kernel) rfl
set_option maxRecDepth 20000 in
theorem u_X8_undo_1 (l1 : Option Value) (x : Nat) (st : List Value) (h : xH) : xf 136 1 [some (.ref x), l1] st h = xf 136 2 [some (.ref x), l1] (.ref x :: st) h := xo_aload (k := 0) (by decide +kernel) rfl
set_option maxRecDepth 20000 in
theorem u_X8_undo_2 (L : xL) (a : Nat) (st : List Value) (h : xH) (hc : (xob h a).1 = 8) : xf 136 2 L (.ref a :: st) h = xf 136 5 L ((xob h a).2.getD 4 .null :: st) h := xo_getf (r := 516) (by decide +kernel) (by decide) hc
set_option maxRecDepth 20000 in
theorem u_X8_undo_5 (L : xL) (a : Int32) (st : List Value) (h : xH) : xf 136 5 L (.int a :: st) h = if 0 < a then xf 136 8 L st h else xf 136 12 L st h := xo_if_le (t := 12) (by decide +kernel) rfl
set_option maxRecDepth 20000 in
theorem u_X8_undo_8 (L : xL) (st : List Value) (h : xH) : xf 136 8 L st h = xf 136 9 L (.int 0 :: st) h := xo_iconst (k := 0) (by decide +kernel) (by decide)
set_option maxRecDepth 20000 in
theorem u_X8_undo_9 (L : xL) (st : List Value) (h : xH) : xf 136 9 L st h = xf 136 13 L st h := xo_goto (n := 12) (t := 13) (by decide +kernel) rfl
set_option maxRecDepth 20000 in
theorem u_X8_undo_12 (L : xL) (st : List Value) (h : xH) : xf 136 12 L st h = xf 136 13 L (.int 1 :: st) h := xo_iconst (k := 1) (by decide +kernel) (by decide)
set_option maxRecDepth 20000 in
theorem u_X8_undo_13 (L : xL) (v0 : Int32) (b : Nat) (st : List Value) (h : xH) (hb : (xob h b).1 = 8) (hl : st.length ≤ 4) : xf 136 13 L (.int v0 :: .ref b :: st) h = xgo 136 13 16 L st (xev 100 [.ref b, .int v0] h) := xo_callV (as := [.int v0]) (by decide +kernel) rfl ⟨(by decide +kernel : xna 100 = 1), Nat.le_of_ble_eq_true rfl, rfl, by decide⟩ hb hl
set_option maxRecDepth 20000 in
theorem u_X8_undo_16 (L : xL) (a : Int32) (st : List Value) (h : xH) : xf 136 16 L (.int a :: st) h = if a = 0 then xf 136 19 L st h else xf 136 21 L st h := xo_if_ne (t := 21) (by decide +kernel) rfl
set_option maxRecDepth 20000 in
theorem u_X8_undo_19 (L : xL) (st : List Value) (h : xH) : xf 136 19 L st h = xf 136 20 L (.int 0 :: st) h := xo_iconst (k := 0) (by decide +kernel) (by decide)
set_option maxRecDepth 20000 in
theorem u_X8_undo_20 (L : xL) (x : Int32) (h : xH) : xf 136 20 L [.int x] h = some (.inl (some (.int x)), h) := xo_ireturn (n := 21) (by decide +kernel) rfl
set_option maxRecDepth 20000 in
theorem u_X8_undo_21 (l1 : Option Value) (x : Nat) (st : List Value) (h : xH) : xf 136 21 [some (.ref x), l1] st h = xf 136 22 [some (.ref x), l1] (.ref x :: st) h := xo_aload (k := 0) (by decide +kernel) rfl
set_option maxRecDepth 20000 in
theorem u_X8_undo_22 (L : xL) (a : Nat) (st : List Value) (h : xH) : xf 136 22 L (.ref a :: st) h = xf 136 23 L (.ref a :: .ref a :: st) h := xo_dupR (by decide +kernel)
set_option maxRecDepth 20000 in
theorem u_X8_undo_23 (L : xL) (a : Nat) (st : List Value) (h : xH) (hc : (xob h a).1 = 8) : xf 136 23 L (.ref a :: st) h = xf 136 26 L ((xob h a).2.getD 4 .null :: st) h := xo_getf (r := 516) (by decide +kernel) (by decide) hc
set_option maxRecDepth 20000 in
theorem u_X8_undo_26 (L : xL) (st : List Value) (h : xH) : xf 136 26 L st h = xf 136 27 L (.int 1 :: st) h := xo_iconst (k := 1) (by decide +kernel) (by decide)
set_option maxRecDepth 20000 in
theorem u_X8_undo_27 (L : xL) (a b : Int32) (st : List Value) (h : xH) : xf 136 27 L (.int b :: .int a :: st) h = xf 136 28 L (.int (a - b) :: st) h := xo_isub (by decide +kernel)
set_option maxRecDepth 20000 in
theorem u_X8_undo_28 (L : xL) (v : Int32) (a : Nat) (st : List Value) (h : xH) (hc : (xob h a).1 = 8) : xf 136 28 L (.int v :: .ref a :: st) h = xf 136 31 L st (xso h a 4 (.int v)) := xo_putf (r := 516) (by decide +kernel) (by decide) rfl hc
set_option maxRecDepth 20000 in
theorem u_X8_undo_31 (L : xL) (st : List Value) (h : xH) : xf 136 31 L st h = xf 136 32 L (.int 0 :: st) h := xo_iconst (k := 0) (by decide +kernel) (by decide)
set_option maxRecDepth 20000 in
theorem u_X8_undo_32 (l0 l1 : Option Value) (x : Int32) (st : List Value) (h : xH) : xf 136 32 [l0, l1] (.int x :: st) h = xf 136 33 [xcat l0, some (.int x)] st h := xo_istore (k := 1) (by decide +kernel) (Nat.le_of_ble_eq_true rfl) rfl
set_option maxRecDepth 20000 in
theorem u_X8_undo_33 (l0 : Option Value) (x : Int32) (st : List Value) (h : xH) : xf 136 33 [l0, some (.int x)] st h = xf 136 34 [l0, some (.int x)] (.int x :: st) h := xo_iload (k := 1) (by decide +kernel) rfl
set_option maxRecDepth 20000 in
theorem u_X8_undo_34 (L : xL) (st : List Value) (h : xH) : xf 136 34 L st h = xf 136 36 L (.int 117 :: st) h := xo_iconst (k := 117) (by decide +kernel) (by decide)
set_option maxRecDepth 20000 in
theorem u_X8_undo_36 (L : xL) (a b : Int32) (st : List Value) (h : xH) : xf 136 36 L (.int b :: .int a :: st) h = if a < b then xf 136 39 L st h else xf 136 65 L st h := xo_icmp_ge (t := 65) (by decide +kernel) rfl
set_option maxRecDepth 20000 in
theorem u_X8_undo_39 (l1 : Option Value) (x : Nat) (st : List Value) (h : xH) : xf 136 39 [some (.ref x), l1] st h = xf 136 40 [some (.ref x), l1] (.ref x :: st) h := xo_aload (k := 0) (by decide +kernel) rfl
set_option maxRecDepth 20000 in
theorem u_X8_undo_40 (L : xL) (a : Nat) (st : List Value) (h : xH) (hc : (xob h a).1 = 8) : xf 136 40 L (.ref a :: st) h = xf 136 43 L ((xob h a).2.getD 1 .null :: st) h := xo_getf (r := 513) (by decide +kernel) (by decide) hc
set_option maxRecDepth 20000 in
theorem u_X8_undo_43 (l0 : Option Value) (x : Int32) (st : List Value) (h : xH) : xf 136 43 [l0, some (.int x)] st h = xf 136 44 [l0, some (.int x)] (.int x :: st) h := xo_iload (k := 1) (by decide +kernel) rfl
set_option maxRecDepth 20000 in
theorem u_X8_undo_44 (l1 : Option Value) (x : Nat) (st : List Value) (h : xH) : xf 136 44 [some (.ref x), l1] st h = xf 136 45 [some (.ref x), l1] (.ref x :: st) h := xo_aload (k := 0) (by decide +kernel) rfl
set_option maxRecDepth 20000 in
theorem u_X8_undo_45 (L : xL) (a : Nat) (st : List Value) (h : xH) (hc : (xob h a).1 = 8) : xf 136 45 L (.ref a :: st) h = xf 136 48 L ((xob h a).2.getD 3 .null :: st) h := xo_getf (r := 515) (by decide +kernel) (by decide) hc
set_option maxRecDepth 20000 in
theorem u_X8_undo_48 (L : xL) (st : List Value) (h : xH) : xf 136 48 L st h = xf 136 50 L (.int 117 :: st) h := xo_iconst (k := 117) (by decide +kernel) (by decide)
set_option maxRecDepth 20000 in
theorem u_X8_undo_50 (l1 : Option Value) (x : Nat) (st : List Value) (h : xH) : xf 136 50 [some (.ref x), l1] st h = xf 136 51 [some (.ref x), l1] (.ref x :: st) h := xo_aload (k := 0) (by decide +kernel) rfl
set_option maxRecDepth 20000 in
theorem u_X8_undo_51 (L : xL) (a : Nat) (st : List Value) (h : xH) (hc : (xob h a).1 = 8) : xf 136 51 L (.ref a :: st) h = xf 136 54 L ((xob h a).2.getD 4 .null :: st) h := xo_getf (r := 516) (by decide +kernel) (by decide) hc
set_option maxRecDepth 20000 in
theorem u_X8_undo_54 (L : xL) (a b : Int32) (st : List Value) (h : xH) : xf 136 54 L (.int b :: .int a :: st) h = xf 136 55 L (.int (a * b) :: st) h := xo_imul (by decide +kernel)
set_option maxRecDepth 20000 in
theorem u_X8_undo_55 (l0 : Option Value) (x : Int32) (st : List Value) (h : xH) : xf 136 55 [l0, some (.int x)] st h = xf 136 56 [l0, some (.int x)] (.int x :: st) h := xo_iload (k := 1) (by decide +kernel) rfl
set_option maxRecDepth 20000 in
theorem u_X8_undo_56 (L : xL) (a b : Int32) (st : List Value) (h : xH) : xf 136 56 L (.int b :: .int a :: st) h = xf 136 57 L (.int (a + b) :: st) h := xo_iadd (by decide +kernel)
set_option maxRecDepth 20000 in
theorem u_X8_undo_57 (L : xL) (i : Int32) (a : Nat) (st : List Value) (h : xH) (hx : xix i (xai h a).1) : xf 136 57 L (.int i :: .ref a :: st) h = xf 136 58 L (.int ((xai h a).2 i.toNatClampNeg) :: st) h := xo_iaload (by decide +kernel) hx
set_option maxRecDepth 20000 in
theorem u_X8_undo_58 (L : xL) (v i : Int32) (a : Nat) (st : List Value) (h : xH) (hx : xix i (xai h a).1) : xf 136 58 L (.int v :: .int i :: .ref a :: st) h = xf 136 59 L st (xsi h a i.toNatClampNeg v) := xo_iastore (by decide +kernel) hx
set_option maxRecDepth 20000 in
theorem u_X8_undo_59 (l0 : Option Value) (x : Int32) (st : List Value) (h : xH) : xf 136 59 [l0, some (.int x)] st h = xf 136 62 [xcat l0, some (.int (x + 1))] st h := xo_iinc (k := 1) (c := 1) (by decide +kernel) rfl (by decide) rfl
set_option maxRecDepth 20000 in
theorem u_X8_undo_62 (L : xL) (st : List Value) (h : xH) : xf 136 62 L st h = xf 136 33 L st h := xo_goto (n := 65) (t := 33) (by decide +kernel) rfl
set_option maxRecDepth 20000 in
theorem u_X8_undo_65 (l1 : Option Value) (x : Nat) (st : List Value) (h : xH) : xf 136 65 [some (.ref x), l1] st h = xf 136 66 [some (.ref x), l1] (.ref x :: st) h := xo_aload (k := 0) (by decide +kernel) rfl
set_option maxRecDepth 20000 in
theorem u_X8_undo_66 (L : xL) (a : Nat) (st : List Value) (h : xH) (hc : (xob h a).1 = 8) : xf 136 66 L (.ref a :: st) h = xf 136 69 L ((xob h a).2.getD 4 .null :: st) h := xo_getf (r := 516) (by decide +kernel) (by decide) hc
set_option maxRecDepth 20000 in
theorem u_X8_undo_69 (L : xL) (x : Int32) (h : xH) : xf 136 69 L [.int x] h = some (.inl (some (.int x)), h) := xo_ireturn (n := 70) (by decide +kernel) rfl
set_option maxRecDepth 20000 in
theorem e_X8_undo (v0 : Nat) (h : xH) : xev 136 [.ref v0] h = xf 136 0 [some (.ref v0), none] [] h := rfl
set_option maxRecDepth 20000 in
theorem u_X8_part_0 (l1 : Option Value) (x : Nat) (st : List Value) (h : xH) : xf 137 0 [some (.ref x), l1] st h = xf 137 1 [some (.ref x), l1] (.ref x :: st) h := xo_aload (k := 0) (by decide +kernel) rfl
set_option maxRecDepth 20000 in
theorem u_X8_part_1 (l0 : Option Value) (x : Int32) (st : List Value) (h : xH) : xf 137 1 [l0, some (.int x)] st h = xf 137 2 [l0, some (.int x)] (.int x :: st) h := xo_iload (k := 1) (by decide +kernel) rfl
set_option maxRecDepth 20000 in
theorem u_X8_part_2 (L : xL) (a : Int32) (st : List Value) (h : xH) : xf 137 2 L (.int a :: st) h = if a < 0 then xf 137 5 L st h else xf 137 9 L st h := xo_if_ge (t := 9) (by decide +kernel) rfl
set_option maxRecDepth 20000 in
theorem u_X8_part_5 (L : xL) (st : List Value) (h : xH) : xf 137 5 L st h = xf 137 6 L (.int 1 :: st) h := xo_iconst (k := 1) (by decide +kernel) (by decide)
set_option maxRecDepth 20000 in
theorem u_X8_part_6 (L : xL) (st : List Value) (h : xH) : xf 137 6 L st h = xf 137 10 L st h := xo_goto (n := 9) (t := 10) (by decide +kernel) rfl
set_option maxRecDepth 20000 in
theorem u_X8_part_9 (L : xL) (st : List Value) (h : xH) : xf 137 9 L st h = xf 137 10 L (.int 0 :: st) h := xo_iconst (k := 0) (by decide +kernel) (by decide)
set_option maxRecDepth 20000 in
theorem u_X8_part_10 (L : xL) (v0 : Int32) (b : Nat) (st : List Value) (h : xH) (hb : (xob h b).1 = 8) (hl : st.length ≤ 4) : xf 137 10 L (.int v0 :: .ref b :: st) h = xgo 137 10 13 L st (xev 100 [.ref b, .int v0] h) := xo_callV (as := [.int v0]) (by decide +kernel) rfl ⟨(by decide +kernel : xna 100 = 1), Nat.le_of_ble_eq_true rfl, rfl, by decide⟩ hb hl
set_option maxRecDepth 20000 in
theorem u_X8_part_13 (L : xL) (a : Int32) (st : List Value) (h : xH) : xf 137 13 L (.int a :: st) h = if a = 0 then xf 137 41 L st h else xf 137 16 L st h := xo_if_eq (t := 41) (by decide +kernel) rfl
set_option maxRecDepth 20000 in
theorem u_X8_part_16 (l0 : Option Value) (x : Int32) (st : List Value) (h : xH) : xf 137 16 [l0, some (.int x)] st h = xf 137 17 [l0, some (.int x)] (.int x :: st) h := xo_iload (k := 1) (by decide +kernel) rfl
set_option maxRecDepth 20000 in
theorem u_X8_part_17 (l1 : Option Value) (x : Nat) (st : List Value) (h : xH) : xf 137 17 [some (.ref x), l1] st h = xf 137 18 [some (.ref x), l1] (.ref x :: st) h := xo_aload (k := 0) (by decide +kernel) rfl
set_option maxRecDepth 20000 in
theorem u_X8_part_18 (L : xL) (a : Nat) (st : List Value) (h : xH) (hc : (xob h a).1 = 8) : xf 137 18 L (.ref a :: st) h = xf 137 21 L ((xob h a).2.getD 1 .null :: st) h := xo_getf (r := 513) (by decide +kernel) (by decide) hc
set_option maxRecDepth 20000 in
theorem u_X8_part_21 (L : xL) (st : List Value) (h : xH) : xf 137 21 L st h = xf 137 22 L (.int 0 :: st) h := xo_iconst (k := 0) (by decide +kernel) (by decide)
set_option maxRecDepth 20000 in
theorem u_X8_part_22 (L : xL) (i : Int32) (a : Nat) (st : List Value) (h : xH) (hx : xix i (xai h a).1) : xf 137 22 L (.int i :: .ref a :: st) h = xf 137 23 L (.int ((xai h a).2 i.toNatClampNeg) :: st) h := xo_iaload (by decide +kernel) hx
set_option maxRecDepth 20000 in
theorem u_X8_part_23 (L : xL) (a b : Int32) (st : List Value) (h : xH) : xf 137 23 L (.int b :: .int a :: st) h = if a < b then xf 137 26 L st h else xf 137 37 L st h := xo_icmp_ge (t := 37) (by decide +kernel) rfl
set_option maxRecDepth 20000 in
theorem u_X8_part_26 (l1 : Option Value) (x : Nat) (st : List Value) (h : xH) : xf 137 26 [some (.ref x), l1] st h = xf 137 27 [some (.ref x), l1] (.ref x :: st) h := xo_aload (k := 0) (by decide +kernel) rfl
set_option maxRecDepth 20000 in
theorem u_X8_part_27 (L : xL) (a : Nat) (st : List Value) (h : xH) (hc : (xob h a).1 = 8) : xf 137 27 L (.ref a :: st) h = xf 137 30 L ((xob h a).2.getD 1 .null :: st) h := xo_getf (r := 513) (by decide +kernel) (by decide) hc
set_option maxRecDepth 20000 in
theorem u_X8_part_30 (L : xL) (st : List Value) (h : xH) : xf 137 30 L st h = xf 137 31 L (.int 1 :: st) h := xo_iconst (k := 1) (by decide +kernel) (by decide)
set_option maxRecDepth 20000 in
theorem u_X8_part_31 (l0 : Option Value) (x : Int32) (st : List Value) (h : xH) : xf 137 31 [l0, some (.int x)] st h = xf 137 32 [l0, some (.int x)] (.int x :: st) h := xo_iload (k := 1) (by decide +kernel) rfl
set_option maxRecDepth 20000 in
theorem u_X8_part_32 (L : xL) (a b : Int32) (st : List Value) (h : xH) : xf 137 32 L (.int b :: .int a :: st) h = xf 137 33 L (.int (a + b) :: st) h := xo_iadd (by decide +kernel)
set_option maxRecDepth 20000 in
theorem u_X8_part_33 (L : xL) (i : Int32) (a : Nat) (st : List Value) (h : xH) (hx : xix i (xai h a).1) : xf 137 33 L (.int i :: .ref a :: st) h = xf 137 34 L (.int ((xai h a).2 i.toNatClampNeg) :: st) h := xo_iaload (by decide +kernel) hx
set_option maxRecDepth 20000 in
theorem u_X8_part_34 (L : xL) (st : List Value) (h : xH) : xf 137 34 L st h = xf 137 42 L st h := xo_goto (n := 37) (t := 42) (by decide +kernel) rfl
set_option maxRecDepth 20000 in
theorem u_X8_part_37 (L : xL) (st : List Value) (h : xH) : xf 137 37 L st h = xf 137 38 L (.int (-1) :: st) h := xo_iconst (k := (-1)) (by decide +kernel) (by decide)
set_option maxRecDepth 20000 in
theorem u_X8_part_38 (L : xL) (st : List Value) (h : xH) : xf 137 38 L st h = xf 137 42 L st h := xo_goto (n := 41) (t := 42) (by decide +kernel) rfl
set_option maxRecDepth 20000 in
theorem u_X8_part_41 (L : xL) (st : List Value) (h : xH) : xf 137 41 L st h = xf 137 42 L (.int 0 :: st) h := xo_iconst (k := 0) (by decide +kernel) (by decide)
set_option maxRecDepth 20000 in
theorem u_X8_part_42 (L : xL) (x : Int32) (h : xH) : xf 137 42 L [.int x] h = some (.inl (some (.int x)), h) := xo_ireturn (n := 43) (by decide +kernel) rfl
set_option maxRecDepth 20000 in
theorem e_X8_part (v0 : Nat) (v1 : Int32) (h : xH) : xev 137 [.ref v0, .int v1] h = xf 137 0 [some (.ref v0), some (.int v1)] [] h := rfl
set_option maxRecDepth 20000 in
theorem u_X8_sign_0 (l1 : Option Value) (x : Nat) (st : List Value) (h : xH) : xf 138 0 [some (.ref x), l1] st h = xf 138 1 [some (.ref x), l1] (.ref x :: st) h := xo_aload (k := 0) (by decide +kernel) rfl
set_option maxRecDepth 20000 in
theorem u_X8_sign_1 (L : xL) (b : Nat) (st : List Value) (h : xH) (hb : (xob h b).1 = 8) (hl : st.length ≤ 4) : xf 138 1 L (.ref b :: st) h = xgo 138 1 4 L st (xev 107 [.ref b] h) := xo_callV (as := []) (by decide +kernel) rfl ⟨(by decide +kernel : xna 107 = 0), Nat.le_of_ble_eq_true rfl, rfl, by decide⟩ hb hl
set_option maxRecDepth 20000 in
theorem u_X8_sign_4 (l1 : Option Value) (x : Nat) (st : List Value) (h : xH) : xf 138 4 [some (.ref x), l1] st h = xf 138 5 [some (.ref x), l1] (.ref x :: st) h := xo_aload (k := 0) (by decide +kernel) rfl
set_option maxRecDepth 20000 in
theorem u_X8_sign_5 (l0 : Option Value) (x : Int32) (st : List Value) (h : xH) : xf 138 5 [l0, some (.int x)] st h = xf 138 6 [l0, some (.int x)] (.int x :: st) h := xo_iload (k := 1) (by decide +kernel) rfl
set_option maxRecDepth 20000 in
theorem u_X8_sign_6 (L : xL) (a : Int32) (st : List Value) (h : xH) : xf 138 6 L (.int a :: st) h = if a < 0 then xf 138 9 L st h else xf 138 13 L st h := xo_if_ge (t := 13) (by decide +kernel) rfl
set_option maxRecDepth 20000 in
theorem u_X8_sign_9 (L : xL) (st : List Value) (h : xH) : xf 138 9 L st h = xf 138 10 L (.int 1 :: st) h := xo_iconst (k := 1) (by decide +kernel) (by decide)
set_option maxRecDepth 20000 in
theorem u_X8_sign_10 (L : xL) (st : List Value) (h : xH) : xf 138 10 L st h = xf 138 14 L st h := xo_goto (n := 13) (t := 14) (by decide +kernel) rfl
set_option maxRecDepth 20000 in
theorem u_X8_sign_13 (L : xL) (st : List Value) (h : xH) : xf 138 13 L st h = xf 138 14 L (.int 0 :: st) h := xo_iconst (k := 0) (by decide +kernel) (by decide)
set_option maxRecDepth 20000 in
theorem u_X8_sign_14 (L : xL) (v0 : Int32) (b : Nat) (st : List Value) (h : xH) (hb : (xob h b).1 = 8) (hl : st.length ≤ 4) : xf 138 14 L (.int v0 :: .ref b :: st) h = xgo 138 14 17 L st (xev 100 [.ref b, .int v0] h) := xo_callV (as := [.int v0]) (by decide +kernel) rfl ⟨(by decide +kernel : xna 100 = 1), Nat.le_of_ble_eq_true rfl, rfl, by decide⟩ hb hl
set_option maxRecDepth 20000 in
theorem u_X8_sign_17 (L : xL) (a : Int32) (st : List Value) (h : xH) : xf 138 17 L (.int a :: st) h = if a = 0 then xf 138 28 L st h else xf 138 20 L st h := xo_if_eq (t := 28) (by decide +kernel) rfl
set_option maxRecDepth 20000 in
theorem u_X8_sign_20 (l1 : Option Value) (x : Nat) (st : List Value) (h : xH) : xf 138 20 [some (.ref x), l1] st h = xf 138 21 [some (.ref x), l1] (.ref x :: st) h := xo_aload (k := 0) (by decide +kernel) rfl
set_option maxRecDepth 20000 in
theorem u_X8_sign_21 (l0 : Option Value) (x : Int32) (st : List Value) (h : xH) : xf 138 21 [l0, some (.int x)] st h = xf 138 22 [l0, some (.int x)] (.int x :: st) h := xo_iload (k := 1) (by decide +kernel) rfl
set_option maxRecDepth 20000 in
theorem u_X8_sign_22 (L : xL) (v0 : Int32) (b : Nat) (st : List Value) (h : xH) (hb : (xob h b).1 = 8) (hl : st.length ≤ 4) : xf 138 22 L (.int v0 :: .ref b :: st) h = xgo 138 22 25 L st (xev 115 [.ref b, .int v0] h) := xo_callV (as := [.int v0]) (by decide +kernel) rfl ⟨(by decide +kernel : xna 115 = 1), Nat.le_of_ble_eq_true rfl, rfl, by decide⟩ hb hl
set_option maxRecDepth 20000 in
theorem u_X8_sign_25 (L : xL) (st : List Value) (h : xH) : xf 138 25 L st h = xf 138 29 L st h := xo_goto (n := 28) (t := 29) (by decide +kernel) rfl
set_option maxRecDepth 20000 in
theorem u_X8_sign_28 (L : xL) (st : List Value) (h : xH) : xf 138 28 L st h = xf 138 29 L (.int 0 :: st) h := xo_iconst (k := 0) (by decide +kernel) (by decide)
set_option maxRecDepth 20000 in
theorem u_X8_sign_29 (L : xL) (x : Int32) (h : xH) : xf 138 29 L [.int x] h = some (.inl (some (.int x)), h) := xo_ireturn (n := 30) (by decide +kernel) rfl
set_option maxRecDepth 20000 in
theorem e_X8_sign (v0 : Nat) (v1 : Int32) (h : xH) : xev 138 [.ref v0, .int v1] h = xf 138 0 [some (.ref v0), some (.int v1)] [] h := rfl
set_option maxRecDepth 20000 in
theorem u_X8_aboutOf_0 (l0 l1 : Option Value) (x : Int32) (st : List Value) (h : xH) : xf 139 0 [l0, l1, some (.int x)] st h = xf 139 1 [l0, l1, some (.int x)] (.int x :: st) h := xo_iload (k := 2) (by decide +kernel) rfl
set_option maxRecDepth 20000 in
theorem u_X8_aboutOf_1 (L : xL) (a : Int32) (st : List Value) (h : xH) : xf 139 1 L (.int a :: st) h = if a = 0 then xf 139 44 L st h else if a = 1 then xf 139 60 L st h else if a = 2 then xf 139 76 L st h else if a = 3 then xf 139 88 L st h else if a = 4 then xf 139 94 L st h else if a = 5 then xf 139 101 L st h else if a = 6 then xf 139 108 L st h else xf 139 115 L st h := by
  have ho : xop 139 1 = some (.tableswitch 115 0 6 #[44, 60, 76, 88, 94, 101, 108], 1) := by decide +kernel
  by_cases h0 : a = 0
  · subst h0
    rw [if_pos rfl]
    exact xo_tsw (t := 44) ho (by decide) (by decide) rfl
  rw [if_neg h0]
  by_cases h1 : a = 1
  · subst h1
    rw [if_pos rfl]
    exact xo_tsw (t := 60) ho (by decide) (by decide) rfl
  rw [if_neg h1]
  by_cases h2 : a = 2
  · subst h2
    rw [if_pos rfl]
    exact xo_tsw (t := 76) ho (by decide) (by decide) rfl
  rw [if_neg h2]
  by_cases h3 : a = 3
  · subst h3
    rw [if_pos rfl]
    exact xo_tsw (t := 88) ho (by decide) (by decide) rfl
  rw [if_neg h3]
  by_cases h4 : a = 4
  · subst h4
    rw [if_pos rfl]
    exact xo_tsw (t := 94) ho (by decide) (by decide) rfl
  rw [if_neg h4]
  by_cases h5 : a = 5
  · subst h5
    rw [if_pos rfl]
    exact xo_tsw (t := 101) ho (by decide) (by decide) rfl
  rw [if_neg h5]
  by_cases h6 : a = 6
  · subst h6
    rw [if_pos rfl]
    exact xo_tsw (t := 108) ho (by decide) (by decide) rfl
  rw [if_neg h6]
  refine xo_tswO ho rfl ?_
  have g0 := xi_ne h0
  rw [show (0 : Int32).toInt = 0 by decide] at g0
  have g1 := xi_ne h1
  rw [show (1 : Int32).toInt = 1 by decide] at g1
  have g2 := xi_ne h2
  rw [show (2 : Int32).toInt = 2 by decide] at g2
  have g3 := xi_ne h3
  rw [show (3 : Int32).toInt = 3 by decide] at g3
  have g4 := xi_ne h4
  rw [show (4 : Int32).toInt = 4 by decide] at g4
  have g5 := xi_ne h5
  rw [show (5 : Int32).toInt = 5 by decide] at g5
  have g6 := xi_ne h6
  rw [show (6 : Int32).toInt = 6 by decide] at g6
  omega
set_option maxRecDepth 20000 in
theorem u_X8_aboutOf_44 (l0 l2 : Option Value) (x : Int32) (st : List Value) (h : xH) : xf 139 44 [l0, some (.int x), l2] st h = xf 139 45 [l0, some (.int x), l2] (.int x :: st) h := xo_iload (k := 1) (by decide +kernel) rfl
set_option maxRecDepth 20000 in
theorem u_X8_aboutOf_45 (L : xL) (st : List Value) (h : xH) : xf 139 45 L st h = xf 139 47 L (.int 8 :: st) h := xo_iconst (k := 8) (by decide +kernel) (by decide)
set_option maxRecDepth 20000 in
theorem u_X8_aboutOf_47 (L : xL) (a b : Int32) (st : List Value) (h : xH) : xf 139 47 L (.int b :: .int a :: st) h = if a < b then xf 139 50 L st h else xf 139 54 L st h := xo_icmp_ge (t := 54) (by decide +kernel) rfl
set_option maxRecDepth 20000 in
theorem u_X8_aboutOf_50 (L : xL) (st : List Value) (h : xH) : xf 139 50 L st h = xf 139 51 L (.int (-1) :: st) h := xo_iconst (k := (-1)) (by decide +kernel) (by decide)
set_option maxRecDepth 20000 in
theorem u_X8_aboutOf_51 (L : xL) (st : List Value) (h : xH) : xf 139 51 L st h = xf 139 59 L st h := xo_goto (n := 54) (t := 59) (by decide +kernel) rfl
set_option maxRecDepth 20000 in
theorem u_X8_aboutOf_54 (l1 l2 : Option Value) (x : Nat) (st : List Value) (h : xH) : xf 139 54 [some (.ref x), l1, l2] st h = xf 139 55 [some (.ref x), l1, l2] (.ref x :: st) h := xo_aload (k := 0) (by decide +kernel) rfl
set_option maxRecDepth 20000 in
theorem u_X8_aboutOf_55 (l0 l2 : Option Value) (x : Int32) (st : List Value) (h : xH) : xf 139 55 [l0, some (.int x), l2] st h = xf 139 56 [l0, some (.int x), l2] (.int x :: st) h := xo_iload (k := 1) (by decide +kernel) rfl
set_option maxRecDepth 20000 in
theorem u_X8_aboutOf_56 (L : xL) (v0 : Int32) (b : Nat) (st : List Value) (h : xH) (hb : (xob h b).1 = 8) (hl : st.length ≤ 4) : xf 139 56 L (.int v0 :: .ref b :: st) h = xgo 139 56 59 L st (xev 105 [.ref b, .int v0] h) := xo_callV (as := [.int v0]) (by decide +kernel) rfl ⟨(by decide +kernel : xna 105 = 1), Nat.le_of_ble_eq_true rfl, rfl, by decide⟩ hb hl
set_option maxRecDepth 20000 in
theorem u_X8_aboutOf_59 (L : xL) (x : Int32) (h : xH) : xf 139 59 L [.int x] h = some (.inl (some (.int x)), h) := xo_ireturn (n := 60) (by decide +kernel) rfl
set_option maxRecDepth 20000 in
theorem u_X8_aboutOf_60 (l0 l2 : Option Value) (x : Int32) (st : List Value) (h : xH) : xf 139 60 [l0, some (.int x), l2] st h = xf 139 61 [l0, some (.int x), l2] (.int x :: st) h := xo_iload (k := 1) (by decide +kernel) rfl
set_option maxRecDepth 20000 in
theorem u_X8_aboutOf_61 (L : xL) (st : List Value) (h : xH) : xf 139 61 L st h = xf 139 63 L (.int 8 :: st) h := xo_iconst (k := 8) (by decide +kernel) (by decide)
set_option maxRecDepth 20000 in
theorem u_X8_aboutOf_63 (L : xL) (a b : Int32) (st : List Value) (h : xH) : xf 139 63 L (.int b :: .int a :: st) h = if a < b then xf 139 66 L st h else xf 139 70 L st h := xo_icmp_ge (t := 70) (by decide +kernel) rfl
set_option maxRecDepth 20000 in
theorem u_X8_aboutOf_66 (L : xL) (st : List Value) (h : xH) : xf 139 66 L st h = xf 139 67 L (.int (-1) :: st) h := xo_iconst (k := (-1)) (by decide +kernel) (by decide)
set_option maxRecDepth 20000 in
theorem u_X8_aboutOf_67 (L : xL) (st : List Value) (h : xH) : xf 139 67 L st h = xf 139 75 L st h := xo_goto (n := 70) (t := 75) (by decide +kernel) rfl
set_option maxRecDepth 20000 in
theorem u_X8_aboutOf_70 (l1 l2 : Option Value) (x : Nat) (st : List Value) (h : xH) : xf 139 70 [some (.ref x), l1, l2] st h = xf 139 71 [some (.ref x), l1, l2] (.ref x :: st) h := xo_aload (k := 0) (by decide +kernel) rfl
set_option maxRecDepth 20000 in
theorem u_X8_aboutOf_71 (l0 l2 : Option Value) (x : Int32) (st : List Value) (h : xH) : xf 139 71 [l0, some (.int x), l2] st h = xf 139 72 [l0, some (.int x), l2] (.int x :: st) h := xo_iload (k := 1) (by decide +kernel) rfl
set_option maxRecDepth 20000 in
theorem u_X8_aboutOf_72 (L : xL) (v0 : Int32) (b : Nat) (st : List Value) (h : xH) (hb : (xob h b).1 = 8) (hl : st.length ≤ 4) : xf 139 72 L (.int v0 :: .ref b :: st) h = xgo 139 72 75 L st (xev 106 [.ref b, .int v0] h) := xo_callV (as := [.int v0]) (by decide +kernel) rfl ⟨(by decide +kernel : xna 106 = 1), Nat.le_of_ble_eq_true rfl, rfl, by decide⟩ hb hl
set_option maxRecDepth 20000 in
theorem u_X8_aboutOf_75 (L : xL) (x : Int32) (h : xH) : xf 139 75 L [.int x] h = some (.inl (some (.int x)), h) := xo_ireturn (n := 76) (by decide +kernel) rfl
set_option maxRecDepth 20000 in
theorem u_X8_aboutOf_76 (l1 l2 : Option Value) (x : Nat) (st : List Value) (h : xH) : xf 139 76 [some (.ref x), l1, l2] st h = xf 139 77 [some (.ref x), l1, l2] (.ref x :: st) h := xo_aload (k := 0) (by decide +kernel) rfl
set_option maxRecDepth 20000 in
theorem u_X8_aboutOf_77 (l0 l2 : Option Value) (x : Int32) (st : List Value) (h : xH) : xf 139 77 [l0, some (.int x), l2] st h = xf 139 78 [l0, some (.int x), l2] (.int x :: st) h := xo_iload (k := 1) (by decide +kernel) rfl
set_option maxRecDepth 20000 in
theorem u_X8_aboutOf_78 (L : xL) (v0 : Int32) (b : Nat) (st : List Value) (h : xH) (hb : (xob h b).1 = 8) (hl : st.length ≤ 4) : xf 139 78 L (.int v0 :: .ref b :: st) h = xgo 139 78 81 L st (xev 109 [.ref b, .int v0] h) := xo_callV (as := [.int v0]) (by decide +kernel) rfl ⟨(by decide +kernel : xna 109 = 1), Nat.le_of_ble_eq_true rfl, rfl, by decide⟩ hb hl
set_option maxRecDepth 20000 in
theorem u_X8_aboutOf_81 (l1 l2 : Option Value) (x : Nat) (st : List Value) (h : xH) : xf 139 81 [some (.ref x), l1, l2] st h = xf 139 82 [some (.ref x), l1, l2] (.ref x :: st) h := xo_aload (k := 0) (by decide +kernel) rfl
set_option maxRecDepth 20000 in
theorem u_X8_aboutOf_82 (l0 l2 : Option Value) (x : Int32) (st : List Value) (h : xH) : xf 139 82 [l0, some (.int x), l2] st h = xf 139 83 [l0, some (.int x), l2] (.int x :: st) h := xo_iload (k := 1) (by decide +kernel) rfl
set_option maxRecDepth 20000 in
theorem u_X8_aboutOf_83 (L : xL) (v0 : Int32) (b : Nat) (st : List Value) (h : xH) (hb : (xob h b).1 = 8) (hl : st.length ≤ 4) : xf 139 83 L (.int v0 :: .ref b :: st) h = xgo 139 83 86 L st (xev 110 [.ref b, .int v0] h) := xo_callV (as := [.int v0]) (by decide +kernel) rfl ⟨(by decide +kernel : xna 110 = 1), Nat.le_of_ble_eq_true rfl, rfl, by decide⟩ hb hl
set_option maxRecDepth 20000 in
theorem u_X8_aboutOf_86 (L : xL) (a b : Int32) (st : List Value) (h : xH) : xf 139 86 L (.int b :: .int a :: st) h = xf 139 87 L (.int (a + b) :: st) h := xo_iadd (by decide +kernel)
set_option maxRecDepth 20000 in
theorem u_X8_aboutOf_87 (L : xL) (x : Int32) (h : xH) : xf 139 87 L [.int x] h = some (.inl (some (.int x)), h) := xo_ireturn (n := 88) (by decide +kernel) rfl
set_option maxRecDepth 20000 in
theorem u_X8_aboutOf_88 (l1 l2 : Option Value) (x : Nat) (st : List Value) (h : xH) : xf 139 88 [some (.ref x), l1, l2] st h = xf 139 89 [some (.ref x), l1, l2] (.ref x :: st) h := xo_aload (k := 0) (by decide +kernel) rfl
set_option maxRecDepth 20000 in
theorem u_X8_aboutOf_89 (l0 l2 : Option Value) (x : Int32) (st : List Value) (h : xH) : xf 139 89 [l0, some (.int x), l2] st h = xf 139 90 [l0, some (.int x), l2] (.int x :: st) h := xo_iload (k := 1) (by decide +kernel) rfl
set_option maxRecDepth 20000 in
theorem u_X8_aboutOf_90 (L : xL) (v0 : Int32) (b : Nat) (st : List Value) (h : xH) (hb : (xob h b).1 = 8) (hl : st.length ≤ 4) : xf 139 90 L (.int v0 :: .ref b :: st) h = xgo 139 90 93 L st (xev 109 [.ref b, .int v0] h) := xo_callV (as := [.int v0]) (by decide +kernel) rfl ⟨(by decide +kernel : xna 109 = 1), Nat.le_of_ble_eq_true rfl, rfl, by decide⟩ hb hl
set_option maxRecDepth 20000 in
theorem u_X8_aboutOf_93 (L : xL) (x : Int32) (h : xH) : xf 139 93 L [.int x] h = some (.inl (some (.int x)), h) := xo_ireturn (n := 94) (by decide +kernel) rfl
set_option maxRecDepth 20000 in
theorem u_X8_aboutOf_94 (l1 l2 : Option Value) (x : Nat) (st : List Value) (h : xH) : xf 139 94 [some (.ref x), l1, l2] st h = xf 139 95 [some (.ref x), l1, l2] (.ref x :: st) h := xo_aload (k := 0) (by decide +kernel) rfl
set_option maxRecDepth 20000 in
theorem u_X8_aboutOf_95 (L : xL) (a : Nat) (st : List Value) (h : xH) (hc : (xob h a).1 = 8) : xf 139 95 L (.ref a :: st) h = xf 139 98 L ((xob h a).2.getD 7 .null :: st) h := xo_getf (r := 519) (by decide +kernel) (by decide) hc
set_option maxRecDepth 20000 in
theorem u_X8_aboutOf_98 (l0 l2 : Option Value) (x : Int32) (st : List Value) (h : xH) : xf 139 98 [l0, some (.int x), l2] st h = xf 139 99 [l0, some (.int x), l2] (.int x :: st) h := xo_iload (k := 1) (by decide +kernel) rfl
set_option maxRecDepth 20000 in
theorem u_X8_aboutOf_99 (L : xL) (i : Int32) (a : Nat) (st : List Value) (h : xH) (hx : xix i (xai h a).1) : xf 139 99 L (.int i :: .ref a :: st) h = xf 139 100 L (.int ((xai h a).2 i.toNatClampNeg) :: st) h := xo_iaload (by decide +kernel) hx
set_option maxRecDepth 20000 in
theorem u_X8_aboutOf_100 (L : xL) (x : Int32) (h : xH) : xf 139 100 L [.int x] h = some (.inl (some (.int x)), h) := xo_ireturn (n := 101) (by decide +kernel) rfl
set_option maxRecDepth 20000 in
theorem u_X8_aboutOf_101 (l1 l2 : Option Value) (x : Nat) (st : List Value) (h : xH) : xf 139 101 [some (.ref x), l1, l2] st h = xf 139 102 [some (.ref x), l1, l2] (.ref x :: st) h := xo_aload (k := 0) (by decide +kernel) rfl
set_option maxRecDepth 20000 in
theorem u_X8_aboutOf_102 (L : xL) (a : Nat) (st : List Value) (h : xH) (hc : (xob h a).1 = 8) : xf 139 102 L (.ref a :: st) h = xf 139 105 L ((xob h a).2.getD 8 .null :: st) h := xo_getf (r := 520) (by decide +kernel) (by decide) hc
set_option maxRecDepth 20000 in
theorem u_X8_aboutOf_105 (l0 l2 : Option Value) (x : Int32) (st : List Value) (h : xH) : xf 139 105 [l0, some (.int x), l2] st h = xf 139 106 [l0, some (.int x), l2] (.int x :: st) h := xo_iload (k := 1) (by decide +kernel) rfl
set_option maxRecDepth 20000 in
theorem u_X8_aboutOf_106 (L : xL) (i : Int32) (a : Nat) (st : List Value) (h : xH) (hx : xix i (xai h a).1) : xf 139 106 L (.int i :: .ref a :: st) h = xf 139 107 L (.int ((xai h a).2 i.toNatClampNeg) :: st) h := xo_iaload (by decide +kernel) hx
set_option maxRecDepth 20000 in
theorem u_X8_aboutOf_107 (L : xL) (x : Int32) (h : xH) : xf 139 107 L [.int x] h = some (.inl (some (.int x)), h) := xo_ireturn (n := 108) (by decide +kernel) rfl
set_option maxRecDepth 20000 in
theorem u_X8_aboutOf_108 (l1 l2 : Option Value) (x : Nat) (st : List Value) (h : xH) : xf 139 108 [some (.ref x), l1, l2] st h = xf 139 109 [some (.ref x), l1, l2] (.ref x :: st) h := xo_aload (k := 0) (by decide +kernel) rfl
set_option maxRecDepth 20000 in
theorem u_X8_aboutOf_109 (L : xL) (a : Nat) (st : List Value) (h : xH) (hc : (xob h a).1 = 8) : xf 139 109 L (.ref a :: st) h = xf 139 112 L ((xob h a).2.getD 9 .null :: st) h := xo_getf (r := 521) (by decide +kernel) (by decide) hc
set_option maxRecDepth 20000 in
theorem u_X8_aboutOf_112 (l0 l2 : Option Value) (x : Int32) (st : List Value) (h : xH) : xf 139 112 [l0, some (.int x), l2] st h = xf 139 113 [l0, some (.int x), l2] (.int x :: st) h := xo_iload (k := 1) (by decide +kernel) rfl
set_option maxRecDepth 20000 in
theorem u_X8_aboutOf_113 (L : xL) (i : Int32) (a : Nat) (st : List Value) (h : xH) (hx : xix i (xai h a).1) : xf 139 113 L (.int i :: .ref a :: st) h = xf 139 114 L (.int ((xai h a).2 i.toNatClampNeg) :: st) h := xo_iaload (by decide +kernel) hx
set_option maxRecDepth 20000 in
theorem u_X8_aboutOf_114 (L : xL) (x : Int32) (h : xH) : xf 139 114 L [.int x] h = some (.inl (some (.int x)), h) := xo_ireturn (n := 115) (by decide +kernel) rfl
set_option maxRecDepth 20000 in
theorem u_X8_aboutOf_115 (l1 l2 : Option Value) (x : Nat) (st : List Value) (h : xH) : xf 139 115 [some (.ref x), l1, l2] st h = xf 139 116 [some (.ref x), l1, l2] (.ref x :: st) h := xo_aload (k := 0) (by decide +kernel) rfl
set_option maxRecDepth 20000 in
theorem u_X8_aboutOf_116 (L : xL) (a : Nat) (st : List Value) (h : xH) (hc : (xob h a).1 = 8) : xf 139 116 L (.ref a :: st) h = xf 139 119 L ((xob h a).2.getD 10 .null :: st) h := xo_getf (r := 522) (by decide +kernel) (by decide) hc
set_option maxRecDepth 20000 in
theorem u_X8_aboutOf_119 (l0 l2 : Option Value) (x : Int32) (st : List Value) (h : xH) : xf 139 119 [l0, some (.int x), l2] st h = xf 139 120 [l0, some (.int x), l2] (.int x :: st) h := xo_iload (k := 1) (by decide +kernel) rfl
set_option maxRecDepth 20000 in
theorem u_X8_aboutOf_120 (L : xL) (i : Int32) (a : Nat) (st : List Value) (h : xH) (hx : xix i (xai h a).1) : xf 139 120 L (.int i :: .ref a :: st) h = xf 139 121 L (.int ((xai h a).2 i.toNatClampNeg) :: st) h := xo_iaload (by decide +kernel) hx
set_option maxRecDepth 20000 in
theorem u_X8_aboutOf_121 (L : xL) (x : Int32) (h : xH) : xf 139 121 L [.int x] h = some (.inl (some (.int x)), h) := xo_ireturn (n := 122) (by decide +kernel) rfl
set_option maxRecDepth 20000 in
theorem e_X8_aboutOf (v0 : Nat) (v1 : Int32) (v2 : Int32) (h : xH) : xev 139 [.ref v0, .int v1, .int v2] h = xf 139 0 [some (.ref v0), some (.int v1), some (.int v2)] [] h := rfl
set_option maxRecDepth 20000 in
theorem u_X8_about_0 (l1 l2 : Option Value) (x : Nat) (st : List Value) (h : xH) : xf 140 0 [some (.ref x), l1, l2] st h = xf 140 1 [some (.ref x), l1, l2] (.ref x :: st) h := xo_aload (k := 0) (by decide +kernel) rfl
set_option maxRecDepth 20000 in
theorem u_X8_about_1 (L : xL) (b : Nat) (st : List Value) (h : xH) (hb : (xob h b).1 = 8) (hl : st.length ≤ 4) : xf 140 1 L (.ref b :: st) h = xgo 140 1 4 L st (xev 107 [.ref b] h) := xo_callV (as := []) (by decide +kernel) rfl ⟨(by decide +kernel : xna 107 = 0), Nat.le_of_ble_eq_true rfl, rfl, by decide⟩ hb hl
set_option maxRecDepth 20000 in
theorem u_X8_about_4 (l1 l2 : Option Value) (x : Nat) (st : List Value) (h : xH) : xf 140 4 [some (.ref x), l1, l2] st h = xf 140 5 [some (.ref x), l1, l2] (.ref x :: st) h := xo_aload (k := 0) (by decide +kernel) rfl
set_option maxRecDepth 20000 in
theorem u_X8_about_5 (l1 l2 : Option Value) (x : Nat) (st : List Value) (h : xH) : xf 140 5 [some (.ref x), l1, l2] st h = xf 140 6 [some (.ref x), l1, l2] (.ref x :: st) h := xo_aload (k := 0) (by decide +kernel) rfl
set_option maxRecDepth 20000 in
theorem u_X8_about_6 (l0 l2 : Option Value) (x : Int32) (st : List Value) (h : xH) : xf 140 6 [l0, some (.int x), l2] st h = xf 140 7 [l0, some (.int x), l2] (.int x :: st) h := xo_iload (k := 1) (by decide +kernel) rfl
set_option maxRecDepth 20000 in
theorem u_X8_about_7 (L : xL) (v0 : Int32) (b : Nat) (st : List Value) (h : xH) (hb : (xob h b).1 = 8) (hl : st.length ≤ 4) : xf 140 7 L (.int v0 :: .ref b :: st) h = xgo 140 7 10 L st (xev 104 [.ref b, .int v0] h) := xo_callV (as := [.int v0]) (by decide +kernel) rfl ⟨(by decide +kernel : xna 104 = 1), Nat.le_of_ble_eq_true rfl, rfl, by decide⟩ hb hl
set_option maxRecDepth 20000 in
theorem u_X8_about_10 (L : xL) (a : Int32) (st : List Value) (h : xH) : xf 140 10 L (.int a :: st) h = if a = 0 then xf 140 13 L st h else xf 140 17 L st h := xo_if_ne (t := 17) (by decide +kernel) rfl
set_option maxRecDepth 20000 in
theorem u_X8_about_13 (L : xL) (st : List Value) (h : xH) : xf 140 13 L st h = xf 140 14 L (.int 1 :: st) h := xo_iconst (k := 1) (by decide +kernel) (by decide)
set_option maxRecDepth 20000 in
theorem u_X8_about_14 (L : xL) (st : List Value) (h : xH) : xf 140 14 L st h = xf 140 32 L st h := xo_goto (n := 17) (t := 32) (by decide +kernel) rfl
set_option maxRecDepth 20000 in
theorem u_X8_about_17 (l0 l1 : Option Value) (x : Int32) (st : List Value) (h : xH) : xf 140 17 [l0, l1, some (.int x)] st h = xf 140 18 [l0, l1, some (.int x)] (.int x :: st) h := xo_iload (k := 2) (by decide +kernel) rfl
set_option maxRecDepth 20000 in
theorem u_X8_about_18 (L : xL) (st : List Value) (h : xH) : xf 140 18 L st h = xf 140 19 L (.int 0 :: st) h := xo_iconst (k := 0) (by decide +kernel) (by decide)
set_option maxRecDepth 20000 in
theorem u_X8_about_19 (L : xL) (st : List Value) (h : xH) : xf 140 19 L st h = xf 140 21 L (.int 7 :: st) h := xo_iconst (k := 7) (by decide +kernel) (by decide)
set_option maxRecDepth 20000 in
theorem u_X8_about_21 (L : xL) (v0 : Int32) (v1 : Int32) (v2 : Int32) (st : List Value) (h : xH) (hl : st.length ≤ 4) : xf 140 21 L (.int v2 :: .int v1 :: .int v0 :: st) h = xgo 140 21 24 L st (xev 99 [.int v0, .int v1, .int v2] h) := xo_callS (as := [.int v0, .int v1, .int v2]) (by decide +kernel) rfl ⟨(by decide +kernel : xna 99 = 3), Nat.le_of_ble_eq_true rfl, by decide⟩ hl
set_option maxRecDepth 20000 in
theorem u_X8_about_24 (L : xL) (a : Int32) (st : List Value) (h : xH) : xf 140 24 L (.int a :: st) h = if a = 0 then xf 140 27 L st h else xf 140 31 L st h := xo_if_ne (t := 31) (by decide +kernel) rfl
set_option maxRecDepth 20000 in
theorem u_X8_about_27 (L : xL) (st : List Value) (h : xH) : xf 140 27 L st h = xf 140 28 L (.int 2 :: st) h := xo_iconst (k := 2) (by decide +kernel) (by decide)
set_option maxRecDepth 20000 in
theorem u_X8_about_28 (L : xL) (st : List Value) (h : xH) : xf 140 28 L st h = xf 140 32 L st h := xo_goto (n := 31) (t := 32) (by decide +kernel) rfl
set_option maxRecDepth 20000 in
theorem u_X8_about_31 (L : xL) (st : List Value) (h : xH) : xf 140 31 L st h = xf 140 32 L (.int 0 :: st) h := xo_iconst (k := 0) (by decide +kernel) (by decide)
set_option maxRecDepth 20000 in
theorem u_X8_about_32 (L : xL) (v0 : Int32) (b : Nat) (st : List Value) (h : xH) (hb : (xob h b).1 = 8) (hl : st.length ≤ 4) : xf 140 32 L (.int v0 :: .ref b :: st) h = xgo 140 32 35 L st (xev 100 [.ref b, .int v0] h) := xo_callV (as := [.int v0]) (by decide +kernel) rfl ⟨(by decide +kernel : xna 100 = 1), Nat.le_of_ble_eq_true rfl, rfl, by decide⟩ hb hl
set_option maxRecDepth 20000 in
theorem u_X8_about_35 (L : xL) (a : Int32) (st : List Value) (h : xH) : xf 140 35 L (.int a :: st) h = if a = 0 then xf 140 47 L st h else xf 140 38 L st h := xo_if_eq (t := 47) (by decide +kernel) rfl
set_option maxRecDepth 20000 in
theorem u_X8_about_38 (l1 l2 : Option Value) (x : Nat) (st : List Value) (h : xH) : xf 140 38 [some (.ref x), l1, l2] st h = xf 140 39 [some (.ref x), l1, l2] (.ref x :: st) h := xo_aload (k := 0) (by decide +kernel) rfl
set_option maxRecDepth 20000 in
theorem u_X8_about_39 (l0 l2 : Option Value) (x : Int32) (st : List Value) (h : xH) : xf 140 39 [l0, some (.int x), l2] st h = xf 140 40 [l0, some (.int x), l2] (.int x :: st) h := xo_iload (k := 1) (by decide +kernel) rfl
set_option maxRecDepth 20000 in
theorem u_X8_about_40 (l0 l1 : Option Value) (x : Int32) (st : List Value) (h : xH) : xf 140 40 [l0, l1, some (.int x)] st h = xf 140 41 [l0, l1, some (.int x)] (.int x :: st) h := xo_iload (k := 2) (by decide +kernel) rfl
set_option maxRecDepth 20000 in
theorem u_X8_about_41 (L : xL) (v0 : Int32) (v1 : Int32) (b : Nat) (st : List Value) (h : xH) (hb : (xob h b).1 = 8) (hl : st.length ≤ 4) : xf 140 41 L (.int v1 :: .int v0 :: .ref b :: st) h = xgo 140 41 44 L st (xev 139 [.ref b, .int v0, .int v1] h) := xo_callV (as := [.int v0, .int v1]) (by decide +kernel) rfl ⟨(by decide +kernel : xna 139 = 2), Nat.le_of_ble_eq_true rfl, rfl, by decide⟩ hb hl
set_option maxRecDepth 20000 in
theorem u_X8_about_44 (L : xL) (st : List Value) (h : xH) : xf 140 44 L st h = xf 140 48 L st h := xo_goto (n := 47) (t := 48) (by decide +kernel) rfl
set_option maxRecDepth 20000 in
theorem u_X8_about_47 (L : xL) (st : List Value) (h : xH) : xf 140 47 L st h = xf 140 48 L (.int 0 :: st) h := xo_iconst (k := 0) (by decide +kernel) (by decide)
set_option maxRecDepth 20000 in
theorem u_X8_about_48 (L : xL) (x : Int32) (h : xH) : xf 140 48 L [.int x] h = some (.inl (some (.int x)), h) := xo_ireturn (n := 49) (by decide +kernel) rfl
set_option maxRecDepth 20000 in
theorem e_X8_about (v0 : Nat) (v1 : Int32) (v2 : Int32) (h : xH) : xev 140 [.ref v0, .int v1, .int v2] h = xf 140 0 [some (.ref v0), some (.int v1), some (.int v2)] [] h := rfl
set_option maxRecDepth 20000 in
theorem u_X8_pair_0 (l1 l2 : Option Value) (x : Nat) (st : List Value) (h : xH) : xf 141 0 [some (.ref x), l1, l2] st h = xf 141 1 [some (.ref x), l1, l2] (.ref x :: st) h := xo_aload (k := 0) (by decide +kernel) rfl
set_option maxRecDepth 20000 in
theorem u_X8_pair_1 (l1 l2 : Option Value) (x : Nat) (st : List Value) (h : xH) : xf 141 1 [some (.ref x), l1, l2] st h = xf 141 2 [some (.ref x), l1, l2] (.ref x :: st) h := xo_aload (k := 0) (by decide +kernel) rfl
set_option maxRecDepth 20000 in
theorem u_X8_pair_2 (l0 l2 : Option Value) (x : Int32) (st : List Value) (h : xH) : xf 141 2 [l0, some (.int x), l2] st h = xf 141 3 [l0, some (.int x), l2] (.int x :: st) h := xo_iload (k := 1) (by decide +kernel) rfl
set_option maxRecDepth 20000 in
theorem u_X8_pair_3 (L : xL) (v0 : Int32) (b : Nat) (st : List Value) (h : xH) (hb : (xob h b).1 = 8) (hl : st.length ≤ 4) : xf 141 3 L (.int v0 :: .ref b :: st) h = xgo 141 3 6 L st (xev 104 [.ref b, .int v0] h) := xo_callV (as := [.int v0]) (by decide +kernel) rfl ⟨(by decide +kernel : xna 104 = 1), Nat.le_of_ble_eq_true rfl, rfl, by decide⟩ hb hl
set_option maxRecDepth 20000 in
theorem u_X8_pair_6 (L : xL) (a : Int32) (st : List Value) (h : xH) : xf 141 6 L (.int a :: st) h = if a = 0 then xf 141 21 L st h else xf 141 9 L st h := xo_if_eq (t := 21) (by decide +kernel) rfl
set_option maxRecDepth 20000 in
theorem u_X8_pair_9 (l1 l2 : Option Value) (x : Nat) (st : List Value) (h : xH) : xf 141 9 [some (.ref x), l1, l2] st h = xf 141 10 [some (.ref x), l1, l2] (.ref x :: st) h := xo_aload (k := 0) (by decide +kernel) rfl
set_option maxRecDepth 20000 in
theorem u_X8_pair_10 (l0 l1 : Option Value) (x : Int32) (st : List Value) (h : xH) : xf 141 10 [l0, l1, some (.int x)] st h = xf 141 11 [l0, l1, some (.int x)] (.int x :: st) h := xo_iload (k := 2) (by decide +kernel) rfl
set_option maxRecDepth 20000 in
theorem u_X8_pair_11 (L : xL) (v0 : Int32) (b : Nat) (st : List Value) (h : xH) (hb : (xob h b).1 = 8) (hl : st.length ≤ 4) : xf 141 11 L (.int v0 :: .ref b :: st) h = xgo 141 11 14 L st (xev 104 [.ref b, .int v0] h) := xo_callV (as := [.int v0]) (by decide +kernel) rfl ⟨(by decide +kernel : xna 104 = 1), Nat.le_of_ble_eq_true rfl, rfl, by decide⟩ hb hl
set_option maxRecDepth 20000 in
theorem u_X8_pair_14 (L : xL) (a : Int32) (st : List Value) (h : xH) : xf 141 14 L (.int a :: st) h = if a = 0 then xf 141 21 L st h else xf 141 17 L st h := xo_if_eq (t := 21) (by decide +kernel) rfl
set_option maxRecDepth 20000 in
theorem u_X8_pair_17 (L : xL) (st : List Value) (h : xH) : xf 141 17 L st h = xf 141 18 L (.int 0 :: st) h := xo_iconst (k := 0) (by decide +kernel) (by decide)
set_option maxRecDepth 20000 in
theorem u_X8_pair_18 (L : xL) (st : List Value) (h : xH) : xf 141 18 L st h = xf 141 22 L st h := xo_goto (n := 21) (t := 22) (by decide +kernel) rfl
set_option maxRecDepth 20000 in
theorem u_X8_pair_21 (L : xL) (st : List Value) (h : xH) : xf 141 21 L st h = xf 141 22 L (.int 1 :: st) h := xo_iconst (k := 1) (by decide +kernel) (by decide)
set_option maxRecDepth 20000 in
theorem u_X8_pair_22 (L : xL) (v0 : Int32) (b : Nat) (st : List Value) (h : xH) (hb : (xob h b).1 = 8) (hl : st.length ≤ 4) : xf 141 22 L (.int v0 :: .ref b :: st) h = xgo 141 22 25 L st (xev 100 [.ref b, .int v0] h) := xo_callV (as := [.int v0]) (by decide +kernel) rfl ⟨(by decide +kernel : xna 100 = 1), Nat.le_of_ble_eq_true rfl, rfl, by decide⟩ hb hl
set_option maxRecDepth 20000 in
theorem u_X8_pair_25 (L : xL) (a : Int32) (st : List Value) (h : xH) : xf 141 25 L (.int a :: st) h = if a = 0 then xf 141 37 L st h else xf 141 28 L st h := xo_if_eq (t := 37) (by decide +kernel) rfl
set_option maxRecDepth 20000 in
theorem u_X8_pair_28 (l1 l2 : Option Value) (x : Nat) (st : List Value) (h : xH) : xf 141 28 [some (.ref x), l1, l2] st h = xf 141 29 [some (.ref x), l1, l2] (.ref x :: st) h := xo_aload (k := 0) (by decide +kernel) rfl
set_option maxRecDepth 20000 in
theorem u_X8_pair_29 (l0 l2 : Option Value) (x : Int32) (st : List Value) (h : xH) : xf 141 29 [l0, some (.int x), l2] st h = xf 141 30 [l0, some (.int x), l2] (.int x :: st) h := xo_iload (k := 1) (by decide +kernel) rfl
set_option maxRecDepth 20000 in
theorem u_X8_pair_30 (l0 l1 : Option Value) (x : Int32) (st : List Value) (h : xH) : xf 141 30 [l0, l1, some (.int x)] st h = xf 141 31 [l0, l1, some (.int x)] (.int x :: st) h := xo_iload (k := 2) (by decide +kernel) rfl
set_option maxRecDepth 20000 in
theorem u_X8_pair_31 (L : xL) (v0 : Int32) (v1 : Int32) (b : Nat) (st : List Value) (h : xH) (hb : (xob h b).1 = 8) (hl : st.length ≤ 4) : xf 141 31 L (.int v1 :: .int v0 :: .ref b :: st) h = xgo 141 31 34 L st (xev 123 [.ref b, .int v0, .int v1] h) := xo_callV (as := [.int v0, .int v1]) (by decide +kernel) rfl ⟨(by decide +kernel : xna 123 = 2), Nat.le_of_ble_eq_true rfl, rfl, by decide⟩ hb hl
set_option maxRecDepth 20000 in
theorem u_X8_pair_34 (L : xL) (st : List Value) (h : xH) : xf 141 34 L st h = xf 141 38 L st h := xo_goto (n := 37) (t := 38) (by decide +kernel) rfl
set_option maxRecDepth 20000 in
theorem u_X8_pair_37 (L : xL) (st : List Value) (h : xH) : xf 141 37 L st h = xf 141 38 L (.int 0 :: st) h := xo_iconst (k := 0) (by decide +kernel) (by decide)
set_option maxRecDepth 20000 in
theorem u_X8_pair_38 (L : xL) (x : Int32) (h : xH) : xf 141 38 L [.int x] h = some (.inl (some (.int x)), h) := xo_ireturn (n := 39) (by decide +kernel) rfl
set_option maxRecDepth 20000 in
theorem e_X8_pair (v0 : Nat) (v1 : Int32) (v2 : Int32) (h : xH) : xev 141 [.ref v0, .int v1, .int v2] h = xf 141 0 [some (.ref v0), some (.int v1), some (.int v2)] [] h := rfl
set_option maxRecDepth 20000 in
theorem u_X8_nextOf_0 (l1 : Option Value) (x : Nat) (st : List Value) (h : xH) : xf 142 0 [some (.ref x), l1] st h = xf 142 1 [some (.ref x), l1] (.ref x :: st) h := xo_aload (k := 0) (by decide +kernel) rfl
set_option maxRecDepth 20000 in
theorem u_X8_nextOf_1 (L : xL) (b : Nat) (st : List Value) (h : xH) (hb : (xob h b).1 = 8) (hl : st.length ≤ 4) : xf 142 1 L (.ref b :: st) h = xgo 142 1 4 L st (xev 124 [.ref b] h) := xo_callV (as := []) (by decide +kernel) rfl ⟨(by decide +kernel : xna 124 = 0), Nat.le_of_ble_eq_true rfl, rfl, by decide⟩ hb hl
set_option maxRecDepth 20000 in
theorem u_X8_nextOf_4 (l1 : Option Value) (x : Nat) (st : List Value) (h : xH) : xf 142 4 [some (.ref x), l1] st h = xf 142 5 [some (.ref x), l1] (.ref x :: st) h := xo_aload (k := 0) (by decide +kernel) rfl
set_option maxRecDepth 20000 in
theorem u_X8_nextOf_5 (L : xL) (a : Nat) (st : List Value) (h : xH) (hc : (xob h a).1 = 8) : xf 142 5 L (.ref a :: st) h = xf 142 8 L ((xob h a).2.getD 18 .null :: st) h := xo_getf (r := 530) (by decide +kernel) (by decide) hc
set_option maxRecDepth 20000 in
theorem u_X8_nextOf_8 (L : xL) (st : List Value) (h : xH) : xf 142 8 L st h = xf 142 9 L (.int (-1) :: st) h := xo_iconst (k := (-1)) (by decide +kernel) (by decide)
set_option maxRecDepth 20000 in
theorem u_X8_nextOf_9 (L : xL) (a b : Int32) (st : List Value) (h : xH) : xf 142 9 L (.int b :: .int a :: st) h = if a = b then xf 142 12 L st h else xf 142 16 L st h := xo_icmp_ne (t := 16) (by decide +kernel) rfl
set_option maxRecDepth 20000 in
theorem u_X8_nextOf_12 (L : xL) (st : List Value) (h : xH) : xf 142 12 L st h = xf 142 13 L (.int (-1) :: st) h := xo_iconst (k := (-1)) (by decide +kernel) (by decide)
set_option maxRecDepth 20000 in
theorem u_X8_nextOf_13 (L : xL) (st : List Value) (h : xH) : xf 142 13 L st h = xf 142 55 L st h := xo_goto (n := 16) (t := 55) (by decide +kernel) rfl
set_option maxRecDepth 20000 in
theorem u_X8_nextOf_16 (l0 : Option Value) (x : Int32) (st : List Value) (h : xH) : xf 142 16 [l0, some (.int x)] st h = xf 142 17 [l0, some (.int x)] (.int x :: st) h := xo_iload (k := 1) (by decide +kernel) rfl
set_option maxRecDepth 20000 in
theorem u_X8_nextOf_17 (L : xL) (a : Int32) (st : List Value) (h : xH) : xf 142 17 L (.int a :: st) h = if a = 0 then xf 142 20 L st h else xf 142 27 L st h := xo_if_ne (t := 27) (by decide +kernel) rfl
set_option maxRecDepth 20000 in
theorem u_X8_nextOf_20 (l1 : Option Value) (x : Nat) (st : List Value) (h : xH) : xf 142 20 [some (.ref x), l1] st h = xf 142 21 [some (.ref x), l1] (.ref x :: st) h := xo_aload (k := 0) (by decide +kernel) rfl
set_option maxRecDepth 20000 in
theorem u_X8_nextOf_21 (L : xL) (a : Nat) (st : List Value) (h : xH) (hc : (xob h a).1 = 8) : xf 142 21 L (.ref a :: st) h = xf 142 24 L ((xob h a).2.getD 15 .null :: st) h := xo_getf (r := 527) (by decide +kernel) (by decide) hc
set_option maxRecDepth 20000 in
theorem u_X8_nextOf_24 (L : xL) (st : List Value) (h : xH) : xf 142 24 L st h = xf 142 55 L st h := xo_goto (n := 27) (t := 55) (by decide +kernel) rfl
set_option maxRecDepth 20000 in
theorem u_X8_nextOf_27 (l0 : Option Value) (x : Int32) (st : List Value) (h : xH) : xf 142 27 [l0, some (.int x)] st h = xf 142 28 [l0, some (.int x)] (.int x :: st) h := xo_iload (k := 1) (by decide +kernel) rfl
set_option maxRecDepth 20000 in
theorem u_X8_nextOf_28 (L : xL) (st : List Value) (h : xH) : xf 142 28 L st h = xf 142 29 L (.int 1 :: st) h := xo_iconst (k := 1) (by decide +kernel) (by decide)
set_option maxRecDepth 20000 in
theorem u_X8_nextOf_29 (L : xL) (a b : Int32) (st : List Value) (h : xH) : xf 142 29 L (.int b :: .int a :: st) h = if a = b then xf 142 32 L st h else xf 142 39 L st h := xo_icmp_ne (t := 39) (by decide +kernel) rfl
set_option maxRecDepth 20000 in
theorem u_X8_nextOf_32 (l1 : Option Value) (x : Nat) (st : List Value) (h : xH) : xf 142 32 [some (.ref x), l1] st h = xf 142 33 [some (.ref x), l1] (.ref x :: st) h := xo_aload (k := 0) (by decide +kernel) rfl
set_option maxRecDepth 20000 in
theorem u_X8_nextOf_33 (L : xL) (a : Nat) (st : List Value) (h : xH) (hc : (xob h a).1 = 8) : xf 142 33 L (.ref a :: st) h = xf 142 36 L ((xob h a).2.getD 16 .null :: st) h := xo_getf (r := 528) (by decide +kernel) (by decide) hc
set_option maxRecDepth 20000 in
theorem u_X8_nextOf_36 (L : xL) (st : List Value) (h : xH) : xf 142 36 L st h = xf 142 55 L st h := xo_goto (n := 39) (t := 55) (by decide +kernel) rfl
set_option maxRecDepth 20000 in
theorem u_X8_nextOf_39 (l0 : Option Value) (x : Int32) (st : List Value) (h : xH) : xf 142 39 [l0, some (.int x)] st h = xf 142 40 [l0, some (.int x)] (.int x :: st) h := xo_iload (k := 1) (by decide +kernel) rfl
set_option maxRecDepth 20000 in
theorem u_X8_nextOf_40 (L : xL) (st : List Value) (h : xH) : xf 142 40 L st h = xf 142 41 L (.int 2 :: st) h := xo_iconst (k := 2) (by decide +kernel) (by decide)
set_option maxRecDepth 20000 in
theorem u_X8_nextOf_41 (L : xL) (a b : Int32) (st : List Value) (h : xH) : xf 142 41 L (.int b :: .int a :: st) h = if a = b then xf 142 44 L st h else xf 142 51 L st h := xo_icmp_ne (t := 51) (by decide +kernel) rfl
set_option maxRecDepth 20000 in
theorem u_X8_nextOf_44 (l1 : Option Value) (x : Nat) (st : List Value) (h : xH) : xf 142 44 [some (.ref x), l1] st h = xf 142 45 [some (.ref x), l1] (.ref x :: st) h := xo_aload (k := 0) (by decide +kernel) rfl
set_option maxRecDepth 20000 in
theorem u_X8_nextOf_45 (L : xL) (a : Nat) (st : List Value) (h : xH) (hc : (xob h a).1 = 8) : xf 142 45 L (.ref a :: st) h = xf 142 48 L ((xob h a).2.getD 17 .null :: st) h := xo_getf (r := 529) (by decide +kernel) (by decide) hc
set_option maxRecDepth 20000 in
theorem u_X8_nextOf_48 (L : xL) (st : List Value) (h : xH) : xf 142 48 L st h = xf 142 55 L st h := xo_goto (n := 51) (t := 55) (by decide +kernel) rfl
set_option maxRecDepth 20000 in
theorem u_X8_nextOf_51 (l1 : Option Value) (x : Nat) (st : List Value) (h : xH) : xf 142 51 [some (.ref x), l1] st h = xf 142 52 [some (.ref x), l1] (.ref x :: st) h := xo_aload (k := 0) (by decide +kernel) rfl
set_option maxRecDepth 20000 in
theorem u_X8_nextOf_52 (L : xL) (a : Nat) (st : List Value) (h : xH) (hc : (xob h a).1 = 8) : xf 142 52 L (.ref a :: st) h = xf 142 55 L ((xob h a).2.getD 18 .null :: st) h := xo_getf (r := 530) (by decide +kernel) (by decide) hc
set_option maxRecDepth 20000 in
theorem u_X8_nextOf_55 (L : xL) (x : Int32) (h : xH) : xf 142 55 L [.int x] h = some (.inl (some (.int x)), h) := xo_ireturn (n := 56) (by decide +kernel) rfl
set_option maxRecDepth 20000 in
theorem e_X8_nextOf (v0 : Nat) (v1 : Int32) (h : xH) : xev 142 [.ref v0, .int v1] h = xf 142 0 [some (.ref v0), some (.int v1)] [] h := rfl
set_option maxRecDepth 20000 in
theorem u_X8_next_0 (l1 : Option Value) (x : Nat) (st : List Value) (h : xH) : xf 143 0 [some (.ref x), l1] st h = xf 143 1 [some (.ref x), l1] (.ref x :: st) h := xo_aload (k := 0) (by decide +kernel) rfl
set_option maxRecDepth 20000 in
theorem u_X8_next_1 (l0 : Option Value) (x : Int32) (st : List Value) (h : xH) : xf 143 1 [l0, some (.int x)] st h = xf 143 2 [l0, some (.int x)] (.int x :: st) h := xo_iload (k := 1) (by decide +kernel) rfl
set_option maxRecDepth 20000 in
theorem u_X8_next_2 (L : xL) (st : List Value) (h : xH) : xf 143 2 L st h = xf 143 3 L (.int 0 :: st) h := xo_iconst (k := 0) (by decide +kernel) (by decide)
set_option maxRecDepth 20000 in
theorem u_X8_next_3 (L : xL) (st : List Value) (h : xH) : xf 143 3 L st h = xf 143 4 L (.int 3 :: st) h := xo_iconst (k := 3) (by decide +kernel) (by decide)
set_option maxRecDepth 20000 in
theorem u_X8_next_4 (L : xL) (v0 : Int32) (v1 : Int32) (v2 : Int32) (st : List Value) (h : xH) (hl : st.length ≤ 4) : xf 143 4 L (.int v2 :: .int v1 :: .int v0 :: st) h = xgo 143 4 7 L st (xev 99 [.int v0, .int v1, .int v2] h) := xo_callS (as := [.int v0, .int v1, .int v2]) (by decide +kernel) rfl ⟨(by decide +kernel : xna 99 = 3), Nat.le_of_ble_eq_true rfl, by decide⟩ hl
set_option maxRecDepth 20000 in
theorem u_X8_next_7 (L : xL) (a : Int32) (st : List Value) (h : xH) : xf 143 7 L (.int a :: st) h = if a = 0 then xf 143 14 L st h else xf 143 10 L st h := xo_if_eq (t := 14) (by decide +kernel) rfl
set_option maxRecDepth 20000 in
theorem u_X8_next_10 (L : xL) (st : List Value) (h : xH) : xf 143 10 L st h = xf 143 11 L (.int 0 :: st) h := xo_iconst (k := 0) (by decide +kernel) (by decide)
set_option maxRecDepth 20000 in
theorem u_X8_next_11 (L : xL) (st : List Value) (h : xH) : xf 143 11 L st h = xf 143 15 L st h := xo_goto (n := 14) (t := 15) (by decide +kernel) rfl
set_option maxRecDepth 20000 in
theorem u_X8_next_14 (L : xL) (st : List Value) (h : xH) : xf 143 14 L st h = xf 143 15 L (.int 1 :: st) h := xo_iconst (k := 1) (by decide +kernel) (by decide)
set_option maxRecDepth 20000 in
theorem u_X8_next_15 (L : xL) (v0 : Int32) (b : Nat) (st : List Value) (h : xH) (hb : (xob h b).1 = 8) (hl : st.length ≤ 4) : xf 143 15 L (.int v0 :: .ref b :: st) h = xgo 143 15 18 L st (xev 100 [.ref b, .int v0] h) := xo_callV (as := [.int v0]) (by decide +kernel) rfl ⟨(by decide +kernel : xna 100 = 1), Nat.le_of_ble_eq_true rfl, rfl, by decide⟩ hb hl
set_option maxRecDepth 20000 in
theorem u_X8_next_18 (L : xL) (a : Int32) (st : List Value) (h : xH) : xf 143 18 L (.int a :: st) h = if a = 0 then xf 143 29 L st h else xf 143 21 L st h := xo_if_eq (t := 29) (by decide +kernel) rfl
set_option maxRecDepth 20000 in
theorem u_X8_next_21 (l1 : Option Value) (x : Nat) (st : List Value) (h : xH) : xf 143 21 [some (.ref x), l1] st h = xf 143 22 [some (.ref x), l1] (.ref x :: st) h := xo_aload (k := 0) (by decide +kernel) rfl
set_option maxRecDepth 20000 in
theorem u_X8_next_22 (l0 : Option Value) (x : Int32) (st : List Value) (h : xH) : xf 143 22 [l0, some (.int x)] st h = xf 143 23 [l0, some (.int x)] (.int x :: st) h := xo_iload (k := 1) (by decide +kernel) rfl
set_option maxRecDepth 20000 in
theorem u_X8_next_23 (L : xL) (v0 : Int32) (b : Nat) (st : List Value) (h : xH) (hb : (xob h b).1 = 8) (hl : st.length ≤ 4) : xf 143 23 L (.int v0 :: .ref b :: st) h = xgo 143 23 26 L st (xev 142 [.ref b, .int v0] h) := xo_callV (as := [.int v0]) (by decide +kernel) rfl ⟨(by decide +kernel : xna 142 = 1), Nat.le_of_ble_eq_true rfl, rfl, by decide⟩ hb hl
set_option maxRecDepth 20000 in
theorem u_X8_next_26 (L : xL) (st : List Value) (h : xH) : xf 143 26 L st h = xf 143 30 L st h := xo_goto (n := 29) (t := 30) (by decide +kernel) rfl
set_option maxRecDepth 20000 in
theorem u_X8_next_29 (L : xL) (st : List Value) (h : xH) : xf 143 29 L st h = xf 143 30 L (.int 0 :: st) h := xo_iconst (k := 0) (by decide +kernel) (by decide)
set_option maxRecDepth 20000 in
theorem u_X8_next_30 (L : xL) (x : Int32) (h : xH) : xf 143 30 L [.int x] h = some (.inl (some (.int x)), h) := xo_ireturn (n := 31) (by decide +kernel) rfl
set_option maxRecDepth 20000 in
theorem e_X8_next (v0 : Nat) (v1 : Int32) (h : xH) : xev 143 [.ref v0, .int v1] h = xf 143 0 [some (.ref v0), some (.int v1)] [] h := rfl
set_option maxRecDepth 20000 in
theorem u_X8_unlike_0 (L : xL) (st : List Value) (h : xH) : xf 144 0 L st h = xf 144 1 L (.int 0 :: st) h := xo_iconst (k := 0) (by decide +kernel) (by decide)
set_option maxRecDepth 20000 in
theorem u_X8_unlike_1 (l0 l1 l2 : Option Value) (x : Int32) (st : List Value) (h : xH) : xf 144 1 [l0, l1, l2] (.int x :: st) h = xf 144 2 [xcat l0, some (.int x), l2] st h := xo_istore (k := 1) (by decide +kernel) (Nat.le_of_ble_eq_true rfl) rfl
set_option maxRecDepth 20000 in
theorem u_X8_unlike_2 (L : xL) (st : List Value) (h : xH) : xf 144 2 L st h = xf 144 3 L (.int 0 :: st) h := xo_iconst (k := 0) (by decide +kernel) (by decide)
set_option maxRecDepth 20000 in
theorem u_X8_unlike_3 (l0 l1 l2 : Option Value) (x : Int32) (st : List Value) (h : xH) : xf 144 3 [l0, l1, l2] (.int x :: st) h = xf 144 4 [l0, xcat l1, some (.int x)] st h := xo_istore (k := 2) (by decide +kernel) (Nat.le_of_ble_eq_true rfl) rfl
set_option maxRecDepth 20000 in
theorem u_X8_unlike_4 (l0 l1 : Option Value) (x : Int32) (st : List Value) (h : xH) : xf 144 4 [l0, l1, some (.int x)] st h = xf 144 5 [l0, l1, some (.int x)] (.int x :: st) h := xo_iload (k := 2) (by decide +kernel) rfl
set_option maxRecDepth 20000 in
theorem u_X8_unlike_5 (L : xL) (st : List Value) (h : xH) : xf 144 5 L st h = xf 144 7 L (.int 24 :: st) h := xo_iconst (k := 24) (by decide +kernel) (by decide)
set_option maxRecDepth 20000 in
theorem u_X8_unlike_7 (L : xL) (a b : Int32) (st : List Value) (h : xH) : xf 144 7 L (.int b :: .int a :: st) h = if a < b then xf 144 10 L st h else xf 144 32 L st h := xo_icmp_ge (t := 32) (by decide +kernel) rfl
set_option maxRecDepth 20000 in
theorem u_X8_unlike_10 (l0 l2 : Option Value) (x : Int32) (st : List Value) (h : xH) : xf 144 10 [l0, some (.int x), l2] st h = xf 144 11 [l0, some (.int x), l2] (.int x :: st) h := xo_iload (k := 1) (by decide +kernel) rfl
set_option maxRecDepth 20000 in
theorem u_X8_unlike_11 (l1 l2 : Option Value) (x : Nat) (st : List Value) (h : xH) : xf 144 11 [some (.ref x), l1, l2] st h = xf 144 12 [some (.ref x), l1, l2] (.ref x :: st) h := xo_aload (k := 0) (by decide +kernel) rfl
set_option maxRecDepth 20000 in
theorem u_X8_unlike_12 (l0 l1 : Option Value) (x : Int32) (st : List Value) (h : xH) : xf 144 12 [l0, l1, some (.int x)] st h = xf 144 13 [l0, l1, some (.int x)] (.int x :: st) h := xo_iload (k := 2) (by decide +kernel) rfl
set_option maxRecDepth 20000 in
theorem u_X8_unlike_13 (L : xL) (v0 : Int32) (b : Nat) (st : List Value) (h : xH) (hb : (xob h b).1 = 8) (hl : st.length ≤ 4) : xf 144 13 L (.int v0 :: .ref b :: st) h = xgo 144 13 16 L st (xev 109 [.ref b, .int v0] h) := xo_callV (as := [.int v0]) (by decide +kernel) rfl ⟨(by decide +kernel : xna 109 = 1), Nat.le_of_ble_eq_true rfl, rfl, by decide⟩ hb hl
set_option maxRecDepth 20000 in
theorem u_X8_unlike_16 (L : xL) (a : Int32) (st : List Value) (h : xH) : xf 144 16 L (.int a :: st) h = if 0 < a then xf 144 19 L st h else xf 144 23 L st h := xo_if_le (t := 23) (by decide +kernel) rfl
set_option maxRecDepth 20000 in
theorem u_X8_unlike_19 (L : xL) (st : List Value) (h : xH) : xf 144 19 L st h = xf 144 20 L (.int 1 :: st) h := xo_iconst (k := 1) (by decide +kernel) (by decide)
set_option maxRecDepth 20000 in
theorem u_X8_unlike_20 (L : xL) (st : List Value) (h : xH) : xf 144 20 L st h = xf 144 24 L st h := xo_goto (n := 23) (t := 24) (by decide +kernel) rfl
set_option maxRecDepth 20000 in
theorem u_X8_unlike_23 (L : xL) (st : List Value) (h : xH) : xf 144 23 L st h = xf 144 24 L (.int 0 :: st) h := xo_iconst (k := 0) (by decide +kernel) (by decide)
set_option maxRecDepth 20000 in
theorem u_X8_unlike_24 (L : xL) (a b : Int32) (st : List Value) (h : xH) : xf 144 24 L (.int b :: .int a :: st) h = xf 144 25 L (.int (a + b) :: st) h := xo_iadd (by decide +kernel)
set_option maxRecDepth 20000 in
theorem u_X8_unlike_25 (l0 l1 l2 : Option Value) (x : Int32) (st : List Value) (h : xH) : xf 144 25 [l0, l1, l2] (.int x :: st) h = xf 144 26 [xcat l0, some (.int x), l2] st h := xo_istore (k := 1) (by decide +kernel) (Nat.le_of_ble_eq_true rfl) rfl
set_option maxRecDepth 20000 in
theorem u_X8_unlike_26 (l0 l1 : Option Value) (x : Int32) (st : List Value) (h : xH) : xf 144 26 [l0, l1, some (.int x)] st h = xf 144 29 [l0, xcat l1, some (.int (x + 1))] st h := xo_iinc (k := 2) (c := 1) (by decide +kernel) rfl (by decide) rfl
set_option maxRecDepth 20000 in
theorem u_X8_unlike_29 (L : xL) (st : List Value) (h : xH) : xf 144 29 L st h = xf 144 4 L st h := xo_goto (n := 32) (t := 4) (by decide +kernel) rfl
set_option maxRecDepth 20000 in
theorem u_X8_unlike_32 (l0 l2 : Option Value) (x : Int32) (st : List Value) (h : xH) : xf 144 32 [l0, some (.int x), l2] st h = xf 144 33 [l0, some (.int x), l2] (.int x :: st) h := xo_iload (k := 1) (by decide +kernel) rfl
set_option maxRecDepth 20000 in
theorem u_X8_unlike_33 (L : xL) (x : Int32) (h : xH) : xf 144 33 L [.int x] h = some (.inl (some (.int x)), h) := xo_ireturn (n := 34) (by decide +kernel) rfl
set_option maxRecDepth 20000 in
theorem e_X8_unlike (v0 : Nat) (h : xH) : xev 144 [.ref v0] h = xf 144 0 [some (.ref v0), none, none] [] h := rfl
set_option maxRecDepth 20000 in
theorem u_X8_counted_0 (l0 : Option Value) (x : Int32) (st : List Value) (h : xH) : xf 145 0 [l0, some (.int x)] st h = xf 145 1 [l0, some (.int x)] (.int x :: st) h := xo_iload (k := 1) (by decide +kernel) rfl
set_option maxRecDepth 20000 in
theorem u_X8_counted_1 (L : xL) (a : Int32) (st : List Value) (h : xH) : xf 145 1 L (.int a :: st) h = if a = 0 then xf 145 48 L st h else if a = 1 then xf 145 55 L st h else if a = 2 then xf 145 60 L st h else if a = 3 then xf 145 65 L st h else if a = 4 then xf 145 70 L st h else if a = 5 then xf 145 75 L st h else if a = 6 then xf 145 80 L st h else if a = 7 then xf 145 80 L st h else xf 145 93 L st h := by
  have ho : xop 145 1 = some (.tableswitch 93 0 7 #[48, 55, 60, 65, 70, 75, 80, 80], 1) := by decide +kernel
  by_cases h0 : a = 0
  · subst h0
    rw [if_pos rfl]
    exact xo_tsw (t := 48) ho (by decide) (by decide) rfl
  rw [if_neg h0]
  by_cases h1 : a = 1
  · subst h1
    rw [if_pos rfl]
    exact xo_tsw (t := 55) ho (by decide) (by decide) rfl
  rw [if_neg h1]
  by_cases h2 : a = 2
  · subst h2
    rw [if_pos rfl]
    exact xo_tsw (t := 60) ho (by decide) (by decide) rfl
  rw [if_neg h2]
  by_cases h3 : a = 3
  · subst h3
    rw [if_pos rfl]
    exact xo_tsw (t := 65) ho (by decide) (by decide) rfl
  rw [if_neg h3]
  by_cases h4 : a = 4
  · subst h4
    rw [if_pos rfl]
    exact xo_tsw (t := 70) ho (by decide) (by decide) rfl
  rw [if_neg h4]
  by_cases h5 : a = 5
  · subst h5
    rw [if_pos rfl]
    exact xo_tsw (t := 75) ho (by decide) (by decide) rfl
  rw [if_neg h5]
  by_cases h6 : a = 6
  · subst h6
    rw [if_pos rfl]
    exact xo_tsw (t := 80) ho (by decide) (by decide) rfl
  rw [if_neg h6]
  by_cases h7 : a = 7
  · subst h7
    rw [if_pos rfl]
    exact xo_tsw (t := 80) ho (by decide) (by decide) rfl
  rw [if_neg h7]
  refine xo_tswO ho rfl ?_
  have g0 := xi_ne h0
  rw [show (0 : Int32).toInt = 0 by decide] at g0
  have g1 := xi_ne h1
  rw [show (1 : Int32).toInt = 1 by decide] at g1
  have g2 := xi_ne h2
  rw [show (2 : Int32).toInt = 2 by decide] at g2
  have g3 := xi_ne h3
  rw [show (3 : Int32).toInt = 3 by decide] at g3
  have g4 := xi_ne h4
  rw [show (4 : Int32).toInt = 4 by decide] at g4
  have g5 := xi_ne h5
  rw [show (5 : Int32).toInt = 5 by decide] at g5
  have g6 := xi_ne h6
  rw [show (6 : Int32).toInt = 6 by decide] at g6
  have g7 := xi_ne h7
  rw [show (7 : Int32).toInt = 7 by decide] at g7
  omega
set_option maxRecDepth 20000 in
theorem u_X8_counted_48 (l1 : Option Value) (x : Nat) (st : List Value) (h : xH) : xf 145 48 [some (.ref x), l1] st h = xf 145 49 [some (.ref x), l1] (.ref x :: st) h := xo_aload (k := 0) (by decide +kernel) rfl
set_option maxRecDepth 20000 in
theorem u_X8_counted_49 (L : xL) (a : Nat) (st : List Value) (h : xH) (hc : (xob h a).1 = 8) : xf 145 49 L (.ref a :: st) h = xf 145 52 L ((xob h a).2.getD 1 .null :: st) h := xo_getf (r := 513) (by decide +kernel) (by decide) hc
set_option maxRecDepth 20000 in
theorem u_X8_counted_52 (L : xL) (st : List Value) (h : xH) : xf 145 52 L st h = xf 145 53 L (.int 0 :: st) h := xo_iconst (k := 0) (by decide +kernel) (by decide)
set_option maxRecDepth 20000 in
theorem u_X8_counted_53 (L : xL) (i : Int32) (a : Nat) (st : List Value) (h : xH) (hx : xix i (xai h a).1) : xf 145 53 L (.int i :: .ref a :: st) h = xf 145 54 L (.int ((xai h a).2 i.toNatClampNeg) :: st) h := xo_iaload (by decide +kernel) hx
set_option maxRecDepth 20000 in
theorem u_X8_counted_54 (L : xL) (x : Int32) (h : xH) : xf 145 54 L [.int x] h = some (.inl (some (.int x)), h) := xo_ireturn (n := 55) (by decide +kernel) rfl
set_option maxRecDepth 20000 in
theorem u_X8_counted_55 (l1 : Option Value) (x : Nat) (st : List Value) (h : xH) : xf 145 55 [some (.ref x), l1] st h = xf 145 56 [some (.ref x), l1] (.ref x :: st) h := xo_aload (k := 0) (by decide +kernel) rfl
set_option maxRecDepth 20000 in
theorem u_X8_counted_56 (L : xL) (b : Nat) (st : List Value) (h : xH) (hb : (xob h b).1 = 8) (hl : st.length ≤ 4) : xf 145 56 L (.ref b :: st) h = xgo 145 56 59 L st (xev 111 [.ref b] h) := xo_callV (as := []) (by decide +kernel) rfl ⟨(by decide +kernel : xna 111 = 0), Nat.le_of_ble_eq_true rfl, rfl, by decide⟩ hb hl
set_option maxRecDepth 20000 in
theorem u_X8_counted_59 (L : xL) (x : Int32) (h : xH) : xf 145 59 L [.int x] h = some (.inl (some (.int x)), h) := xo_ireturn (n := 60) (by decide +kernel) rfl
set_option maxRecDepth 20000 in
theorem u_X8_counted_60 (l1 : Option Value) (x : Nat) (st : List Value) (h : xH) : xf 145 60 [some (.ref x), l1] st h = xf 145 61 [some (.ref x), l1] (.ref x :: st) h := xo_aload (k := 0) (by decide +kernel) rfl
set_option maxRecDepth 20000 in
theorem u_X8_counted_61 (L : xL) (b : Nat) (st : List Value) (h : xH) (hb : (xob h b).1 = 8) (hl : st.length ≤ 4) : xf 145 61 L (.ref b :: st) h = xgo 145 61 64 L st (xev 113 [.ref b] h) := xo_callV (as := []) (by decide +kernel) rfl ⟨(by decide +kernel : xna 113 = 0), Nat.le_of_ble_eq_true rfl, rfl, by decide⟩ hb hl
set_option maxRecDepth 20000 in
theorem u_X8_counted_64 (L : xL) (x : Int32) (h : xH) : xf 145 64 L [.int x] h = some (.inl (some (.int x)), h) := xo_ireturn (n := 65) (by decide +kernel) rfl
set_option maxRecDepth 20000 in
theorem u_X8_counted_65 (l1 : Option Value) (x : Nat) (st : List Value) (h : xH) : xf 145 65 [some (.ref x), l1] st h = xf 145 66 [some (.ref x), l1] (.ref x :: st) h := xo_aload (k := 0) (by decide +kernel) rfl
set_option maxRecDepth 20000 in
theorem u_X8_counted_66 (L : xL) (b : Nat) (st : List Value) (h : xH) (hb : (xob h b).1 = 8) (hl : st.length ≤ 4) : xf 145 66 L (.ref b :: st) h = xgo 145 66 69 L st (xev 144 [.ref b] h) := xo_callV (as := []) (by decide +kernel) rfl ⟨(by decide +kernel : xna 144 = 0), Nat.le_of_ble_eq_true rfl, rfl, by decide⟩ hb hl
set_option maxRecDepth 20000 in
theorem u_X8_counted_69 (L : xL) (x : Int32) (h : xH) : xf 145 69 L [.int x] h = some (.inl (some (.int x)), h) := xo_ireturn (n := 70) (by decide +kernel) rfl
set_option maxRecDepth 20000 in
theorem u_X8_counted_70 (l1 : Option Value) (x : Nat) (st : List Value) (h : xH) : xf 145 70 [some (.ref x), l1] st h = xf 145 71 [some (.ref x), l1] (.ref x :: st) h := xo_aload (k := 0) (by decide +kernel) rfl
set_option maxRecDepth 20000 in
theorem u_X8_counted_71 (L : xL) (b : Nat) (st : List Value) (h : xH) (hb : (xob h b).1 = 8) (hl : st.length ≤ 4) : xf 145 71 L (.ref b :: st) h = xgo 145 71 74 L st (xev 114 [.ref b] h) := xo_callV (as := []) (by decide +kernel) rfl ⟨(by decide +kernel : xna 114 = 0), Nat.le_of_ble_eq_true rfl, rfl, by decide⟩ hb hl
set_option maxRecDepth 20000 in
theorem u_X8_counted_74 (L : xL) (x : Int32) (h : xH) : xf 145 74 L [.int x] h = some (.inl (some (.int x)), h) := xo_ireturn (n := 75) (by decide +kernel) rfl
set_option maxRecDepth 20000 in
theorem u_X8_counted_75 (l1 : Option Value) (x : Nat) (st : List Value) (h : xH) : xf 145 75 [some (.ref x), l1] st h = xf 145 76 [some (.ref x), l1] (.ref x :: st) h := xo_aload (k := 0) (by decide +kernel) rfl
set_option maxRecDepth 20000 in
theorem u_X8_counted_76 (L : xL) (b : Nat) (st : List Value) (h : xH) (hb : (xob h b).1 = 8) (hl : st.length ≤ 4) : xf 145 76 L (.ref b :: st) h = xgo 145 76 79 L st (xev 112 [.ref b] h) := xo_callV (as := []) (by decide +kernel) rfl ⟨(by decide +kernel : xna 112 = 0), Nat.le_of_ble_eq_true rfl, rfl, by decide⟩ hb hl
set_option maxRecDepth 20000 in
theorem u_X8_counted_79 (L : xL) (x : Int32) (h : xH) : xf 145 79 L [.int x] h = some (.inl (some (.int x)), h) := xo_ireturn (n := 80) (by decide +kernel) rfl
set_option maxRecDepth 20000 in
theorem u_X8_counted_80 (l1 : Option Value) (x : Nat) (st : List Value) (h : xH) : xf 145 80 [some (.ref x), l1] st h = xf 145 81 [some (.ref x), l1] (.ref x :: st) h := xo_aload (k := 0) (by decide +kernel) rfl
set_option maxRecDepth 20000 in
theorem u_X8_counted_81 (L : xL) (a : Nat) (st : List Value) (h : xH) (hc : (xob h a).1 = 8) : xf 145 81 L (.ref a :: st) h = xf 145 84 L ((xob h a).2.getD 1 .null :: st) h := xo_getf (r := 513) (by decide +kernel) (by decide) hc
set_option maxRecDepth 20000 in
theorem u_X8_counted_84 (L : xL) (st : List Value) (h : xH) : xf 145 84 L st h = xf 145 86 L (.int 115 :: st) h := xo_iconst (k := 115) (by decide +kernel) (by decide)
set_option maxRecDepth 20000 in
theorem u_X8_counted_86 (l0 : Option Value) (x : Int32) (st : List Value) (h : xH) : xf 145 86 [l0, some (.int x)] st h = xf 145 87 [l0, some (.int x)] (.int x :: st) h := xo_iload (k := 1) (by decide +kernel) rfl
set_option maxRecDepth 20000 in
theorem u_X8_counted_87 (L : xL) (a b : Int32) (st : List Value) (h : xH) : xf 145 87 L (.int b :: .int a :: st) h = xf 145 88 L (.int (a + b) :: st) h := xo_iadd (by decide +kernel)
set_option maxRecDepth 20000 in
theorem u_X8_counted_88 (L : xL) (st : List Value) (h : xH) : xf 145 88 L st h = xf 145 90 L (.int 6 :: st) h := xo_iconst (k := 6) (by decide +kernel) (by decide)
set_option maxRecDepth 20000 in
theorem u_X8_counted_90 (L : xL) (a b : Int32) (st : List Value) (h : xH) : xf 145 90 L (.int b :: .int a :: st) h = xf 145 91 L (.int (a - b) :: st) h := xo_isub (by decide +kernel)
set_option maxRecDepth 20000 in
theorem u_X8_counted_91 (L : xL) (i : Int32) (a : Nat) (st : List Value) (h : xH) (hx : xix i (xai h a).1) : xf 145 91 L (.int i :: .ref a :: st) h = xf 145 92 L (.int ((xai h a).2 i.toNatClampNeg) :: st) h := xo_iaload (by decide +kernel) hx
set_option maxRecDepth 20000 in
theorem u_X8_counted_92 (L : xL) (x : Int32) (h : xH) : xf 145 92 L [.int x] h = some (.inl (some (.int x)), h) := xo_ireturn (n := 93) (by decide +kernel) rfl
set_option maxRecDepth 20000 in
theorem u_X8_counted_93 (l1 : Option Value) (x : Nat) (st : List Value) (h : xH) : xf 145 93 [some (.ref x), l1] st h = xf 145 94 [some (.ref x), l1] (.ref x :: st) h := xo_aload (k := 0) (by decide +kernel) rfl
set_option maxRecDepth 20000 in
theorem u_X8_counted_94 (L : xL) (a : Nat) (st : List Value) (h : xH) (hc : (xob h a).1 = 8) : xf 145 94 L (.ref a :: st) h = xf 145 97 L ((xob h a).2.getD 4 .null :: st) h := xo_getf (r := 516) (by decide +kernel) (by decide) hc
set_option maxRecDepth 20000 in
theorem u_X8_counted_97 (L : xL) (x : Int32) (h : xH) : xf 145 97 L [.int x] h = some (.inl (some (.int x)), h) := xo_ireturn (n := 98) (by decide +kernel) rfl
set_option maxRecDepth 20000 in
theorem e_X8_counted (v0 : Nat) (v1 : Int32) (h : xH) : xev 145 [.ref v0, .int v1] h = xf 145 0 [some (.ref v0), some (.int v1)] [] h := rfl
set_option maxRecDepth 20000 in
theorem u_X8_count_0 (l1 : Option Value) (x : Nat) (st : List Value) (h : xH) : xf 146 0 [some (.ref x), l1] st h = xf 146 1 [some (.ref x), l1] (.ref x :: st) h := xo_aload (k := 0) (by decide +kernel) rfl
set_option maxRecDepth 20000 in
theorem u_X8_count_1 (L : xL) (b : Nat) (st : List Value) (h : xH) (hb : (xob h b).1 = 8) (hl : st.length ≤ 4) : xf 146 1 L (.ref b :: st) h = xgo 146 1 4 L st (xev 107 [.ref b] h) := xo_callV (as := []) (by decide +kernel) rfl ⟨(by decide +kernel : xna 107 = 0), Nat.le_of_ble_eq_true rfl, rfl, by decide⟩ hb hl
set_option maxRecDepth 20000 in
theorem u_X8_count_4 (l1 : Option Value) (x : Nat) (st : List Value) (h : xH) : xf 146 4 [some (.ref x), l1] st h = xf 146 5 [some (.ref x), l1] (.ref x :: st) h := xo_aload (k := 0) (by decide +kernel) rfl
set_option maxRecDepth 20000 in
theorem u_X8_count_5 (l0 : Option Value) (x : Int32) (st : List Value) (h : xH) : xf 146 5 [l0, some (.int x)] st h = xf 146 6 [l0, some (.int x)] (.int x :: st) h := xo_iload (k := 1) (by decide +kernel) rfl
set_option maxRecDepth 20000 in
theorem u_X8_count_6 (L : xL) (st : List Value) (h : xH) : xf 146 6 L st h = xf 146 7 L (.int 0 :: st) h := xo_iconst (k := 0) (by decide +kernel) (by decide)
set_option maxRecDepth 20000 in
theorem u_X8_count_7 (L : xL) (st : List Value) (h : xH) : xf 146 7 L st h = xf 146 9 L (.int 8 :: st) h := xo_iconst (k := 8) (by decide +kernel) (by decide)
set_option maxRecDepth 20000 in
theorem u_X8_count_9 (L : xL) (v0 : Int32) (v1 : Int32) (v2 : Int32) (st : List Value) (h : xH) (hl : st.length ≤ 4) : xf 146 9 L (.int v2 :: .int v1 :: .int v0 :: st) h = xgo 146 9 12 L st (xev 99 [.int v0, .int v1, .int v2] h) := xo_callS (as := [.int v0, .int v1, .int v2]) (by decide +kernel) rfl ⟨(by decide +kernel : xna 99 = 3), Nat.le_of_ble_eq_true rfl, by decide⟩ hl
set_option maxRecDepth 20000 in
theorem u_X8_count_12 (L : xL) (a : Int32) (st : List Value) (h : xH) : xf 146 12 L (.int a :: st) h = if a = 0 then xf 146 19 L st h else xf 146 15 L st h := xo_if_eq (t := 19) (by decide +kernel) rfl
set_option maxRecDepth 20000 in
theorem u_X8_count_15 (L : xL) (st : List Value) (h : xH) : xf 146 15 L st h = xf 146 16 L (.int 0 :: st) h := xo_iconst (k := 0) (by decide +kernel) (by decide)
set_option maxRecDepth 20000 in
theorem u_X8_count_16 (L : xL) (st : List Value) (h : xH) : xf 146 16 L st h = xf 146 20 L st h := xo_goto (n := 19) (t := 20) (by decide +kernel) rfl
set_option maxRecDepth 20000 in
theorem u_X8_count_19 (L : xL) (st : List Value) (h : xH) : xf 146 19 L st h = xf 146 20 L (.int 1 :: st) h := xo_iconst (k := 1) (by decide +kernel) (by decide)
set_option maxRecDepth 20000 in
theorem u_X8_count_20 (L : xL) (v0 : Int32) (b : Nat) (st : List Value) (h : xH) (hb : (xob h b).1 = 8) (hl : st.length ≤ 4) : xf 146 20 L (.int v0 :: .ref b :: st) h = xgo 146 20 23 L st (xev 100 [.ref b, .int v0] h) := xo_callV (as := [.int v0]) (by decide +kernel) rfl ⟨(by decide +kernel : xna 100 = 1), Nat.le_of_ble_eq_true rfl, rfl, by decide⟩ hb hl
set_option maxRecDepth 20000 in
theorem u_X8_count_23 (L : xL) (a : Int32) (st : List Value) (h : xH) : xf 146 23 L (.int a :: st) h = if a = 0 then xf 146 34 L st h else xf 146 26 L st h := xo_if_eq (t := 34) (by decide +kernel) rfl
set_option maxRecDepth 20000 in
theorem u_X8_count_26 (l1 : Option Value) (x : Nat) (st : List Value) (h : xH) : xf 146 26 [some (.ref x), l1] st h = xf 146 27 [some (.ref x), l1] (.ref x :: st) h := xo_aload (k := 0) (by decide +kernel) rfl
set_option maxRecDepth 20000 in
theorem u_X8_count_27 (l0 : Option Value) (x : Int32) (st : List Value) (h : xH) : xf 146 27 [l0, some (.int x)] st h = xf 146 28 [l0, some (.int x)] (.int x :: st) h := xo_iload (k := 1) (by decide +kernel) rfl
set_option maxRecDepth 20000 in
theorem u_X8_count_28 (L : xL) (v0 : Int32) (b : Nat) (st : List Value) (h : xH) (hb : (xob h b).1 = 8) (hl : st.length ≤ 4) : xf 146 28 L (.int v0 :: .ref b :: st) h = xgo 146 28 31 L st (xev 145 [.ref b, .int v0] h) := xo_callV (as := [.int v0]) (by decide +kernel) rfl ⟨(by decide +kernel : xna 145 = 1), Nat.le_of_ble_eq_true rfl, rfl, by decide⟩ hb hl
set_option maxRecDepth 20000 in
theorem u_X8_count_31 (L : xL) (st : List Value) (h : xH) : xf 146 31 L st h = xf 146 35 L st h := xo_goto (n := 34) (t := 35) (by decide +kernel) rfl
set_option maxRecDepth 20000 in
theorem u_X8_count_34 (L : xL) (st : List Value) (h : xH) : xf 146 34 L st h = xf 146 35 L (.int 0 :: st) h := xo_iconst (k := 0) (by decide +kernel) (by decide)
set_option maxRecDepth 20000 in
theorem u_X8_count_35 (L : xL) (x : Int32) (h : xH) : xf 146 35 L [.int x] h = some (.inl (some (.int x)), h) := xo_ireturn (n := 36) (by decide +kernel) rfl
set_option maxRecDepth 20000 in
theorem e_X8_count (v0 : Nat) (v1 : Int32) (h : xH) : xev 146 [.ref v0, .int v1] h = xf 146 0 [some (.ref v0), some (.int v1)] [] h := rfl
set_option maxRecDepth 20000 in
theorem u_X8_timesOf_0 (L : xL) (st : List Value) (h : xH) : xf 147 0 L st h = xf 147 1 L (.int 0 :: st) h := xo_iconst (k := 0) (by decide +kernel) (by decide)
set_option maxRecDepth 20000 in
theorem u_X8_timesOf_1 (l0 l1 l2 l3 : Option Value) (x : Int32) (st : List Value) (h : xH) : xf 147 1 [l0, l1, l2, l3] (.int x :: st) h = xf 147 2 [l0, xcat l1, some (.int x), l3] st h := xo_istore (k := 2) (by decide +kernel) (Nat.le_of_ble_eq_true rfl) rfl
set_option maxRecDepth 20000 in
theorem u_X8_timesOf_2 (L : xL) (st : List Value) (h : xH) : xf 147 2 L st h = xf 147 3 L (.int 0 :: st) h := xo_iconst (k := 0) (by decide +kernel) (by decide)
set_option maxRecDepth 20000 in
theorem u_X8_timesOf_3 (l0 l1 l2 l3 : Option Value) (x : Int32) (st : List Value) (h : xH) : xf 147 3 [l0, l1, l2, l3] (.int x :: st) h = xf 147 4 [l0, l1, xcat l2, some (.int x)] st h := xo_istore (k := 3) (by decide +kernel) (Nat.le_of_ble_eq_true rfl) rfl
set_option maxRecDepth 20000 in
theorem u_X8_timesOf_4 (l0 l1 l2 : Option Value) (x : Int32) (st : List Value) (h : xH) : xf 147 4 [l0, l1, l2, some (.int x)] st h = xf 147 5 [l0, l1, l2, some (.int x)] (.int x :: st) h := xo_iload (k := 3) (by decide +kernel) rfl
set_option maxRecDepth 20000 in
theorem u_X8_timesOf_5 (l1 l2 l3 : Option Value) (x : Nat) (st : List Value) (h : xH) : xf 147 5 [some (.ref x), l1, l2, l3] st h = xf 147 6 [some (.ref x), l1, l2, l3] (.ref x :: st) h := xo_aload (k := 0) (by decide +kernel) rfl
set_option maxRecDepth 20000 in
theorem u_X8_timesOf_6 (L : xL) (a : Nat) (st : List Value) (h : xH) (hc : (xob h a).1 = 8) : xf 147 6 L (.ref a :: st) h = xf 147 9 L ((xob h a).2.getD 1 .null :: st) h := xo_getf (r := 513) (by decide +kernel) (by decide) hc
set_option maxRecDepth 20000 in
theorem u_X8_timesOf_9 (L : xL) (st : List Value) (h : xH) : xf 147 9 L st h = xf 147 10 L (.int 0 :: st) h := xo_iconst (k := 0) (by decide +kernel) (by decide)
set_option maxRecDepth 20000 in
theorem u_X8_timesOf_10 (L : xL) (i : Int32) (a : Nat) (st : List Value) (h : xH) (hx : xix i (xai h a).1) : xf 147 10 L (.int i :: .ref a :: st) h = xf 147 11 L (.int ((xai h a).2 i.toNatClampNeg) :: st) h := xo_iaload (by decide +kernel) hx
set_option maxRecDepth 20000 in
theorem u_X8_timesOf_11 (L : xL) (a b : Int32) (st : List Value) (h : xH) : xf 147 11 L (.int b :: .int a :: st) h = if a < b then xf 147 14 L st h else xf 147 41 L st h := xo_icmp_ge (t := 41) (by decide +kernel) rfl
set_option maxRecDepth 20000 in
theorem u_X8_timesOf_14 (l0 l1 l3 : Option Value) (x : Int32) (st : List Value) (h : xH) : xf 147 14 [l0, l1, some (.int x), l3] st h = xf 147 15 [l0, l1, some (.int x), l3] (.int x :: st) h := xo_iload (k := 2) (by decide +kernel) rfl
set_option maxRecDepth 20000 in
theorem u_X8_timesOf_15 (l1 l2 l3 : Option Value) (x : Nat) (st : List Value) (h : xH) : xf 147 15 [some (.ref x), l1, l2, l3] st h = xf 147 16 [some (.ref x), l1, l2, l3] (.ref x :: st) h := xo_aload (k := 0) (by decide +kernel) rfl
set_option maxRecDepth 20000 in
theorem u_X8_timesOf_16 (L : xL) (a : Nat) (st : List Value) (h : xH) (hc : (xob h a).1 = 8) : xf 147 16 L (.ref a :: st) h = xf 147 19 L ((xob h a).2.getD 11 .null :: st) h := xo_getf (r := 523) (by decide +kernel) (by decide) hc
set_option maxRecDepth 20000 in
theorem u_X8_timesOf_19 (L : xL) (st : List Value) (h : xH) : xf 147 19 L st h = xf 147 21 L (.int 8 :: st) h := xo_iconst (k := 8) (by decide +kernel) (by decide)
set_option maxRecDepth 20000 in
theorem u_X8_timesOf_21 (l1 l2 l3 : Option Value) (x : Nat) (st : List Value) (h : xH) : xf 147 21 [some (.ref x), l1, l2, l3] st h = xf 147 22 [some (.ref x), l1, l2, l3] (.ref x :: st) h := xo_aload (k := 0) (by decide +kernel) rfl
set_option maxRecDepth 20000 in
theorem u_X8_timesOf_22 (L : xL) (a : Nat) (st : List Value) (h : xH) (hc : (xob h a).1 = 8) : xf 147 22 L (.ref a :: st) h = xf 147 25 L ((xob h a).2.getD 1 .null :: st) h := xo_getf (r := 513) (by decide +kernel) (by decide) hc
set_option maxRecDepth 20000 in
theorem u_X8_timesOf_25 (L : xL) (st : List Value) (h : xH) : xf 147 25 L st h = xf 147 26 L (.int 1 :: st) h := xo_iconst (k := 1) (by decide +kernel) (by decide)
set_option maxRecDepth 20000 in
theorem u_X8_timesOf_26 (l0 l1 l2 : Option Value) (x : Int32) (st : List Value) (h : xH) : xf 147 26 [l0, l1, l2, some (.int x)] st h = xf 147 27 [l0, l1, l2, some (.int x)] (.int x :: st) h := xo_iload (k := 3) (by decide +kernel) rfl
set_option maxRecDepth 20000 in
theorem u_X8_timesOf_27 (L : xL) (a b : Int32) (st : List Value) (h : xH) : xf 147 27 L (.int b :: .int a :: st) h = xf 147 28 L (.int (a + b) :: st) h := xo_iadd (by decide +kernel)
set_option maxRecDepth 20000 in
theorem u_X8_timesOf_28 (L : xL) (i : Int32) (a : Nat) (st : List Value) (h : xH) (hx : xix i (xai h a).1) : xf 147 28 L (.int i :: .ref a :: st) h = xf 147 29 L (.int ((xai h a).2 i.toNatClampNeg) :: st) h := xo_iaload (by decide +kernel) hx
set_option maxRecDepth 20000 in
theorem u_X8_timesOf_29 (L : xL) (a b : Int32) (st : List Value) (h : xH) : xf 147 29 L (.int b :: .int a :: st) h = xf 147 30 L (.int (a * b) :: st) h := xo_imul (by decide +kernel)
set_option maxRecDepth 20000 in
theorem u_X8_timesOf_30 (l0 l2 l3 : Option Value) (x : Int32) (st : List Value) (h : xH) : xf 147 30 [l0, some (.int x), l2, l3] st h = xf 147 31 [l0, some (.int x), l2, l3] (.int x :: st) h := xo_iload (k := 1) (by decide +kernel) rfl
set_option maxRecDepth 20000 in
theorem u_X8_timesOf_31 (L : xL) (a b : Int32) (st : List Value) (h : xH) : xf 147 31 L (.int b :: .int a :: st) h = xf 147 32 L (.int (a + b) :: st) h := xo_iadd (by decide +kernel)
set_option maxRecDepth 20000 in
theorem u_X8_timesOf_32 (L : xL) (i : Int32) (a : Nat) (st : List Value) (h : xH) (hx : xix i (xai h a).1) : xf 147 32 L (.int i :: .ref a :: st) h = xf 147 33 L (.int ((xai h a).2 i.toNatClampNeg) :: st) h := xo_iaload (by decide +kernel) hx
set_option maxRecDepth 20000 in
theorem u_X8_timesOf_33 (L : xL) (a b : Int32) (st : List Value) (h : xH) : xf 147 33 L (.int b :: .int a :: st) h = xf 147 34 L (.int (a + b) :: st) h := xo_iadd (by decide +kernel)
set_option maxRecDepth 20000 in
theorem u_X8_timesOf_34 (l0 l1 l2 l3 : Option Value) (x : Int32) (st : List Value) (h : xH) : xf 147 34 [l0, l1, l2, l3] (.int x :: st) h = xf 147 35 [l0, xcat l1, some (.int x), l3] st h := xo_istore (k := 2) (by decide +kernel) (Nat.le_of_ble_eq_true rfl) rfl
set_option maxRecDepth 20000 in
theorem u_X8_timesOf_35 (l0 l1 l2 : Option Value) (x : Int32) (st : List Value) (h : xH) : xf 147 35 [l0, l1, l2, some (.int x)] st h = xf 147 38 [l0, l1, xcat l2, some (.int (x + 1))] st h := xo_iinc (k := 3) (c := 1) (by decide +kernel) rfl (by decide) rfl
set_option maxRecDepth 20000 in
theorem u_X8_timesOf_38 (L : xL) (st : List Value) (h : xH) : xf 147 38 L st h = xf 147 4 L st h := xo_goto (n := 41) (t := 4) (by decide +kernel) rfl
set_option maxRecDepth 20000 in
theorem u_X8_timesOf_41 (l0 l1 l3 : Option Value) (x : Int32) (st : List Value) (h : xH) : xf 147 41 [l0, l1, some (.int x), l3] st h = xf 147 42 [l0, l1, some (.int x), l3] (.int x :: st) h := xo_iload (k := 2) (by decide +kernel) rfl
set_option maxRecDepth 20000 in
theorem u_X8_timesOf_42 (L : xL) (x : Int32) (h : xH) : xf 147 42 L [.int x] h = some (.inl (some (.int x)), h) := xo_ireturn (n := 43) (by decide +kernel) rfl
set_option maxRecDepth 20000 in
theorem e_X8_timesOf (v0 : Nat) (v1 : Int32) (h : xH) : xev 147 [.ref v0, .int v1] h = xf 147 0 [some (.ref v0), some (.int v1), none, none] [] h := rfl
set_option maxRecDepth 20000 in
theorem u_X8_times_0 (l1 : Option Value) (x : Nat) (st : List Value) (h : xH) : xf 148 0 [some (.ref x), l1] st h = xf 148 1 [some (.ref x), l1] (.ref x :: st) h := xo_aload (k := 0) (by decide +kernel) rfl
set_option maxRecDepth 20000 in
theorem u_X8_times_1 (L : xL) (b : Nat) (st : List Value) (h : xH) (hb : (xob h b).1 = 8) (hl : st.length ≤ 4) : xf 148 1 L (.ref b :: st) h = xgo 148 1 4 L st (xev 107 [.ref b] h) := xo_callV (as := []) (by decide +kernel) rfl ⟨(by decide +kernel : xna 107 = 0), Nat.le_of_ble_eq_true rfl, rfl, by decide⟩ hb hl
set_option maxRecDepth 20000 in
theorem u_X8_times_4 (l1 : Option Value) (x : Nat) (st : List Value) (h : xH) : xf 148 4 [some (.ref x), l1] st h = xf 148 5 [some (.ref x), l1] (.ref x :: st) h := xo_aload (k := 0) (by decide +kernel) rfl
set_option maxRecDepth 20000 in
theorem u_X8_times_5 (l0 : Option Value) (x : Int32) (st : List Value) (h : xH) : xf 148 5 [l0, some (.int x)] st h = xf 148 6 [l0, some (.int x)] (.int x :: st) h := xo_iload (k := 1) (by decide +kernel) rfl
set_option maxRecDepth 20000 in
theorem u_X8_times_6 (L : xL) (st : List Value) (h : xH) : xf 148 6 L st h = xf 148 7 L (.int 0 :: st) h := xo_iconst (k := 0) (by decide +kernel) (by decide)
set_option maxRecDepth 20000 in
theorem u_X8_times_7 (L : xL) (st : List Value) (h : xH) : xf 148 7 L st h = xf 148 9 L (.int 7 :: st) h := xo_iconst (k := 7) (by decide +kernel) (by decide)
set_option maxRecDepth 20000 in
theorem u_X8_times_9 (L : xL) (v0 : Int32) (v1 : Int32) (v2 : Int32) (st : List Value) (h : xH) (hl : st.length ≤ 4) : xf 148 9 L (.int v2 :: .int v1 :: .int v0 :: st) h = xgo 148 9 12 L st (xev 99 [.int v0, .int v1, .int v2] h) := xo_callS (as := [.int v0, .int v1, .int v2]) (by decide +kernel) rfl ⟨(by decide +kernel : xna 99 = 3), Nat.le_of_ble_eq_true rfl, by decide⟩ hl
set_option maxRecDepth 20000 in
theorem u_X8_times_12 (L : xL) (a : Int32) (st : List Value) (h : xH) : xf 148 12 L (.int a :: st) h = if a = 0 then xf 148 19 L st h else xf 148 15 L st h := xo_if_eq (t := 19) (by decide +kernel) rfl
set_option maxRecDepth 20000 in
theorem u_X8_times_15 (L : xL) (st : List Value) (h : xH) : xf 148 15 L st h = xf 148 16 L (.int 0 :: st) h := xo_iconst (k := 0) (by decide +kernel) (by decide)
set_option maxRecDepth 20000 in
theorem u_X8_times_16 (L : xL) (st : List Value) (h : xH) : xf 148 16 L st h = xf 148 20 L st h := xo_goto (n := 19) (t := 20) (by decide +kernel) rfl
set_option maxRecDepth 20000 in
theorem u_X8_times_19 (L : xL) (st : List Value) (h : xH) : xf 148 19 L st h = xf 148 20 L (.int 1 :: st) h := xo_iconst (k := 1) (by decide +kernel) (by decide)
set_option maxRecDepth 20000 in
theorem u_X8_times_20 (L : xL) (v0 : Int32) (b : Nat) (st : List Value) (h : xH) (hb : (xob h b).1 = 8) (hl : st.length ≤ 4) : xf 148 20 L (.int v0 :: .ref b :: st) h = xgo 148 20 23 L st (xev 100 [.ref b, .int v0] h) := xo_callV (as := [.int v0]) (by decide +kernel) rfl ⟨(by decide +kernel : xna 100 = 1), Nat.le_of_ble_eq_true rfl, rfl, by decide⟩ hb hl
set_option maxRecDepth 20000 in
theorem u_X8_times_23 (L : xL) (a : Int32) (st : List Value) (h : xH) : xf 148 23 L (.int a :: st) h = if a = 0 then xf 148 34 L st h else xf 148 26 L st h := xo_if_eq (t := 34) (by decide +kernel) rfl
set_option maxRecDepth 20000 in
theorem u_X8_times_26 (l1 : Option Value) (x : Nat) (st : List Value) (h : xH) : xf 148 26 [some (.ref x), l1] st h = xf 148 27 [some (.ref x), l1] (.ref x :: st) h := xo_aload (k := 0) (by decide +kernel) rfl
set_option maxRecDepth 20000 in
theorem u_X8_times_27 (l0 : Option Value) (x : Int32) (st : List Value) (h : xH) : xf 148 27 [l0, some (.int x)] st h = xf 148 28 [l0, some (.int x)] (.int x :: st) h := xo_iload (k := 1) (by decide +kernel) rfl
set_option maxRecDepth 20000 in
theorem u_X8_times_28 (L : xL) (v0 : Int32) (b : Nat) (st : List Value) (h : xH) (hb : (xob h b).1 = 8) (hl : st.length ≤ 4) : xf 148 28 L (.int v0 :: .ref b :: st) h = xgo 148 28 31 L st (xev 147 [.ref b, .int v0] h) := xo_callV (as := [.int v0]) (by decide +kernel) rfl ⟨(by decide +kernel : xna 147 = 1), Nat.le_of_ble_eq_true rfl, rfl, by decide⟩ hb hl
set_option maxRecDepth 20000 in
theorem u_X8_times_31 (L : xL) (st : List Value) (h : xH) : xf 148 31 L st h = xf 148 35 L st h := xo_goto (n := 34) (t := 35) (by decide +kernel) rfl
set_option maxRecDepth 20000 in
theorem u_X8_times_34 (L : xL) (st : List Value) (h : xH) : xf 148 34 L st h = xf 148 35 L (.int 0 :: st) h := xo_iconst (k := 0) (by decide +kernel) (by decide)
set_option maxRecDepth 20000 in
theorem u_X8_times_35 (L : xL) (x : Int32) (h : xH) : xf 148 35 L [.int x] h = some (.inl (some (.int x)), h) := xo_ireturn (n := 36) (by decide +kernel) rfl
set_option maxRecDepth 20000 in
theorem e_X8_times (v0 : Nat) (v1 : Int32) (h : xH) : xev 148 [.ref v0, .int v1] h = xf 148 0 [some (.ref v0), some (.int v1)] [] h := rfl
set_option maxRecDepth 20000 in
theorem u_X8_setting_0 (l1 : Option Value) (x : Nat) (st : List Value) (h : xH) : xf 149 0 [some (.ref x), l1] st h = xf 149 1 [some (.ref x), l1] (.ref x :: st) h := xo_aload (k := 0) (by decide +kernel) rfl
set_option maxRecDepth 20000 in
theorem u_X8_setting_1 (l0 : Option Value) (x : Int32) (st : List Value) (h : xH) : xf 149 1 [l0, some (.int x)] st h = xf 149 2 [l0, some (.int x)] (.int x :: st) h := xo_iload (k := 1) (by decide +kernel) rfl
set_option maxRecDepth 20000 in
theorem u_X8_setting_2 (L : xL) (st : List Value) (h : xH) : xf 149 2 L st h = xf 149 3 L (.int 0 :: st) h := xo_iconst (k := 0) (by decide +kernel) (by decide)
set_option maxRecDepth 20000 in
theorem u_X8_setting_3 (L : xL) (st : List Value) (h : xH) : xf 149 3 L st h = xf 149 4 L (.int 1 :: st) h := xo_iconst (k := 1) (by decide +kernel) (by decide)
set_option maxRecDepth 20000 in
theorem u_X8_setting_4 (L : xL) (v0 : Int32) (v1 : Int32) (v2 : Int32) (st : List Value) (h : xH) (hl : st.length ≤ 4) : xf 149 4 L (.int v2 :: .int v1 :: .int v0 :: st) h = xgo 149 4 7 L st (xev 99 [.int v0, .int v1, .int v2] h) := xo_callS (as := [.int v0, .int v1, .int v2]) (by decide +kernel) rfl ⟨(by decide +kernel : xna 99 = 3), Nat.le_of_ble_eq_true rfl, by decide⟩ hl
set_option maxRecDepth 20000 in
theorem u_X8_setting_7 (L : xL) (a : Int32) (st : List Value) (h : xH) : xf 149 7 L (.int a :: st) h = if a = 0 then xf 149 14 L st h else xf 149 10 L st h := xo_if_eq (t := 14) (by decide +kernel) rfl
set_option maxRecDepth 20000 in
theorem u_X8_setting_10 (L : xL) (st : List Value) (h : xH) : xf 149 10 L st h = xf 149 11 L (.int 0 :: st) h := xo_iconst (k := 0) (by decide +kernel) (by decide)
set_option maxRecDepth 20000 in
theorem u_X8_setting_11 (L : xL) (st : List Value) (h : xH) : xf 149 11 L st h = xf 149 15 L st h := xo_goto (n := 14) (t := 15) (by decide +kernel) rfl
set_option maxRecDepth 20000 in
theorem u_X8_setting_14 (L : xL) (st : List Value) (h : xH) : xf 149 14 L st h = xf 149 15 L (.int 1 :: st) h := xo_iconst (k := 1) (by decide +kernel) (by decide)
set_option maxRecDepth 20000 in
theorem u_X8_setting_15 (L : xL) (v0 : Int32) (b : Nat) (st : List Value) (h : xH) (hb : (xob h b).1 = 8) (hl : st.length ≤ 4) : xf 149 15 L (.int v0 :: .ref b :: st) h = xgo 149 15 18 L st (xev 100 [.ref b, .int v0] h) := xo_callV (as := [.int v0]) (by decide +kernel) rfl ⟨(by decide +kernel : xna 100 = 1), Nat.le_of_ble_eq_true rfl, rfl, by decide⟩ hb hl
set_option maxRecDepth 20000 in
theorem u_X8_setting_18 (L : xL) (a : Int32) (st : List Value) (h : xH) : xf 149 18 L (.int a :: st) h = if a = 0 then xf 149 33 L st h else xf 149 21 L st h := xo_if_eq (t := 33) (by decide +kernel) rfl
set_option maxRecDepth 20000 in
theorem u_X8_setting_21 (l1 : Option Value) (x : Nat) (st : List Value) (h : xH) : xf 149 21 [some (.ref x), l1] st h = xf 149 22 [some (.ref x), l1] (.ref x :: st) h := xo_aload (k := 0) (by decide +kernel) rfl
set_option maxRecDepth 20000 in
theorem u_X8_setting_22 (L : xL) (a : Nat) (st : List Value) (h : xH) (hc : (xob h a).1 = 8) : xf 149 22 L (.ref a :: st) h = xf 149 25 L ((xob h a).2.getD 1 .null :: st) h := xo_getf (r := 513) (by decide +kernel) (by decide) hc
set_option maxRecDepth 20000 in
theorem u_X8_setting_25 (L : xL) (st : List Value) (h : xH) : xf 149 25 L st h = xf 149 27 L (.int 113 :: st) h := xo_iconst (k := 113) (by decide +kernel) (by decide)
set_option maxRecDepth 20000 in
theorem u_X8_setting_27 (l0 : Option Value) (x : Int32) (st : List Value) (h : xH) : xf 149 27 [l0, some (.int x)] st h = xf 149 28 [l0, some (.int x)] (.int x :: st) h := xo_iload (k := 1) (by decide +kernel) rfl
set_option maxRecDepth 20000 in
theorem u_X8_setting_28 (L : xL) (a b : Int32) (st : List Value) (h : xH) : xf 149 28 L (.int b :: .int a :: st) h = xf 149 29 L (.int (a + b) :: st) h := xo_iadd (by decide +kernel)
set_option maxRecDepth 20000 in
theorem u_X8_setting_29 (L : xL) (i : Int32) (a : Nat) (st : List Value) (h : xH) (hx : xix i (xai h a).1) : xf 149 29 L (.int i :: .ref a :: st) h = xf 149 30 L (.int ((xai h a).2 i.toNatClampNeg) :: st) h := xo_iaload (by decide +kernel) hx
set_option maxRecDepth 20000 in
theorem u_X8_setting_30 (L : xL) (st : List Value) (h : xH) : xf 149 30 L st h = xf 149 34 L st h := xo_goto (n := 33) (t := 34) (by decide +kernel) rfl
set_option maxRecDepth 20000 in
theorem u_X8_setting_33 (L : xL) (st : List Value) (h : xH) : xf 149 33 L st h = xf 149 34 L (.int 0 :: st) h := xo_iconst (k := 0) (by decide +kernel) (by decide)
set_option maxRecDepth 20000 in
theorem u_X8_setting_34 (L : xL) (x : Int32) (h : xH) : xf 149 34 L [.int x] h = some (.inl (some (.int x)), h) := xo_ireturn (n := 35) (by decide +kernel) rfl
set_option maxRecDepth 20000 in
theorem e_X8_setting (v0 : Nat) (v1 : Int32) (h : xH) : xev 149 [.ref v0, .int v1] h = xf 149 0 [some (.ref v0), some (.int v1)] [] h := rfl
set_option maxRecDepth 20000 in
theorem u_X8_named_0 (l1 l2 l3 : Option Value) (x : Nat) (st : List Value) (h : xH) : xf 150 0 [some (.ref x), l1, l2, l3] st h = xf 150 1 [some (.ref x), l1, l2, l3] (.ref x :: st) h := xo_aload (k := 0) (by decide +kernel) rfl
set_option maxRecDepth 20000 in
theorem u_X8_named_1 (L : xL) (b : Nat) (st : List Value) (h : xH) (hb : (xob h b).1 = 8) (hl : st.length ≤ 4) : xf 150 1 L (.ref b :: st) h = xgo 150 1 4 L st (xev 102 [.ref b] h) := xo_callV (as := []) (by decide +kernel) rfl ⟨(by decide +kernel : xna 102 = 0), Nat.le_of_ble_eq_true rfl, rfl, by decide⟩ hb hl
set_option maxRecDepth 20000 in
theorem u_X8_named_4 (l1 l2 l3 : Option Value) (x : Nat) (st : List Value) (h : xH) : xf 150 4 [some (.ref x), l1, l2, l3] st h = xf 150 5 [some (.ref x), l1, l2, l3] (.ref x :: st) h := xo_aload (k := 0) (by decide +kernel) rfl
set_option maxRecDepth 20000 in
theorem u_X8_named_5 (L : xL) (b : Nat) (st : List Value) (h : xH) (hb : (xob h b).1 = 8) (hl : st.length ≤ 4) : xf 150 5 L (.ref b :: st) h = xgo 150 5 8 L st (xev 126 [.ref b] h) := xo_callV (as := []) (by decide +kernel) rfl ⟨(by decide +kernel : xna 126 = 0), Nat.le_of_ble_eq_true rfl, rfl, by decide⟩ hb hl
set_option maxRecDepth 20000 in
theorem u_X8_named_8 (l0 l1 l2 l3 : Option Value) (x : Int32) (st : List Value) (h : xH) : xf 150 8 [l0, l1, l2, l3] (.int x :: st) h = xf 150 9 [l0, xcat l1, some (.int x), l3] st h := xo_istore (k := 2) (by decide +kernel) (Nat.le_of_ble_eq_true rfl) rfl
set_option maxRecDepth 20000 in
theorem u_X8_named_9 (l1 l2 l3 : Option Value) (x : Nat) (st : List Value) (h : xH) : xf 150 9 [some (.ref x), l1, l2, l3] st h = xf 150 10 [some (.ref x), l1, l2, l3] (.ref x :: st) h := xo_aload (k := 0) (by decide +kernel) rfl
set_option maxRecDepth 20000 in
theorem u_X8_named_10 (L : xL) (b : Nat) (st : List Value) (h : xH) (hb : (xob h b).1 = 8) (hl : st.length ≤ 4) : xf 150 10 L (.ref b :: st) h = xgo 150 10 13 L st (xev 107 [.ref b] h) := xo_callV (as := []) (by decide +kernel) rfl ⟨(by decide +kernel : xna 107 = 0), Nat.le_of_ble_eq_true rfl, rfl, by decide⟩ hb hl
set_option maxRecDepth 20000 in
theorem u_X8_named_13 (l0 l2 l3 : Option Value) (x : Int32) (st : List Value) (h : xH) : xf 150 13 [l0, some (.int x), l2, l3] st h = xf 150 14 [l0, some (.int x), l2, l3] (.int x :: st) h := xo_iload (k := 1) (by decide +kernel) rfl
set_option maxRecDepth 20000 in
theorem u_X8_named_14 (L : xL) (a : Int32) (st : List Value) (h : xH) : xf 150 14 L (.int a :: st) h = if a = 0 then xf 150 17 L st h else xf 150 21 L st h := xo_if_ne (t := 21) (by decide +kernel) rfl
set_option maxRecDepth 20000 in
theorem u_X8_named_17 (l0 l1 l3 : Option Value) (x : Int32) (st : List Value) (h : xH) : xf 150 17 [l0, l1, some (.int x), l3] st h = xf 150 18 [l0, l1, some (.int x), l3] (.int x :: st) h := xo_iload (k := 2) (by decide +kernel) rfl
set_option maxRecDepth 20000 in
theorem u_X8_named_18 (L : xL) (st : List Value) (h : xH) : xf 150 18 L st h = xf 150 51 L st h := xo_goto (n := 21) (t := 51) (by decide +kernel) rfl
set_option maxRecDepth 20000 in
theorem u_X8_named_21 (l0 l2 l3 : Option Value) (x : Int32) (st : List Value) (h : xH) : xf 150 21 [l0, some (.int x), l2, l3] st h = xf 150 22 [l0, some (.int x), l2, l3] (.int x :: st) h := xo_iload (k := 1) (by decide +kernel) rfl
set_option maxRecDepth 20000 in
theorem u_X8_named_22 (L : xL) (st : List Value) (h : xH) : xf 150 22 L st h = xf 150 23 L (.int 1 :: st) h := xo_iconst (k := 1) (by decide +kernel) (by decide)
set_option maxRecDepth 20000 in
theorem u_X8_named_23 (L : xL) (a b : Int32) (st : List Value) (h : xH) : xf 150 23 L (.int b :: .int a :: st) h = if a = b then xf 150 26 L st h else xf 150 35 L st h := xo_icmp_ne (t := 35) (by decide +kernel) rfl
set_option maxRecDepth 20000 in
theorem u_X8_named_26 (l1 l2 l3 : Option Value) (x : Nat) (st : List Value) (h : xH) : xf 150 26 [some (.ref x), l1, l2, l3] st h = xf 150 27 [some (.ref x), l1, l2, l3] (.ref x :: st) h := xo_aload (k := 0) (by decide +kernel) rfl
set_option maxRecDepth 20000 in
theorem u_X8_named_27 (L : xL) (a : Nat) (st : List Value) (h : xH) (hc : (xob h a).1 = 8) : xf 150 27 L (.ref a :: st) h = xf 150 30 L ((xob h a).2.getD 1 .null :: st) h := xo_getf (r := 513) (by decide +kernel) (by decide) hc
set_option maxRecDepth 20000 in
theorem u_X8_named_30 (L : xL) (st : List Value) (h : xH) : xf 150 30 L st h = xf 150 31 L (.int 0 :: st) h := xo_iconst (k := 0) (by decide +kernel) (by decide)
set_option maxRecDepth 20000 in
theorem u_X8_named_31 (L : xL) (i : Int32) (a : Nat) (st : List Value) (h : xH) (hx : xix i (xai h a).1) : xf 150 31 L (.int i :: .ref a :: st) h = xf 150 32 L (.int ((xai h a).2 i.toNatClampNeg) :: st) h := xo_iaload (by decide +kernel) hx
set_option maxRecDepth 20000 in
theorem u_X8_named_32 (L : xL) (st : List Value) (h : xH) : xf 150 32 L st h = xf 150 51 L st h := xo_goto (n := 35) (t := 51) (by decide +kernel) rfl
set_option maxRecDepth 20000 in
theorem u_X8_named_35 (l0 l2 l3 : Option Value) (x : Int32) (st : List Value) (h : xH) : xf 150 35 [l0, some (.int x), l2, l3] st h = xf 150 36 [l0, some (.int x), l2, l3] (.int x :: st) h := xo_iload (k := 1) (by decide +kernel) rfl
set_option maxRecDepth 20000 in
theorem u_X8_named_36 (L : xL) (st : List Value) (h : xH) : xf 150 36 L st h = xf 150 37 L (.int 2 :: st) h := xo_iconst (k := 2) (by decide +kernel) (by decide)
set_option maxRecDepth 20000 in
theorem u_X8_named_37 (L : xL) (a b : Int32) (st : List Value) (h : xH) : xf 150 37 L (.int b :: .int a :: st) h = if a = b then xf 150 40 L st h else xf 150 47 L st h := xo_icmp_ne (t := 47) (by decide +kernel) rfl
set_option maxRecDepth 20000 in
theorem u_X8_named_40 (l1 l2 l3 : Option Value) (x : Nat) (st : List Value) (h : xH) : xf 150 40 [some (.ref x), l1, l2, l3] st h = xf 150 41 [some (.ref x), l1, l2, l3] (.ref x :: st) h := xo_aload (k := 0) (by decide +kernel) rfl
set_option maxRecDepth 20000 in
theorem u_X8_named_41 (L : xL) (b : Nat) (st : List Value) (h : xH) (hb : (xob h b).1 = 8) (hl : st.length ≤ 4) : xf 150 41 L (.ref b :: st) h = xgo 150 41 44 L st (xev 112 [.ref b] h) := xo_callV (as := []) (by decide +kernel) rfl ⟨(by decide +kernel : xna 112 = 0), Nat.le_of_ble_eq_true rfl, rfl, by decide⟩ hb hl
set_option maxRecDepth 20000 in
theorem u_X8_named_44 (L : xL) (st : List Value) (h : xH) : xf 150 44 L st h = xf 150 51 L st h := xo_goto (n := 47) (t := 51) (by decide +kernel) rfl
set_option maxRecDepth 20000 in
theorem u_X8_named_47 (l1 l2 l3 : Option Value) (x : Nat) (st : List Value) (h : xH) : xf 150 47 [some (.ref x), l1, l2, l3] st h = xf 150 48 [some (.ref x), l1, l2, l3] (.ref x :: st) h := xo_aload (k := 0) (by decide +kernel) rfl
set_option maxRecDepth 20000 in
theorem u_X8_named_48 (L : xL) (b : Nat) (st : List Value) (h : xH) (hb : (xob h b).1 = 8) (hl : st.length ≤ 4) : xf 150 48 L (.ref b :: st) h = xgo 150 48 51 L st (xev 114 [.ref b] h) := xo_callV (as := []) (by decide +kernel) rfl ⟨(by decide +kernel : xna 114 = 0), Nat.le_of_ble_eq_true rfl, rfl, by decide⟩ hb hl
set_option maxRecDepth 20000 in
theorem u_X8_named_51 (l0 l1 l2 l3 : Option Value) (x : Int32) (st : List Value) (h : xH) : xf 150 51 [l0, l1, l2, l3] (.int x :: st) h = xf 150 52 [l0, l1, xcat l2, some (.int x)] st h := xo_istore (k := 3) (by decide +kernel) (Nat.le_of_ble_eq_true rfl) rfl
set_option maxRecDepth 20000 in
theorem u_X8_named_52 (l1 l2 l3 : Option Value) (x : Nat) (st : List Value) (h : xH) : xf 150 52 [some (.ref x), l1, l2, l3] st h = xf 150 53 [some (.ref x), l1, l2, l3] (.ref x :: st) h := xo_aload (k := 0) (by decide +kernel) rfl
set_option maxRecDepth 20000 in
theorem u_X8_named_53 (L : xL) (b : Nat) (st : List Value) (h : xH) (hb : (xob h b).1 = 8) (hl : st.length ≤ 4) : xf 150 53 L (.ref b :: st) h = xgo 150 53 56 L st (xev 103 [.ref b] h) := xo_callV (as := []) (by decide +kernel) rfl ⟨(by decide +kernel : xna 103 = 0), Nat.le_of_ble_eq_true rfl, rfl, by decide⟩ hb hl
set_option maxRecDepth 20000 in
theorem u_X8_named_56 (l0 l1 l2 : Option Value) (x : Int32) (st : List Value) (h : xH) : xf 150 56 [l0, l1, l2, some (.int x)] st h = xf 150 57 [l0, l1, l2, some (.int x)] (.int x :: st) h := xo_iload (k := 3) (by decide +kernel) rfl
set_option maxRecDepth 20000 in
theorem u_X8_named_57 (L : xL) (x : Int32) (h : xH) : xf 150 57 L [.int x] h = some (.inl (some (.int x)), h) := xo_ireturn (n := 58) (by decide +kernel) rfl
set_option maxRecDepth 20000 in
theorem e_X8_named (v0 : Nat) (v1 : Int32) (h : xH) : xev 150 [.ref v0, .int v1] h = xf 150 0 [some (.ref v0), some (.int v1), none, none] [] h := rfl
set_option maxRecDepth 20000 in
theorem u_X8_ifNamed_0 (l1 : Option Value) (x : Nat) (st : List Value) (h : xH) : xf 151 0 [some (.ref x), l1] st h = xf 151 1 [some (.ref x), l1] (.ref x :: st) h := xo_aload (k := 0) (by decide +kernel) rfl
set_option maxRecDepth 20000 in
theorem u_X8_ifNamed_1 (l0 : Option Value) (x : Int32) (st : List Value) (h : xH) : xf 151 1 [l0, some (.int x)] st h = xf 151 2 [l0, some (.int x)] (.int x :: st) h := xo_iload (k := 1) (by decide +kernel) rfl
set_option maxRecDepth 20000 in
theorem u_X8_ifNamed_2 (L : xL) (st : List Value) (h : xH) : xf 151 2 L st h = xf 151 3 L (.int 0 :: st) h := xo_iconst (k := 0) (by decide +kernel) (by decide)
set_option maxRecDepth 20000 in
theorem u_X8_ifNamed_3 (L : xL) (st : List Value) (h : xH) : xf 151 3 L st h = xf 151 4 L (.int 3 :: st) h := xo_iconst (k := 3) (by decide +kernel) (by decide)
set_option maxRecDepth 20000 in
theorem u_X8_ifNamed_4 (L : xL) (v0 : Int32) (v1 : Int32) (v2 : Int32) (st : List Value) (h : xH) (hl : st.length ≤ 4) : xf 151 4 L (.int v2 :: .int v1 :: .int v0 :: st) h = xgo 151 4 7 L st (xev 99 [.int v0, .int v1, .int v2] h) := xo_callS (as := [.int v0, .int v1, .int v2]) (by decide +kernel) rfl ⟨(by decide +kernel : xna 99 = 3), Nat.le_of_ble_eq_true rfl, by decide⟩ hl
set_option maxRecDepth 20000 in
theorem u_X8_ifNamed_7 (L : xL) (a : Int32) (st : List Value) (h : xH) : xf 151 7 L (.int a :: st) h = if a = 0 then xf 151 14 L st h else xf 151 10 L st h := xo_if_eq (t := 14) (by decide +kernel) rfl
set_option maxRecDepth 20000 in
theorem u_X8_ifNamed_10 (L : xL) (st : List Value) (h : xH) : xf 151 10 L st h = xf 151 11 L (.int 0 :: st) h := xo_iconst (k := 0) (by decide +kernel) (by decide)
set_option maxRecDepth 20000 in
theorem u_X8_ifNamed_11 (L : xL) (st : List Value) (h : xH) : xf 151 11 L st h = xf 151 15 L st h := xo_goto (n := 14) (t := 15) (by decide +kernel) rfl
set_option maxRecDepth 20000 in
theorem u_X8_ifNamed_14 (L : xL) (st : List Value) (h : xH) : xf 151 14 L st h = xf 151 15 L (.int 1 :: st) h := xo_iconst (k := 1) (by decide +kernel) (by decide)
set_option maxRecDepth 20000 in
theorem u_X8_ifNamed_15 (L : xL) (v0 : Int32) (b : Nat) (st : List Value) (h : xH) (hb : (xob h b).1 = 8) (hl : st.length ≤ 4) : xf 151 15 L (.int v0 :: .ref b :: st) h = xgo 151 15 18 L st (xev 100 [.ref b, .int v0] h) := xo_callV (as := [.int v0]) (by decide +kernel) rfl ⟨(by decide +kernel : xna 100 = 1), Nat.le_of_ble_eq_true rfl, rfl, by decide⟩ hb hl
set_option maxRecDepth 20000 in
theorem u_X8_ifNamed_18 (L : xL) (a : Int32) (st : List Value) (h : xH) : xf 151 18 L (.int a :: st) h = if a = 0 then xf 151 29 L st h else xf 151 21 L st h := xo_if_eq (t := 29) (by decide +kernel) rfl
set_option maxRecDepth 20000 in
theorem u_X8_ifNamed_21 (l1 : Option Value) (x : Nat) (st : List Value) (h : xH) : xf 151 21 [some (.ref x), l1] st h = xf 151 22 [some (.ref x), l1] (.ref x :: st) h := xo_aload (k := 0) (by decide +kernel) rfl
set_option maxRecDepth 20000 in
theorem u_X8_ifNamed_22 (l0 : Option Value) (x : Int32) (st : List Value) (h : xH) : xf 151 22 [l0, some (.int x)] st h = xf 151 23 [l0, some (.int x)] (.int x :: st) h := xo_iload (k := 1) (by decide +kernel) rfl
set_option maxRecDepth 20000 in
theorem u_X8_ifNamed_23 (L : xL) (v0 : Int32) (b : Nat) (st : List Value) (h : xH) (hb : (xob h b).1 = 8) (hl : st.length ≤ 4) : xf 151 23 L (.int v0 :: .ref b :: st) h = xgo 151 23 26 L st (xev 150 [.ref b, .int v0] h) := xo_callV (as := [.int v0]) (by decide +kernel) rfl ⟨(by decide +kernel : xna 150 = 1), Nat.le_of_ble_eq_true rfl, rfl, by decide⟩ hb hl
set_option maxRecDepth 20000 in
theorem u_X8_ifNamed_26 (L : xL) (st : List Value) (h : xH) : xf 151 26 L st h = xf 151 30 L st h := xo_goto (n := 29) (t := 30) (by decide +kernel) rfl
set_option maxRecDepth 20000 in
theorem u_X8_ifNamed_29 (L : xL) (st : List Value) (h : xH) : xf 151 29 L st h = xf 151 30 L (.int 0 :: st) h := xo_iconst (k := 0) (by decide +kernel) (by decide)
set_option maxRecDepth 20000 in
theorem u_X8_ifNamed_30 (L : xL) (x : Int32) (h : xH) : xf 151 30 L [.int x] h = some (.inl (some (.int x)), h) := xo_ireturn (n := 31) (by decide +kernel) rfl
set_option maxRecDepth 20000 in
theorem e_X8_ifNamed (v0 : Nat) (v1 : Int32) (h : xH) : xev 151 [.ref v0, .int v1] h = xf 151 0 [some (.ref v0), some (.int v1)] [] h := rfl
set_option maxRecDepth 20000 in
theorem u_X8_best_0 (L : xL) (st : List Value) (h : xH) : xf 152 0 L st h = xf 152 1 L (.int 2 :: st) h := xo_iconst (k := 2) (by decide +kernel) (by decide)
set_option maxRecDepth 20000 in
theorem u_X8_best_1 (l0 l1 l2 l3 l4 l5 : Option Value) (x : Int32) (st : List Value) (h : xH) : xf 152 1 [l0, l1, l2, l3, l4, l5] (.int x :: st) h = xf 152 2 [xcat l0, some (.int x), l2, l3, l4, l5] st h := xo_istore (k := 1) (by decide +kernel) (Nat.le_of_ble_eq_true rfl) rfl
set_option maxRecDepth 20000 in
theorem u_X8_best_2 (L : xL) (st : List Value) (h : xH) : xf 152 2 L st h = xf 152 3 L (.int 0 :: st) h := xo_iconst (k := 0) (by decide +kernel) (by decide)
set_option maxRecDepth 20000 in
theorem u_X8_best_3 (l0 l1 l2 l3 l4 l5 : Option Value) (x : Int32) (st : List Value) (h : xH) : xf 152 3 [l0, l1, l2, l3, l4, l5] (.int x :: st) h = xf 152 4 [l0, xcat l1, some (.int x), l3, l4, l5] st h := xo_istore (k := 2) (by decide +kernel) (Nat.le_of_ble_eq_true rfl) rfl
set_option maxRecDepth 20000 in
theorem u_X8_best_4 (l1 l2 l3 l4 l5 : Option Value) (x : Nat) (st : List Value) (h : xH) : xf 152 4 [some (.ref x), l1, l2, l3, l4, l5] st h = xf 152 5 [some (.ref x), l1, l2, l3, l4, l5] (.ref x :: st) h := xo_aload (k := 0) (by decide +kernel) rfl
set_option maxRecDepth 20000 in
theorem u_X8_best_5 (L : xL) (b : Nat) (st : List Value) (h : xH) (hb : (xob h b).1 = 8) (hl : st.length ≤ 4) : xf 152 5 L (.ref b :: st) h = xgo 152 5 8 L st (xev 102 [.ref b] h) := xo_callV (as := []) (by decide +kernel) rfl ⟨(by decide +kernel : xna 102 = 0), Nat.le_of_ble_eq_true rfl, rfl, by decide⟩ hb hl
set_option maxRecDepth 20000 in
theorem u_X8_best_8 (L : xL) (st : List Value) (h : xH) : xf 152 8 L st h = xf 152 9 L (.int 2 :: st) h := xo_iconst (k := 2) (by decide +kernel) (by decide)
set_option maxRecDepth 20000 in
theorem u_X8_best_9 (l0 l1 l2 l3 l4 l5 : Option Value) (x : Int32) (st : List Value) (h : xH) : xf 152 9 [l0, l1, l2, l3, l4, l5] (.int x :: st) h = xf 152 10 [l0, l1, xcat l2, some (.int x), l4, l5] st h := xo_istore (k := 3) (by decide +kernel) (Nat.le_of_ble_eq_true rfl) rfl
set_option maxRecDepth 20000 in
theorem u_X8_best_10 (l0 l1 l2 l4 l5 : Option Value) (x : Int32) (st : List Value) (h : xH) : xf 152 10 [l0, l1, l2, some (.int x), l4, l5] st h = xf 152 11 [l0, l1, l2, some (.int x), l4, l5] (.int x :: st) h := xo_iload (k := 3) (by decide +kernel) rfl
set_option maxRecDepth 20000 in
theorem u_X8_best_11 (L : xL) (st : List Value) (h : xH) : xf 152 11 L st h = xf 152 13 L (.int 9 :: st) h := xo_iconst (k := 9) (by decide +kernel) (by decide)
set_option maxRecDepth 20000 in
theorem u_X8_best_13 (L : xL) (a b : Int32) (st : List Value) (h : xH) : xf 152 13 L (.int b :: .int a :: st) h = if b < a then xf 152 81 L st h else xf 152 16 L st h := xo_icmp_gt (t := 81) (by decide +kernel) rfl
set_option maxRecDepth 20000 in
theorem u_X8_best_16 (l1 l2 l3 l4 l5 : Option Value) (x : Nat) (st : List Value) (h : xH) : xf 152 16 [some (.ref x), l1, l2, l3, l4, l5] st h = xf 152 17 [some (.ref x), l1, l2, l3, l4, l5] (.ref x :: st) h := xo_aload (k := 0) (by decide +kernel) rfl
set_option maxRecDepth 20000 in
theorem u_X8_best_17 (L : xL) (a : Nat) (st : List Value) (h : xH) (hc : (xob h a).1 = 8) : xf 152 17 L (.ref a :: st) h = xf 152 20 L ((xob h a).2.getD 1 .null :: st) h := xo_getf (r := 513) (by decide +kernel) (by decide) hc
set_option maxRecDepth 20000 in
theorem u_X8_best_20 (L : xL) (st : List Value) (h : xH) : xf 152 20 L st h = xf 152 22 L (.int 113 :: st) h := xo_iconst (k := 113) (by decide +kernel) (by decide)
set_option maxRecDepth 20000 in
theorem u_X8_best_22 (l0 l1 l2 l4 l5 : Option Value) (x : Int32) (st : List Value) (h : xH) : xf 152 22 [l0, l1, l2, some (.int x), l4, l5] st h = xf 152 23 [l0, l1, l2, some (.int x), l4, l5] (.int x :: st) h := xo_iload (k := 3) (by decide +kernel) rfl
set_option maxRecDepth 20000 in
theorem u_X8_best_23 (L : xL) (v i : Int32) (a : Nat) (st : List Value) (h : xH) (hx : xix i (xai h a).1) : xf 152 23 L (.int v :: .int i :: .ref a :: st) h = xf 152 24 L st (xsi h a i.toNatClampNeg v) := xo_iastore (by decide +kernel) hx
set_option maxRecDepth 20000 in
theorem u_X8_best_24 (l1 l2 l3 l4 l5 : Option Value) (x : Nat) (st : List Value) (h : xH) : xf 152 24 [some (.ref x), l1, l2, l3, l4, l5] st h = xf 152 25 [some (.ref x), l1, l2, l3, l4, l5] (.ref x :: st) h := xo_aload (k := 0) (by decide +kernel) rfl
set_option maxRecDepth 20000 in
theorem u_X8_best_25 (L : xL) (b : Nat) (st : List Value) (h : xH) (hb : (xob h b).1 = 8) (hl : st.length ≤ 4) : xf 152 25 L (.ref b :: st) h = xgo 152 25 28 L st (xev 126 [.ref b] h) := xo_callV (as := []) (by decide +kernel) rfl ⟨(by decide +kernel : xna 126 = 0), Nat.le_of_ble_eq_true rfl, rfl, by decide⟩ hb hl
set_option maxRecDepth 20000 in
theorem u_X8_best_28 (l0 l1 l2 l3 l4 l5 : Option Value) (x : Int32) (st : List Value) (h : xH) : xf 152 28 [l0, l1, l2, l3, l4, l5] (.int x :: st) h = xf 152 30 [l0, l1, l2, xcat l3, some (.int x), l5] st h := xo_istore (k := 4) (by decide +kernel) (Nat.le_of_ble_eq_true rfl) rfl
set_option maxRecDepth 20000 in
theorem u_X8_best_30 (l1 l2 l3 l4 l5 : Option Value) (x : Nat) (st : List Value) (h : xH) : xf 152 30 [some (.ref x), l1, l2, l3, l4, l5] st h = xf 152 31 [some (.ref x), l1, l2, l3, l4, l5] (.ref x :: st) h := xo_aload (k := 0) (by decide +kernel) rfl
set_option maxRecDepth 20000 in
theorem u_X8_best_31 (L : xL) (b : Nat) (st : List Value) (h : xH) (hb : (xob h b).1 = 8) (hl : st.length ≤ 4) : xf 152 31 L (.ref b :: st) h = xgo 152 31 34 L st (xev 112 [.ref b] h) := xo_callV (as := []) (by decide +kernel) rfl ⟨(by decide +kernel : xna 112 = 0), Nat.le_of_ble_eq_true rfl, rfl, by decide⟩ hb hl
set_option maxRecDepth 20000 in
theorem u_X8_best_34 (l0 l1 l2 l3 l4 l5 : Option Value) (x : Int32) (st : List Value) (h : xH) : xf 152 34 [l0, l1, l2, l3, l4, l5] (.int x :: st) h = xf 152 36 [l0, l1, l2, l3, xcat l4, some (.int x)] st h := xo_istore (k := 5) (by decide +kernel) (Nat.le_of_ble_eq_true rfl) rfl
set_option maxRecDepth 20000 in
theorem u_X8_best_36 (l0 l1 l2 l4 l5 : Option Value) (x : Int32) (st : List Value) (h : xH) : xf 152 36 [l0, l1, l2, some (.int x), l4, l5] st h = xf 152 37 [l0, l1, l2, some (.int x), l4, l5] (.int x :: st) h := xo_iload (k := 3) (by decide +kernel) rfl
set_option maxRecDepth 20000 in
theorem u_X8_best_37 (L : xL) (st : List Value) (h : xH) : xf 152 37 L st h = xf 152 38 L (.int 2 :: st) h := xo_iconst (k := 2) (by decide +kernel) (by decide)
set_option maxRecDepth 20000 in
theorem u_X8_best_38 (L : xL) (a b : Int32) (st : List Value) (h : xH) : xf 152 38 L (.int b :: .int a :: st) h = if a = b then xf 152 47 L st h else xf 152 41 L st h := xo_icmp_eq (t := 47) (by decide +kernel) rfl
set_option maxRecDepth 20000 in
theorem u_X8_best_41 (l0 l1 l2 l3 l4 : Option Value) (x : Int32) (st : List Value) (h : xH) : xf 152 41 [l0, l1, l2, l3, l4, some (.int x)] st h = xf 152 43 [l0, l1, l2, l3, l4, some (.int x)] (.int x :: st) h := xo_iload (k := 5) (by decide +kernel) rfl
set_option maxRecDepth 20000 in
theorem u_X8_best_43 (l0 l1 l3 l4 l5 : Option Value) (x : Int32) (st : List Value) (h : xH) : xf 152 43 [l0, l1, some (.int x), l3, l4, l5] st h = xf 152 44 [l0, l1, some (.int x), l3, l4, l5] (.int x :: st) h := xo_iload (k := 2) (by decide +kernel) rfl
set_option maxRecDepth 20000 in
theorem u_X8_best_44 (L : xL) (a b : Int32) (st : List Value) (h : xH) : xf 152 44 L (.int b :: .int a :: st) h = if a < b then xf 152 47 L st h else xf 152 51 L st h := xo_icmp_ge (t := 51) (by decide +kernel) rfl
set_option maxRecDepth 20000 in
theorem u_X8_best_47 (l0 l1 l2 l4 l5 : Option Value) (x : Int32) (st : List Value) (h : xH) : xf 152 47 [l0, l1, l2, some (.int x), l4, l5] st h = xf 152 48 [l0, l1, l2, some (.int x), l4, l5] (.int x :: st) h := xo_iload (k := 3) (by decide +kernel) rfl
set_option maxRecDepth 20000 in
theorem u_X8_best_48 (L : xL) (st : List Value) (h : xH) : xf 152 48 L st h = xf 152 52 L st h := xo_goto (n := 51) (t := 52) (by decide +kernel) rfl
set_option maxRecDepth 20000 in
theorem u_X8_best_51 (l0 l2 l3 l4 l5 : Option Value) (x : Int32) (st : List Value) (h : xH) : xf 152 51 [l0, some (.int x), l2, l3, l4, l5] st h = xf 152 52 [l0, some (.int x), l2, l3, l4, l5] (.int x :: st) h := xo_iload (k := 1) (by decide +kernel) rfl
set_option maxRecDepth 20000 in
theorem u_X8_best_52 (l0 l1 l2 l3 l4 l5 : Option Value) (x : Int32) (st : List Value) (h : xH) : xf 152 52 [l0, l1, l2, l3, l4, l5] (.int x :: st) h = xf 152 53 [xcat l0, some (.int x), l2, l3, l4, l5] st h := xo_istore (k := 1) (by decide +kernel) (Nat.le_of_ble_eq_true rfl) rfl
set_option maxRecDepth 20000 in
theorem u_X8_best_53 (l0 l1 l2 l4 l5 : Option Value) (x : Int32) (st : List Value) (h : xH) : xf 152 53 [l0, l1, l2, some (.int x), l4, l5] st h = xf 152 54 [l0, l1, l2, some (.int x), l4, l5] (.int x :: st) h := xo_iload (k := 3) (by decide +kernel) rfl
set_option maxRecDepth 20000 in
theorem u_X8_best_54 (L : xL) (st : List Value) (h : xH) : xf 152 54 L st h = xf 152 55 L (.int 2 :: st) h := xo_iconst (k := 2) (by decide +kernel) (by decide)
set_option maxRecDepth 20000 in
theorem u_X8_best_55 (L : xL) (a b : Int32) (st : List Value) (h : xH) : xf 152 55 L (.int b :: .int a :: st) h = if a = b then xf 152 64 L st h else xf 152 58 L st h := xo_icmp_eq (t := 64) (by decide +kernel) rfl
set_option maxRecDepth 20000 in
theorem u_X8_best_58 (l0 l1 l2 l3 l4 : Option Value) (x : Int32) (st : List Value) (h : xH) : xf 152 58 [l0, l1, l2, l3, l4, some (.int x)] st h = xf 152 60 [l0, l1, l2, l3, l4, some (.int x)] (.int x :: st) h := xo_iload (k := 5) (by decide +kernel) rfl
set_option maxRecDepth 20000 in
theorem u_X8_best_60 (l0 l1 l3 l4 l5 : Option Value) (x : Int32) (st : List Value) (h : xH) : xf 152 60 [l0, l1, some (.int x), l3, l4, l5] st h = xf 152 61 [l0, l1, some (.int x), l3, l4, l5] (.int x :: st) h := xo_iload (k := 2) (by decide +kernel) rfl
set_option maxRecDepth 20000 in
theorem u_X8_best_61 (L : xL) (a b : Int32) (st : List Value) (h : xH) : xf 152 61 L (.int b :: .int a :: st) h = if a < b then xf 152 64 L st h else xf 152 69 L st h := xo_icmp_ge (t := 69) (by decide +kernel) rfl
set_option maxRecDepth 20000 in
theorem u_X8_best_64 (l0 l1 l2 l3 l4 : Option Value) (x : Int32) (st : List Value) (h : xH) : xf 152 64 [l0, l1, l2, l3, l4, some (.int x)] st h = xf 152 66 [l0, l1, l2, l3, l4, some (.int x)] (.int x :: st) h := xo_iload (k := 5) (by decide +kernel) rfl
set_option maxRecDepth 20000 in
theorem u_X8_best_66 (L : xL) (st : List Value) (h : xH) : xf 152 66 L st h = xf 152 70 L st h := xo_goto (n := 69) (t := 70) (by decide +kernel) rfl
set_option maxRecDepth 20000 in
theorem u_X8_best_69 (l0 l1 l3 l4 l5 : Option Value) (x : Int32) (st : List Value) (h : xH) : xf 152 69 [l0, l1, some (.int x), l3, l4, l5] st h = xf 152 70 [l0, l1, some (.int x), l3, l4, l5] (.int x :: st) h := xo_iload (k := 2) (by decide +kernel) rfl
set_option maxRecDepth 20000 in
theorem u_X8_best_70 (l0 l1 l2 l3 l4 l5 : Option Value) (x : Int32) (st : List Value) (h : xH) : xf 152 70 [l0, l1, l2, l3, l4, l5] (.int x :: st) h = xf 152 71 [l0, xcat l1, some (.int x), l3, l4, l5] st h := xo_istore (k := 2) (by decide +kernel) (Nat.le_of_ble_eq_true rfl) rfl
set_option maxRecDepth 20000 in
theorem u_X8_best_71 (l1 l2 l3 l4 l5 : Option Value) (x : Nat) (st : List Value) (h : xH) : xf 152 71 [some (.ref x), l1, l2, l3, l4, l5] st h = xf 152 72 [some (.ref x), l1, l2, l3, l4, l5] (.ref x :: st) h := xo_aload (k := 0) (by decide +kernel) rfl
set_option maxRecDepth 20000 in
theorem u_X8_best_72 (L : xL) (b : Nat) (st : List Value) (h : xH) (hb : (xob h b).1 = 8) (hl : st.length ≤ 4) : xf 152 72 L (.ref b :: st) h = xgo 152 72 75 L st (xev 103 [.ref b] h) := xo_callV (as := []) (by decide +kernel) rfl ⟨(by decide +kernel : xna 103 = 0), Nat.le_of_ble_eq_true rfl, rfl, by decide⟩ hb hl
set_option maxRecDepth 20000 in
theorem u_X8_best_75 (l0 l1 l2 l4 l5 : Option Value) (x : Int32) (st : List Value) (h : xH) : xf 152 75 [l0, l1, l2, some (.int x), l4, l5] st h = xf 152 78 [l0, l1, xcat l2, some (.int (x + 1)), l4, l5] st h := xo_iinc (k := 3) (c := 1) (by decide +kernel) rfl (by decide) rfl
set_option maxRecDepth 20000 in
theorem u_X8_best_78 (L : xL) (st : List Value) (h : xH) : xf 152 78 L st h = xf 152 10 L st h := xo_goto (n := 81) (t := 10) (by decide +kernel) rfl
set_option maxRecDepth 20000 in
theorem u_X8_best_81 (l0 l2 l3 l4 l5 : Option Value) (x : Int32) (st : List Value) (h : xH) : xf 152 81 [l0, some (.int x), l2, l3, l4, l5] st h = xf 152 82 [l0, some (.int x), l2, l3, l4, l5] (.int x :: st) h := xo_iload (k := 1) (by decide +kernel) rfl
set_option maxRecDepth 20000 in
theorem u_X8_best_82 (L : xL) (x : Int32) (h : xH) : xf 152 82 L [.int x] h = some (.inl (some (.int x)), h) := xo_ireturn (n := 83) (by decide +kernel) rfl
set_option maxRecDepth 20000 in
theorem e_X8_best (v0 : Nat) (h : xH) : xev 152 [.ref v0] h = xf 152 0 [some (.ref v0), none, none, none, none, none] [] h := rfl
set_option maxRecDepth 20000 in
theorem u_X8_bestOften_0 (x : Nat) (st : List Value) (h : xH) : xf 153 0 [some (.ref x)] st h = xf 153 1 [some (.ref x)] (.ref x :: st) h := xo_aload (k := 0) (by decide +kernel) rfl
set_option maxRecDepth 20000 in
theorem u_X8_bestOften_1 (L : xL) (st : List Value) (h : xH) : xf 153 1 L st h = xf 153 2 L (.int 0 :: st) h := xo_iconst (k := 0) (by decide +kernel) (by decide)
set_option maxRecDepth 20000 in
theorem u_X8_bestOften_2 (L : xL) (v : Int32) (a : Nat) (st : List Value) (h : xH) (hc : (xob h a).1 = 8) : xf 153 2 L (.int v :: .ref a :: st) h = xf 153 5 L st (xso h a 0 (.int v)) := xo_putf (r := 512) (by decide +kernel) (by decide) rfl hc
set_option maxRecDepth 20000 in
theorem u_X8_bestOften_5 (x : Nat) (st : List Value) (h : xH) : xf 153 5 [some (.ref x)] st h = xf 153 6 [some (.ref x)] (.ref x :: st) h := xo_aload (k := 0) (by decide +kernel) rfl
set_option maxRecDepth 20000 in
theorem u_X8_bestOften_6 (L : xL) (b : Nat) (st : List Value) (h : xH) (hb : (xob h b).1 = 8) (hl : st.length ≤ 4) : xf 153 6 L (.ref b :: st) h = xgo 153 6 9 L st (xev 152 [.ref b] h) := xo_callV (as := []) (by decide +kernel) rfl ⟨(by decide +kernel : xna 152 = 0), Nat.le_of_ble_eq_true rfl, rfl, by decide⟩ hb hl
set_option maxRecDepth 20000 in
theorem u_X8_bestOften_9 (L : xL) (x : Int32) (h : xH) : xf 153 9 L [.int x] h = some (.inl (some (.int x)), h) := xo_ireturn (n := 10) (by decide +kernel) rfl
set_option maxRecDepth 20000 in
theorem e_X8_bestOften (v0 : Nat) (h : xH) : xev 153 [.ref v0] h = xf 153 0 [some (.ref v0)] [] h := rfl
set_option maxRecDepth 20000 in
theorem u_X8_share_0 (x : Nat) (st : List Value) (h : xH) : xf 154 0 [some (.ref x)] st h = xf 154 1 [some (.ref x)] (.ref x :: st) h := xo_aload (k := 0) (by decide +kernel) rfl
set_option maxRecDepth 20000 in
theorem u_X8_share_1 (L : xL) (a : Nat) (st : List Value) (h : xH) (hc : (xob h a).1 = 8) : xf 154 1 L (.ref a :: st) h = xf 154 4 L ((xob h a).2.getD 1 .null :: st) h := xo_getf (r := 513) (by decide +kernel) (by decide) hc
set_option maxRecDepth 20000 in
theorem u_X8_share_4 (L : xL) (st : List Value) (h : xH) : xf 154 4 L st h = xf 154 5 L (.int 0 :: st) h := xo_iconst (k := 0) (by decide +kernel) (by decide)
set_option maxRecDepth 20000 in
theorem u_X8_share_5 (L : xL) (i : Int32) (a : Nat) (st : List Value) (h : xH) (hx : xix i (xai h a).1) : xf 154 5 L (.int i :: .ref a :: st) h = xf 154 6 L (.int ((xai h a).2 i.toNatClampNeg) :: st) h := xo_iaload (by decide +kernel) hx
set_option maxRecDepth 20000 in
theorem u_X8_share_6 (L : xL) (a : Int32) (st : List Value) (h : xH) : xf 154 6 L (.int a :: st) h = if a = 0 then xf 154 9 L st h else xf 154 13 L st h := xo_if_ne (t := 13) (by decide +kernel) rfl
set_option maxRecDepth 20000 in
theorem u_X8_share_9 (L : xL) (st : List Value) (h : xH) : xf 154 9 L st h = xf 154 10 L (.double FP.dconst0 :: st) h := xo_dconst (k := 0) (by decide +kernel) rfl
set_option maxRecDepth 20000 in
theorem u_X8_share_10 (L : xL) (st : List Value) (h : xH) : xf 154 10 L st h = xf 154 26 L st h := xo_goto (n := 13) (t := 26) (by decide +kernel) rfl
set_option maxRecDepth 20000 in
theorem u_X8_share_13 (L : xL) (st : List Value) (h : xH) : xf 154 13 L st h = xf 154 14 L (.double FP.dconst1 :: st) h := xo_dconst (k := 1) (by decide +kernel) rfl
set_option maxRecDepth 20000 in
theorem u_X8_share_14 (x : Nat) (st : List Value) (h : xH) : xf 154 14 [some (.ref x)] st h = xf 154 15 [some (.ref x)] (.ref x :: st) h := xo_aload (k := 0) (by decide +kernel) rfl
set_option maxRecDepth 20000 in
theorem u_X8_share_15 (L : xL) (b : Nat) (st : List Value) (h : xH) (hb : (xob h b).1 = 8) (hl : st.length ≤ 4) : xf 154 15 L (.ref b :: st) h = xgo 154 15 18 L st (xev 112 [.ref b] h) := xo_callV (as := []) (by decide +kernel) rfl ⟨(by decide +kernel : xna 112 = 0), Nat.le_of_ble_eq_true rfl, rfl, by decide⟩ hb hl
set_option maxRecDepth 20000 in
theorem u_X8_share_18 (L : xL) (a : Int32) (st : List Value) (h : xH) : xf 154 18 L (.int a :: st) h = xf 154 19 L (.double (FP.i2d a) :: st) h := xo_i2d (by decide +kernel)
set_option maxRecDepth 20000 in
theorem u_X8_share_19 (x : Nat) (st : List Value) (h : xH) : xf 154 19 [some (.ref x)] st h = xf 154 20 [some (.ref x)] (.ref x :: st) h := xo_aload (k := 0) (by decide +kernel) rfl
set_option maxRecDepth 20000 in
theorem u_X8_share_20 (L : xL) (b : Nat) (st : List Value) (h : xH) (hb : (xob h b).1 = 8) (hl : st.length ≤ 4) : xf 154 20 L (.ref b :: st) h = xgo 154 20 23 L st (xev 113 [.ref b] h) := xo_callV (as := []) (by decide +kernel) rfl ⟨(by decide +kernel : xna 113 = 0), Nat.le_of_ble_eq_true rfl, rfl, by decide⟩ hb hl
set_option maxRecDepth 20000 in
theorem u_X8_share_23 (L : xL) (a : Int32) (st : List Value) (h : xH) : xf 154 23 L (.int a :: st) h = xf 154 24 L (.double (FP.i2d a) :: st) h := xo_i2d (by decide +kernel)
set_option maxRecDepth 20000 in
theorem u_X8_share_24 (L : xL) (a b : UInt64) (st : List Value) (h : xH) (hn : xnn (FP.ddiv a b) = true) : xf 154 24 L (.double b :: .double a :: st) h = xf 154 25 L (.double (FP.ddiv a b) :: st) h := xo_ddiv (by decide +kernel) hn
set_option maxRecDepth 20000 in
theorem u_X8_share_25 (L : xL) (a b : UInt64) (st : List Value) (h : xH) (hn : xnn (FP.dsub a b) = true) : xf 154 25 L (.double b :: .double a :: st) h = xf 154 26 L (.double (FP.dsub a b) :: st) h := xo_dsub (by decide +kernel) hn
set_option maxRecDepth 20000 in
theorem u_X8_share_26 (L : xL) (x : UInt64) (h : xH) : xf 154 26 L [.double x] h = some (.inl (some (.double x)), h) := xo_dreturn (n := 27) (by decide +kernel) rfl
set_option maxRecDepth 20000 in
theorem e_X8_share (v0 : Nat) (h : xH) : xev 154 [.ref v0] h = xf 154 0 [some (.ref v0)] [] h := rfl
set_option maxRecDepth 20000 in
theorem u_X8_saved_0 (x : Nat) (st : List Value) (h : xH) : xf 155 0 [some (.ref x)] st h = xf 155 1 [some (.ref x)] (.ref x :: st) h := xo_aload (k := 0) (by decide +kernel) rfl
set_option maxRecDepth 20000 in
theorem u_X8_saved_1 (L : xL) (st : List Value) (h : xH) : xf 155 1 L st h = xf 155 2 L (.int 0 :: st) h := xo_iconst (k := 0) (by decide +kernel) (by decide)
set_option maxRecDepth 20000 in
theorem u_X8_saved_2 (L : xL) (v : Int32) (a : Nat) (st : List Value) (h : xH) (hc : (xob h a).1 = 8) : xf 155 2 L (.int v :: .ref a :: st) h = xf 155 5 L st (xso h a 0 (.int v)) := xo_putf (r := 512) (by decide +kernel) (by decide) rfl hc
set_option maxRecDepth 20000 in
theorem u_X8_saved_5 (x : Nat) (st : List Value) (h : xH) : xf 155 5 [some (.ref x)] st h = xf 155 6 [some (.ref x)] (.ref x :: st) h := xo_aload (k := 0) (by decide +kernel) rfl
set_option maxRecDepth 20000 in
theorem u_X8_saved_6 (L : xL) (b : Nat) (st : List Value) (h : xH) (hb : (xob h b).1 = 8) (hl : st.length ≤ 4) : xf 155 6 L (.ref b :: st) h = xgo 155 6 9 L st (xev 107 [.ref b] h) := xo_callV (as := []) (by decide +kernel) rfl ⟨(by decide +kernel : xna 107 = 0), Nat.le_of_ble_eq_true rfl, rfl, by decide⟩ hb hl
set_option maxRecDepth 20000 in
theorem u_X8_saved_9 (x : Nat) (st : List Value) (h : xH) : xf 155 9 [some (.ref x)] st h = xf 155 10 [some (.ref x)] (.ref x :: st) h := xo_aload (k := 0) (by decide +kernel) rfl
set_option maxRecDepth 20000 in
theorem u_X8_saved_10 (L : xL) (b : Nat) (st : List Value) (h : xH) (hb : (xob h b).1 = 8) (hl : st.length ≤ 4) : xf 155 10 L (.ref b :: st) h = xgo 155 10 13 L st (xev 154 [.ref b] h) := xo_callV (as := []) (by decide +kernel) rfl ⟨(by decide +kernel : xna 154 = 0), Nat.le_of_ble_eq_true rfl, rfl, by decide⟩ hb hl
set_option maxRecDepth 20000 in
theorem u_X8_saved_13 (L : xL) (x : UInt64) (h : xH) : xf 155 13 L [.double x] h = some (.inl (some (.double x)), h) := xo_dreturn (n := 14) (by decide +kernel) rfl
set_option maxRecDepth 20000 in
theorem e_X8_saved (v0 : Nat) (h : xH) : xev 155 [.ref v0] h = xf 155 0 [some (.ref v0)] [] h := rfl
set_option maxRecDepth 20000 in
theorem u_X8_bitsOf_0 (l1 l2 l3 l4 l5 l6 l7 : Option Value) (x : UInt64) (st : List Value) (h : xH) : xf 156 0 [some (.double x), l1, l2, l3, l4, l5, l6, l7] st h = xf 156 1 [some (.double x), l1, l2, l3, l4, l5, l6, l7] (.double x :: st) h := xo_dload (k := 0) (by decide +kernel) rfl
set_option maxRecDepth 20000 in
theorem u_X8_bitsOf_1 (L : xL) (st : List Value) (h : xH) : xf 156 1 L st h = xf 156 2 L (.double FP.dconst0 :: st) h := xo_dconst (k := 0) (by decide +kernel) rfl
set_option maxRecDepth 20000 in
theorem u_X8_bitsOf_2 (L : xL) (a b : UInt64) (st : List Value) (h : xH) : xf 156 2 L (.double b :: .double a :: st) h = xf 156 3 L (.int (Op.cmpValue (FP.dcmp a b) .l) :: st) h := xo_dcmp (by decide +kernel)
set_option maxRecDepth 20000 in
theorem u_X8_bitsOf_3 (L : xL) (a : Int32) (st : List Value) (h : xH) : xf 156 3 L (.int a :: st) h = if a = 0 then xf 156 6 L st h else xf 156 8 L st h := xo_if_ne (t := 8) (by decide +kernel) rfl
set_option maxRecDepth 20000 in
theorem u_X8_bitsOf_6 (L : xL) (st : List Value) (h : xH) : xf 156 6 L st h = xf 156 7 L (.long 0 :: st) h := xo_lconst (k := 0) (by decide +kernel) (by decide)
set_option maxRecDepth 20000 in
theorem u_X8_bitsOf_7 (L : xL) (x : Int64) (h : xH) : xf 156 7 L [.long x] h = some (.inl (some (.long x)), h) := xo_lreturn (n := 8) (by decide +kernel) rfl
set_option maxRecDepth 20000 in
theorem u_X8_bitsOf_8 (L : xL) (st : List Value) (h : xH) : xf 156 8 L st h = xf 156 11 L (.long 1023 :: st) h := xo_ldcl (k := 14) (by decide +kernel) (by decide) (by decide)
set_option maxRecDepth 20000 in
theorem u_X8_bitsOf_11 (l0 l1 l2 l3 l4 l5 l6 l7 : Option Value) (x : Int64) (st : List Value) (h : xH) : xf 156 11 [l0, l1, l2, l3, l4, l5, l6, l7] (.long x :: st) h = xf 156 12 [l0, xcat l1, some (.long x), none, l4, l5, l6, l7] st h := xo_lstore (k := 2) (by decide +kernel) (Nat.le_of_ble_eq_true rfl) rfl
set_option maxRecDepth 20000 in
theorem u_X8_bitsOf_12 (l1 l2 l3 l4 l5 l6 l7 : Option Value) (x : UInt64) (st : List Value) (h : xH) : xf 156 12 [some (.double x), l1, l2, l3, l4, l5, l6, l7] st h = xf 156 13 [some (.double x), l1, l2, l3, l4, l5, l6, l7] (.double x :: st) h := xo_dload (k := 0) (by decide +kernel) rfl
set_option maxRecDepth 20000 in
theorem u_X8_bitsOf_13 (L : xL) (st : List Value) (h : xH) : xf 156 13 L st h = xf 156 14 L (.double FP.dconst0 :: st) h := xo_dconst (k := 0) (by decide +kernel) rfl
set_option maxRecDepth 20000 in
theorem u_X8_bitsOf_14 (L : xL) (a b : UInt64) (st : List Value) (h : xH) : xf 156 14 L (.double b :: .double a :: st) h = xf 156 15 L (.int (Op.cmpValue (FP.dcmp a b) .g) :: st) h := xo_dcmp (by decide +kernel)
set_option maxRecDepth 20000 in
theorem u_X8_bitsOf_15 (L : xL) (a : Int32) (st : List Value) (h : xH) : xf 156 15 L (.int a :: st) h = if a < 0 then xf 156 18 L st h else xf 156 23 L st h := xo_if_ge (t := 23) (by decide +kernel) rfl
set_option maxRecDepth 20000 in
theorem u_X8_bitsOf_18 (l1 l2 l3 l4 l5 l6 l7 : Option Value) (x : UInt64) (st : List Value) (h : xH) : xf 156 18 [some (.double x), l1, l2, l3, l4, l5, l6, l7] st h = xf 156 19 [some (.double x), l1, l2, l3, l4, l5, l6, l7] (.double x :: st) h := xo_dload (k := 0) (by decide +kernel) rfl
set_option maxRecDepth 20000 in
theorem u_X8_bitsOf_19 (L : xL) (a : UInt64) (st : List Value) (h : xH) : xf 156 19 L (.double a :: st) h = xf 156 20 L (.double (FP.dneg a) :: st) h := xo_dneg (by decide +kernel)
set_option maxRecDepth 20000 in
theorem u_X8_bitsOf_20 (L : xL) (st : List Value) (h : xH) : xf 156 20 L st h = xf 156 24 L st h := xo_goto (n := 23) (t := 24) (by decide +kernel) rfl
set_option maxRecDepth 20000 in
theorem u_X8_bitsOf_23 (l1 l2 l3 l4 l5 l6 l7 : Option Value) (x : UInt64) (st : List Value) (h : xH) : xf 156 23 [some (.double x), l1, l2, l3, l4, l5, l6, l7] st h = xf 156 24 [some (.double x), l1, l2, l3, l4, l5, l6, l7] (.double x :: st) h := xo_dload (k := 0) (by decide +kernel) rfl
set_option maxRecDepth 20000 in
theorem u_X8_bitsOf_24 (l0 l1 l2 l3 l4 l5 l6 l7 : Option Value) (x : UInt64) (st : List Value) (h : xH) : xf 156 24 [l0, l1, l2, l3, l4, l5, l6, l7] (.double x :: st) h = xf 156 26 [l0, l1, l2, xcat l3, some (.double x), none, l6, l7] st h := xo_dstore (k := 4) (by decide +kernel) (Nat.le_of_ble_eq_true rfl) rfl
set_option maxRecDepth 20000 in
theorem u_X8_bitsOf_26 (l0 l1 l2 l3 l5 l6 l7 : Option Value) (x : UInt64) (st : List Value) (h : xH) : xf 156 26 [l0, l1, l2, l3, some (.double x), l5, l6, l7] st h = xf 156 28 [l0, l1, l2, l3, some (.double x), l5, l6, l7] (.double x :: st) h := xo_dload (k := 4) (by decide +kernel) rfl
set_option maxRecDepth 20000 in
theorem u_X8_bitsOf_28 (L : xL) (st : List Value) (h : xH) : xf 156 28 L st h = xf 156 29 L (.double FP.dconst1 :: st) h := xo_dconst (k := 1) (by decide +kernel) rfl
set_option maxRecDepth 20000 in
theorem u_X8_bitsOf_29 (L : xL) (a b : UInt64) (st : List Value) (h : xH) : xf 156 29 L (.double b :: .double a :: st) h = xf 156 30 L (.int (Op.cmpValue (FP.dcmp a b) .g) :: st) h := xo_dcmp (by decide +kernel)
set_option maxRecDepth 20000 in
theorem u_X8_bitsOf_30 (L : xL) (a : Int32) (st : List Value) (h : xH) : xf 156 30 L (.int a :: st) h = if a < 0 then xf 156 33 L st h else xf 156 48 L st h := xo_if_ge (t := 48) (by decide +kernel) rfl
set_option maxRecDepth 20000 in
theorem u_X8_bitsOf_33 (l0 l1 l2 l3 l5 l6 l7 : Option Value) (x : UInt64) (st : List Value) (h : xH) : xf 156 33 [l0, l1, l2, l3, some (.double x), l5, l6, l7] st h = xf 156 35 [l0, l1, l2, l3, some (.double x), l5, l6, l7] (.double x :: st) h := xo_dload (k := 4) (by decide +kernel) rfl
set_option maxRecDepth 20000 in
theorem u_X8_bitsOf_35 (L : xL) (st : List Value) (h : xH) : xf 156 35 L st h = xf 156 38 L (.double 4611686018427387904 :: st) h := xo_ldcd (k := 3) (by decide +kernel) (by decide) (by decide)
set_option maxRecDepth 20000 in
theorem u_X8_bitsOf_38 (L : xL) (a b : UInt64) (st : List Value) (h : xH) (hn : xnn (FP.dmul a b) = true) : xf 156 38 L (.double b :: .double a :: st) h = xf 156 39 L (.double (FP.dmul a b) :: st) h := xo_dmul (by decide +kernel) hn
set_option maxRecDepth 20000 in
theorem u_X8_bitsOf_39 (l0 l1 l2 l3 l4 l5 l6 l7 : Option Value) (x : UInt64) (st : List Value) (h : xH) : xf 156 39 [l0, l1, l2, l3, l4, l5, l6, l7] (.double x :: st) h = xf 156 41 [l0, l1, l2, xcat l3, some (.double x), none, l6, l7] st h := xo_dstore (k := 4) (by decide +kernel) (Nat.le_of_ble_eq_true rfl) rfl
set_option maxRecDepth 20000 in
theorem u_X8_bitsOf_41 (l0 l1 l3 l4 l5 l6 l7 : Option Value) (x : Int64) (st : List Value) (h : xH) : xf 156 41 [l0, l1, some (.long x), l3, l4, l5, l6, l7] st h = xf 156 42 [l0, l1, some (.long x), l3, l4, l5, l6, l7] (.long x :: st) h := xo_lload (k := 2) (by decide +kernel) rfl
set_option maxRecDepth 20000 in
theorem u_X8_bitsOf_42 (L : xL) (st : List Value) (h : xH) : xf 156 42 L st h = xf 156 43 L (.long 1 :: st) h := xo_lconst (k := 1) (by decide +kernel) (by decide)
set_option maxRecDepth 20000 in
theorem u_X8_bitsOf_43 (L : xL) (a b : Int64) (st : List Value) (h : xH) : xf 156 43 L (.long b :: .long a :: st) h = xf 156 44 L (.long (a - b) :: st) h := xo_lsub (by decide +kernel)
set_option maxRecDepth 20000 in
theorem u_X8_bitsOf_44 (l0 l1 l2 l3 l4 l5 l6 l7 : Option Value) (x : Int64) (st : List Value) (h : xH) : xf 156 44 [l0, l1, l2, l3, l4, l5, l6, l7] (.long x :: st) h = xf 156 45 [l0, xcat l1, some (.long x), none, l4, l5, l6, l7] st h := xo_lstore (k := 2) (by decide +kernel) (Nat.le_of_ble_eq_true rfl) rfl
set_option maxRecDepth 20000 in
theorem u_X8_bitsOf_45 (L : xL) (st : List Value) (h : xH) : xf 156 45 L st h = xf 156 26 L st h := xo_goto (n := 48) (t := 26) (by decide +kernel) rfl
set_option maxRecDepth 20000 in
theorem u_X8_bitsOf_48 (l0 l1 l2 l3 l5 l6 l7 : Option Value) (x : UInt64) (st : List Value) (h : xH) : xf 156 48 [l0, l1, l2, l3, some (.double x), l5, l6, l7] st h = xf 156 50 [l0, l1, l2, l3, some (.double x), l5, l6, l7] (.double x :: st) h := xo_dload (k := 4) (by decide +kernel) rfl
set_option maxRecDepth 20000 in
theorem u_X8_bitsOf_50 (L : xL) (st : List Value) (h : xH) : xf 156 50 L st h = xf 156 53 L (.double 4611686018427387904 :: st) h := xo_ldcd (k := 3) (by decide +kernel) (by decide) (by decide)
set_option maxRecDepth 20000 in
theorem u_X8_bitsOf_53 (L : xL) (a b : UInt64) (st : List Value) (h : xH) : xf 156 53 L (.double b :: .double a :: st) h = xf 156 54 L (.int (Op.cmpValue (FP.dcmp a b) .l) :: st) h := xo_dcmp (by decide +kernel)
set_option maxRecDepth 20000 in
theorem u_X8_bitsOf_54 (L : xL) (a : Int32) (st : List Value) (h : xH) : xf 156 54 L (.int a :: st) h = if a < 0 then xf 156 72 L st h else xf 156 57 L st h := xo_if_lt (t := 72) (by decide +kernel) rfl
set_option maxRecDepth 20000 in
theorem u_X8_bitsOf_57 (l0 l1 l2 l3 l5 l6 l7 : Option Value) (x : UInt64) (st : List Value) (h : xH) : xf 156 57 [l0, l1, l2, l3, some (.double x), l5, l6, l7] st h = xf 156 59 [l0, l1, l2, l3, some (.double x), l5, l6, l7] (.double x :: st) h := xo_dload (k := 4) (by decide +kernel) rfl
set_option maxRecDepth 20000 in
theorem u_X8_bitsOf_59 (L : xL) (st : List Value) (h : xH) : xf 156 59 L st h = xf 156 62 L (.double 4602678819172646912 :: st) h := xo_ldcd (k := 5) (by decide +kernel) (by decide) (by decide)
set_option maxRecDepth 20000 in
theorem u_X8_bitsOf_62 (L : xL) (a b : UInt64) (st : List Value) (h : xH) (hn : xnn (FP.dmul a b) = true) : xf 156 62 L (.double b :: .double a :: st) h = xf 156 63 L (.double (FP.dmul a b) :: st) h := xo_dmul (by decide +kernel) hn
set_option maxRecDepth 20000 in
theorem u_X8_bitsOf_63 (l0 l1 l2 l3 l4 l5 l6 l7 : Option Value) (x : UInt64) (st : List Value) (h : xH) : xf 156 63 [l0, l1, l2, l3, l4, l5, l6, l7] (.double x :: st) h = xf 156 65 [l0, l1, l2, xcat l3, some (.double x), none, l6, l7] st h := xo_dstore (k := 4) (by decide +kernel) (Nat.le_of_ble_eq_true rfl) rfl
set_option maxRecDepth 20000 in
theorem u_X8_bitsOf_65 (l0 l1 l3 l4 l5 l6 l7 : Option Value) (x : Int64) (st : List Value) (h : xH) : xf 156 65 [l0, l1, some (.long x), l3, l4, l5, l6, l7] st h = xf 156 66 [l0, l1, some (.long x), l3, l4, l5, l6, l7] (.long x :: st) h := xo_lload (k := 2) (by decide +kernel) rfl
set_option maxRecDepth 20000 in
theorem u_X8_bitsOf_66 (L : xL) (st : List Value) (h : xH) : xf 156 66 L st h = xf 156 67 L (.long 1 :: st) h := xo_lconst (k := 1) (by decide +kernel) (by decide)
set_option maxRecDepth 20000 in
theorem u_X8_bitsOf_67 (L : xL) (a b : Int64) (st : List Value) (h : xH) : xf 156 67 L (.long b :: .long a :: st) h = xf 156 68 L (.long (a + b) :: st) h := xo_ladd (by decide +kernel)
set_option maxRecDepth 20000 in
theorem u_X8_bitsOf_68 (l0 l1 l2 l3 l4 l5 l6 l7 : Option Value) (x : Int64) (st : List Value) (h : xH) : xf 156 68 [l0, l1, l2, l3, l4, l5, l6, l7] (.long x :: st) h = xf 156 69 [l0, xcat l1, some (.long x), none, l4, l5, l6, l7] st h := xo_lstore (k := 2) (by decide +kernel) (Nat.le_of_ble_eq_true rfl) rfl
set_option maxRecDepth 20000 in
theorem u_X8_bitsOf_69 (L : xL) (st : List Value) (h : xH) : xf 156 69 L st h = xf 156 48 L st h := xo_goto (n := 72) (t := 48) (by decide +kernel) rfl
set_option maxRecDepth 20000 in
theorem u_X8_bitsOf_72 (l0 l1 l3 l4 l5 l6 l7 : Option Value) (x : Int64) (st : List Value) (h : xH) : xf 156 72 [l0, l1, some (.long x), l3, l4, l5, l6, l7] st h = xf 156 73 [l0, l1, some (.long x), l3, l4, l5, l6, l7] (.long x :: st) h := xo_lload (k := 2) (by decide +kernel) rfl
set_option maxRecDepth 20000 in
theorem u_X8_bitsOf_73 (L : xL) (st : List Value) (h : xH) : xf 156 73 L st h = xf 156 76 L (.long 4503599627370496 :: st) h := xo_ldcl (k := 16) (by decide +kernel) (by decide) (by decide)
set_option maxRecDepth 20000 in
theorem u_X8_bitsOf_76 (L : xL) (a b : Int64) (st : List Value) (h : xH) : xf 156 76 L (.long b :: .long a :: st) h = xf 156 77 L (.long (a * b) :: st) h := xo_lmul (by decide +kernel)
set_option maxRecDepth 20000 in
theorem u_X8_bitsOf_77 (l0 l1 l2 l3 l5 l6 l7 : Option Value) (x : UInt64) (st : List Value) (h : xH) : xf 156 77 [l0, l1, l2, l3, some (.double x), l5, l6, l7] st h = xf 156 79 [l0, l1, l2, l3, some (.double x), l5, l6, l7] (.double x :: st) h := xo_dload (k := 4) (by decide +kernel) rfl
set_option maxRecDepth 20000 in
theorem u_X8_bitsOf_79 (L : xL) (st : List Value) (h : xH) : xf 156 79 L st h = xf 156 80 L (.double FP.dconst1 :: st) h := xo_dconst (k := 1) (by decide +kernel) rfl
set_option maxRecDepth 20000 in
theorem u_X8_bitsOf_80 (L : xL) (a b : UInt64) (st : List Value) (h : xH) (hn : xnn (FP.dsub a b) = true) : xf 156 80 L (.double b :: .double a :: st) h = xf 156 81 L (.double (FP.dsub a b) :: st) h := xo_dsub (by decide +kernel) hn
set_option maxRecDepth 20000 in
theorem u_X8_bitsOf_81 (L : xL) (st : List Value) (h : xH) : xf 156 81 L st h = xf 156 84 L (.double 4841369599423283200 :: st) h := xo_ldcd (k := 7) (by decide +kernel) (by decide) (by decide)
set_option maxRecDepth 20000 in
theorem u_X8_bitsOf_84 (L : xL) (a b : UInt64) (st : List Value) (h : xH) (hn : xnn (FP.dmul a b) = true) : xf 156 84 L (.double b :: .double a :: st) h = xf 156 85 L (.double (FP.dmul a b) :: st) h := xo_dmul (by decide +kernel) hn
set_option maxRecDepth 20000 in
theorem u_X8_bitsOf_85 (L : xL) (a : UInt64) (st : List Value) (h : xH) : xf 156 85 L (.double a :: st) h = xf 156 86 L (.long (FP.d2l a) :: st) h := xo_d2l (by decide +kernel)
set_option maxRecDepth 20000 in
theorem u_X8_bitsOf_86 (L : xL) (a b : Int64) (st : List Value) (h : xH) : xf 156 86 L (.long b :: .long a :: st) h = xf 156 87 L (.long (a + b) :: st) h := xo_ladd (by decide +kernel)
set_option maxRecDepth 20000 in
theorem u_X8_bitsOf_87 (l0 l1 l2 l3 l4 l5 l6 l7 : Option Value) (x : Int64) (st : List Value) (h : xH) : xf 156 87 [l0, l1, l2, l3, l4, l5, l6, l7] (.long x :: st) h = xf 156 89 [l0, l1, l2, l3, l4, xcat l5, some (.long x), none] st h := xo_lstore (k := 6) (by decide +kernel) (Nat.le_of_ble_eq_true rfl) rfl
set_option maxRecDepth 20000 in
theorem u_X8_bitsOf_89 (l1 l2 l3 l4 l5 l6 l7 : Option Value) (x : UInt64) (st : List Value) (h : xH) : xf 156 89 [some (.double x), l1, l2, l3, l4, l5, l6, l7] st h = xf 156 90 [some (.double x), l1, l2, l3, l4, l5, l6, l7] (.double x :: st) h := xo_dload (k := 0) (by decide +kernel) rfl
set_option maxRecDepth 20000 in
theorem u_X8_bitsOf_90 (L : xL) (st : List Value) (h : xH) : xf 156 90 L st h = xf 156 91 L (.double FP.dconst0 :: st) h := xo_dconst (k := 0) (by decide +kernel) rfl
set_option maxRecDepth 20000 in
theorem u_X8_bitsOf_91 (L : xL) (a b : UInt64) (st : List Value) (h : xH) : xf 156 91 L (.double b :: .double a :: st) h = xf 156 92 L (.int (Op.cmpValue (FP.dcmp a b) .g) :: st) h := xo_dcmp (by decide +kernel)
set_option maxRecDepth 20000 in
theorem u_X8_bitsOf_92 (L : xL) (a : Int32) (st : List Value) (h : xH) : xf 156 92 L (.int a :: st) h = if a < 0 then xf 156 95 L st h else xf 156 104 L st h := xo_if_ge (t := 104) (by decide +kernel) rfl
set_option maxRecDepth 20000 in
theorem u_X8_bitsOf_95 (l0 l1 l2 l3 l4 l5 l7 : Option Value) (x : Int64) (st : List Value) (h : xH) : xf 156 95 [l0, l1, l2, l3, l4, l5, some (.long x), l7] st h = xf 156 97 [l0, l1, l2, l3, l4, l5, some (.long x), l7] (.long x :: st) h := xo_lload (k := 6) (by decide +kernel) rfl
set_option maxRecDepth 20000 in
theorem u_X8_bitsOf_97 (L : xL) (st : List Value) (h : xH) : xf 156 97 L st h = xf 156 100 L (.long (-9223372036854775808) :: st) h := xo_ldcl (k := 18) (by decide +kernel) (by decide) (by decide)
set_option maxRecDepth 20000 in
theorem u_X8_bitsOf_100 (L : xL) (a b : Int64) (st : List Value) (h : xH) : xf 156 100 L (.long b :: .long a :: st) h = xf 156 101 L (.long (a + b) :: st) h := xo_ladd (by decide +kernel)
set_option maxRecDepth 20000 in
theorem u_X8_bitsOf_101 (L : xL) (st : List Value) (h : xH) : xf 156 101 L st h = xf 156 106 L st h := xo_goto (n := 104) (t := 106) (by decide +kernel) rfl
set_option maxRecDepth 20000 in
theorem u_X8_bitsOf_104 (l0 l1 l2 l3 l4 l5 l7 : Option Value) (x : Int64) (st : List Value) (h : xH) : xf 156 104 [l0, l1, l2, l3, l4, l5, some (.long x), l7] st h = xf 156 106 [l0, l1, l2, l3, l4, l5, some (.long x), l7] (.long x :: st) h := xo_lload (k := 6) (by decide +kernel) rfl
set_option maxRecDepth 20000 in
theorem u_X8_bitsOf_106 (L : xL) (x : Int64) (h : xH) : xf 156 106 L [.long x] h = some (.inl (some (.long x)), h) := xo_lreturn (n := 107) (by decide +kernel) rfl
set_option maxRecDepth 20000 in
theorem e_X8_bitsOf (v0 : UInt64) (h : xH) : xev 156 [.double v0] h = xf 156 0 [some (.double v0), none, none, none, none, none, none, none] [] h := rfl
set_option maxRecDepth 20000 in
theorem u_X8_digestOne_0 (l1 l2 : Option Value) (x : Nat) (st : List Value) (h : xH) : xf 157 0 [some (.ref x), l1, l2] st h = xf 157 1 [some (.ref x), l1, l2] (.ref x :: st) h := xo_aload (k := 0) (by decide +kernel) rfl
set_option maxRecDepth 20000 in
theorem u_X8_digestOne_1 (L : xL) (st : List Value) (h : xH) : xf 157 1 L st h = xf 157 4 L (.long 31 :: st) h := xo_ldcl (k := 12) (by decide +kernel) (by decide) (by decide)
set_option maxRecDepth 20000 in
theorem u_X8_digestOne_4 (l1 l2 : Option Value) (x : Nat) (st : List Value) (h : xH) : xf 157 4 [some (.ref x), l1, l2] st h = xf 157 5 [some (.ref x), l1, l2] (.ref x :: st) h := xo_aload (k := 0) (by decide +kernel) rfl
set_option maxRecDepth 20000 in
theorem u_X8_digestOne_5 (L : xL) (a : Nat) (st : List Value) (h : xH) (hc : (xob h a).1 = 8) : xf 157 5 L (.ref a :: st) h = xf 157 8 L ((xob h a).2.getD 19 .null :: st) h := xo_getf (r := 531) (by decide +kernel) (by decide) hc
set_option maxRecDepth 20000 in
theorem u_X8_digestOne_8 (L : xL) (a b : Int64) (st : List Value) (h : xH) : xf 157 8 L (.long b :: .long a :: st) h = xf 157 9 L (.long (a * b) :: st) h := xo_lmul (by decide +kernel)
set_option maxRecDepth 20000 in
theorem u_X8_digestOne_9 (l0 l2 : Option Value) (x : Int64) (st : List Value) (h : xH) : xf 157 9 [l0, some (.long x), l2] st h = xf 157 10 [l0, some (.long x), l2] (.long x :: st) h := xo_lload (k := 1) (by decide +kernel) rfl
set_option maxRecDepth 20000 in
theorem u_X8_digestOne_10 (L : xL) (a b : Int64) (st : List Value) (h : xH) : xf 157 10 L (.long b :: .long a :: st) h = xf 157 11 L (.long (a + b) :: st) h := xo_ladd (by decide +kernel)
set_option maxRecDepth 20000 in
theorem u_X8_digestOne_11 (L : xL) (v : Int64) (a : Nat) (st : List Value) (h : xH) (hc : (xob h a).1 = 8) : xf 157 11 L (.long v :: .ref a :: st) h = xf 157 14 L st (xso h a 19 (.long v)) := xo_putf (r := 531) (by decide +kernel) (by decide) rfl hc
set_option maxRecDepth 20000 in
theorem u_X8_digestOne_14 (L : xL) (h : xH) : xf 157 14 L [] h = some (.inl none, h) := xo_return (n := 15) (by decide +kernel) rfl
set_option maxRecDepth 20000 in
theorem e_X8_digestOne (v0 : Nat) (v1 : Int64) (h : xH) : xev 157 [.ref v0, .long v1] h = xf 157 0 [some (.ref v0), some (.long v1), none] [] h := rfl
set_option maxRecDepth 20000 in
theorem u_X8_digest_0 (l1 l2 : Option Value) (x : Nat) (st : List Value) (h : xH) : xf 158 0 [some (.ref x), l1, l2] st h = xf 158 1 [some (.ref x), l1, l2] (.ref x :: st) h := xo_aload (k := 0) (by decide +kernel) rfl
set_option maxRecDepth 20000 in
theorem u_X8_digest_1 (L : xL) (st : List Value) (h : xH) : xf 158 1 L st h = xf 158 2 L (.int 0 :: st) h := xo_iconst (k := 0) (by decide +kernel) (by decide)
set_option maxRecDepth 20000 in
theorem u_X8_digest_2 (L : xL) (v : Int32) (a : Nat) (st : List Value) (h : xH) (hc : (xob h a).1 = 8) : xf 158 2 L (.int v :: .ref a :: st) h = xf 158 5 L st (xso h a 0 (.int v)) := xo_putf (r := 512) (by decide +kernel) (by decide) rfl hc
set_option maxRecDepth 20000 in
theorem u_X8_digest_5 (l1 l2 : Option Value) (x : Nat) (st : List Value) (h : xH) : xf 158 5 [some (.ref x), l1, l2] st h = xf 158 6 [some (.ref x), l1, l2] (.ref x :: st) h := xo_aload (k := 0) (by decide +kernel) rfl
set_option maxRecDepth 20000 in
theorem u_X8_digest_6 (L : xL) (b : Nat) (st : List Value) (h : xH) (hb : (xob h b).1 = 8) (hl : st.length ≤ 4) : xf 158 6 L (.ref b :: st) h = xgo 158 6 9 L st (xev 107 [.ref b] h) := xo_callV (as := []) (by decide +kernel) rfl ⟨(by decide +kernel : xna 107 = 0), Nat.le_of_ble_eq_true rfl, rfl, by decide⟩ hb hl
set_option maxRecDepth 20000 in
theorem u_X8_digest_9 (l1 l2 : Option Value) (x : Nat) (st : List Value) (h : xH) : xf 158 9 [some (.ref x), l1, l2] st h = xf 158 10 [some (.ref x), l1, l2] (.ref x :: st) h := xo_aload (k := 0) (by decide +kernel) rfl
set_option maxRecDepth 20000 in
theorem u_X8_digest_10 (L : xL) (st : List Value) (h : xH) : xf 158 10 L st h = xf 158 13 L (.long 2749 :: st) h := xo_ldcl (k := 10) (by decide +kernel) (by decide) (by decide)
set_option maxRecDepth 20000 in
theorem u_X8_digest_13 (L : xL) (v : Int64) (a : Nat) (st : List Value) (h : xH) (hc : (xob h a).1 = 8) : xf 158 13 L (.long v :: .ref a :: st) h = xf 158 16 L st (xso h a 19 (.long v)) := xo_putf (r := 531) (by decide +kernel) (by decide) rfl hc
set_option maxRecDepth 20000 in
theorem u_X8_digest_16 (L : xL) (st : List Value) (h : xH) : xf 158 16 L st h = xf 158 17 L (.int 0 :: st) h := xo_iconst (k := 0) (by decide +kernel) (by decide)
set_option maxRecDepth 20000 in
theorem u_X8_digest_17 (l0 l1 l2 : Option Value) (x : Int32) (st : List Value) (h : xH) : xf 158 17 [l0, l1, l2] (.int x :: st) h = xf 158 18 [xcat l0, some (.int x), l2] st h := xo_istore (k := 1) (by decide +kernel) (Nat.le_of_ble_eq_true rfl) rfl
set_option maxRecDepth 20000 in
theorem u_X8_digest_18 (l0 l2 : Option Value) (x : Int32) (st : List Value) (h : xH) : xf 158 18 [l0, some (.int x), l2] st h = xf 158 19 [l0, some (.int x), l2] (.int x :: st) h := xo_iload (k := 1) (by decide +kernel) rfl
set_option maxRecDepth 20000 in
theorem u_X8_digest_19 (L : xL) (st : List Value) (h : xH) : xf 158 19 L st h = xf 158 21 L (.int 9 :: st) h := xo_iconst (k := 9) (by decide +kernel) (by decide)
set_option maxRecDepth 20000 in
theorem u_X8_digest_21 (L : xL) (a b : Int32) (st : List Value) (h : xH) : xf 158 21 L (.int b :: .int a :: st) h = if a < b then xf 158 24 L st h else xf 158 40 L st h := xo_icmp_ge (t := 40) (by decide +kernel) rfl
set_option maxRecDepth 20000 in
theorem u_X8_digest_24 (l1 l2 : Option Value) (x : Nat) (st : List Value) (h : xH) : xf 158 24 [some (.ref x), l1, l2] st h = xf 158 25 [some (.ref x), l1, l2] (.ref x :: st) h := xo_aload (k := 0) (by decide +kernel) rfl
set_option maxRecDepth 20000 in
theorem u_X8_digest_25 (l1 l2 : Option Value) (x : Nat) (st : List Value) (h : xH) : xf 158 25 [some (.ref x), l1, l2] st h = xf 158 26 [some (.ref x), l1, l2] (.ref x :: st) h := xo_aload (k := 0) (by decide +kernel) rfl
set_option maxRecDepth 20000 in
theorem u_X8_digest_26 (l0 l2 : Option Value) (x : Int32) (st : List Value) (h : xH) : xf 158 26 [l0, some (.int x), l2] st h = xf 158 27 [l0, some (.int x), l2] (.int x :: st) h := xo_iload (k := 1) (by decide +kernel) rfl
set_option maxRecDepth 20000 in
theorem u_X8_digest_27 (L : xL) (v0 : Int32) (b : Nat) (st : List Value) (h : xH) (hb : (xob h b).1 = 8) (hl : st.length ≤ 4) : xf 158 27 L (.int v0 :: .ref b :: st) h = xgo 158 27 30 L st (xev 145 [.ref b, .int v0] h) := xo_callV (as := [.int v0]) (by decide +kernel) rfl ⟨(by decide +kernel : xna 145 = 1), Nat.le_of_ble_eq_true rfl, rfl, by decide⟩ hb hl
set_option maxRecDepth 20000 in
theorem u_X8_digest_30 (L : xL) (a : Int32) (st : List Value) (h : xH) : xf 158 30 L (.int a :: st) h = xf 158 31 L (.long a.toInt64 :: st) h := xo_i2l (by decide +kernel)
set_option maxRecDepth 20000 in
theorem u_X8_digest_31 (L : xL) (v0 : Int64) (b : Nat) (st : List Value) (h : xH) (hb : (xob h b).1 = 8) (hl : st.length ≤ 4) : xf 158 31 L (.long v0 :: .ref b :: st) h = xgo 158 31 34 L st (xev 157 [.ref b, .long v0] h) := xo_callV (as := [.long v0]) (by decide +kernel) rfl ⟨(by decide +kernel : xna 157 = 1), Nat.le_of_ble_eq_true rfl, rfl, by decide⟩ hb hl
set_option maxRecDepth 20000 in
theorem u_X8_digest_34 (l0 l2 : Option Value) (x : Int32) (st : List Value) (h : xH) : xf 158 34 [l0, some (.int x), l2] st h = xf 158 37 [xcat l0, some (.int (x + 1)), l2] st h := xo_iinc (k := 1) (c := 1) (by decide +kernel) rfl (by decide) rfl
set_option maxRecDepth 20000 in
theorem u_X8_digest_37 (L : xL) (st : List Value) (h : xH) : xf 158 37 L st h = xf 158 18 L st h := xo_goto (n := 40) (t := 18) (by decide +kernel) rfl
set_option maxRecDepth 20000 in
theorem u_X8_digest_40 (l1 l2 : Option Value) (x : Nat) (st : List Value) (h : xH) : xf 158 40 [some (.ref x), l1, l2] st h = xf 158 41 [some (.ref x), l1, l2] (.ref x :: st) h := xo_aload (k := 0) (by decide +kernel) rfl
set_option maxRecDepth 20000 in
theorem u_X8_digest_41 (l1 l2 : Option Value) (x : Nat) (st : List Value) (h : xH) : xf 158 41 [some (.ref x), l1, l2] st h = xf 158 42 [some (.ref x), l1, l2] (.ref x :: st) h := xo_aload (k := 0) (by decide +kernel) rfl
set_option maxRecDepth 20000 in
theorem u_X8_digest_42 (L : xL) (a : Nat) (st : List Value) (h : xH) (hc : (xob h a).1 = 8) : xf 158 42 L (.ref a :: st) h = xf 158 45 L ((xob h a).2.getD 1 .null :: st) h := xo_getf (r := 513) (by decide +kernel) (by decide) hc
set_option maxRecDepth 20000 in
theorem u_X8_digest_45 (L : xL) (st : List Value) (h : xH) : xf 158 45 L st h = xf 158 47 L (.int 113 :: st) h := xo_iconst (k := 113) (by decide +kernel) (by decide)
set_option maxRecDepth 20000 in
theorem u_X8_digest_47 (L : xL) (i : Int32) (a : Nat) (st : List Value) (h : xH) (hx : xix i (xai h a).1) : xf 158 47 L (.int i :: .ref a :: st) h = xf 158 48 L (.int ((xai h a).2 i.toNatClampNeg) :: st) h := xo_iaload (by decide +kernel) hx
set_option maxRecDepth 20000 in
theorem u_X8_digest_48 (L : xL) (a : Int32) (st : List Value) (h : xH) : xf 158 48 L (.int a :: st) h = xf 158 49 L (.long a.toInt64 :: st) h := xo_i2l (by decide +kernel)
set_option maxRecDepth 20000 in
theorem u_X8_digest_49 (L : xL) (v0 : Int64) (b : Nat) (st : List Value) (h : xH) (hb : (xob h b).1 = 8) (hl : st.length ≤ 4) : xf 158 49 L (.long v0 :: .ref b :: st) h = xgo 158 49 52 L st (xev 157 [.ref b, .long v0] h) := xo_callV (as := [.long v0]) (by decide +kernel) rfl ⟨(by decide +kernel : xna 157 = 1), Nat.le_of_ble_eq_true rfl, rfl, by decide⟩ hb hl
set_option maxRecDepth 20000 in
theorem u_X8_digest_52 (l1 l2 : Option Value) (x : Nat) (st : List Value) (h : xH) : xf 158 52 [some (.ref x), l1, l2] st h = xf 158 53 [some (.ref x), l1, l2] (.ref x :: st) h := xo_aload (k := 0) (by decide +kernel) rfl
set_option maxRecDepth 20000 in
theorem u_X8_digest_53 (l1 l2 : Option Value) (x : Nat) (st : List Value) (h : xH) : xf 158 53 [some (.ref x), l1, l2] st h = xf 158 54 [some (.ref x), l1, l2] (.ref x :: st) h := xo_aload (k := 0) (by decide +kernel) rfl
set_option maxRecDepth 20000 in
theorem u_X8_digest_54 (L : xL) (a : Nat) (st : List Value) (h : xH) (hc : (xob h a).1 = 8) : xf 158 54 L (.ref a :: st) h = xf 158 57 L ((xob h a).2.getD 1 .null :: st) h := xo_getf (r := 513) (by decide +kernel) (by decide) hc
set_option maxRecDepth 20000 in
theorem u_X8_digest_57 (L : xL) (st : List Value) (h : xH) : xf 158 57 L st h = xf 158 59 L (.int 114 :: st) h := xo_iconst (k := 114) (by decide +kernel) (by decide)
set_option maxRecDepth 20000 in
theorem u_X8_digest_59 (L : xL) (i : Int32) (a : Nat) (st : List Value) (h : xH) (hx : xix i (xai h a).1) : xf 158 59 L (.int i :: .ref a :: st) h = xf 158 60 L (.int ((xai h a).2 i.toNatClampNeg) :: st) h := xo_iaload (by decide +kernel) hx
set_option maxRecDepth 20000 in
theorem u_X8_digest_60 (L : xL) (a : Int32) (st : List Value) (h : xH) : xf 158 60 L (.int a :: st) h = xf 158 61 L (.long a.toInt64 :: st) h := xo_i2l (by decide +kernel)
set_option maxRecDepth 20000 in
theorem u_X8_digest_61 (L : xL) (v0 : Int64) (b : Nat) (st : List Value) (h : xH) (hb : (xob h b).1 = 8) (hl : st.length ≤ 4) : xf 158 61 L (.long v0 :: .ref b :: st) h = xgo 158 61 64 L st (xev 157 [.ref b, .long v0] h) := xo_callV (as := [.long v0]) (by decide +kernel) rfl ⟨(by decide +kernel : xna 157 = 1), Nat.le_of_ble_eq_true rfl, rfl, by decide⟩ hb hl
set_option maxRecDepth 20000 in
theorem u_X8_digest_64 (L : xL) (st : List Value) (h : xH) : xf 158 64 L st h = xf 158 65 L (.int 0 :: st) h := xo_iconst (k := 0) (by decide +kernel) (by decide)
set_option maxRecDepth 20000 in
theorem u_X8_digest_65 (l0 l1 l2 : Option Value) (x : Int32) (st : List Value) (h : xH) : xf 158 65 [l0, l1, l2] (.int x :: st) h = xf 158 66 [xcat l0, some (.int x), l2] st h := xo_istore (k := 1) (by decide +kernel) (Nat.le_of_ble_eq_true rfl) rfl
set_option maxRecDepth 20000 in
theorem u_X8_digest_66 (l0 l2 : Option Value) (x : Int32) (st : List Value) (h : xH) : xf 158 66 [l0, some (.int x), l2] st h = xf 158 67 [l0, some (.int x), l2] (.int x :: st) h := xo_iload (k := 1) (by decide +kernel) rfl
set_option maxRecDepth 20000 in
theorem u_X8_digest_67 (l1 l2 : Option Value) (x : Nat) (st : List Value) (h : xH) : xf 158 67 [some (.ref x), l1, l2] st h = xf 158 68 [some (.ref x), l1, l2] (.ref x :: st) h := xo_aload (k := 0) (by decide +kernel) rfl
set_option maxRecDepth 20000 in
theorem u_X8_digest_68 (L : xL) (a : Nat) (st : List Value) (h : xH) (hc : (xob h a).1 = 8) : xf 158 68 L (.ref a :: st) h = xf 158 71 L ((xob h a).2.getD 1 .null :: st) h := xo_getf (r := 513) (by decide +kernel) (by decide) hc
set_option maxRecDepth 20000 in
theorem u_X8_digest_71 (L : xL) (st : List Value) (h : xH) : xf 158 71 L st h = xf 158 72 L (.int 0 :: st) h := xo_iconst (k := 0) (by decide +kernel) (by decide)
set_option maxRecDepth 20000 in
theorem u_X8_digest_72 (L : xL) (i : Int32) (a : Nat) (st : List Value) (h : xH) (hx : xix i (xai h a).1) : xf 158 72 L (.int i :: .ref a :: st) h = xf 158 73 L (.int ((xai h a).2 i.toNatClampNeg) :: st) h := xo_iaload (by decide +kernel) hx
set_option maxRecDepth 20000 in
theorem u_X8_digest_73 (L : xL) (a b : Int32) (st : List Value) (h : xH) : xf 158 73 L (.int b :: .int a :: st) h = if a < b then xf 158 76 L st h else xf 158 95 L st h := xo_icmp_ge (t := 95) (by decide +kernel) rfl
set_option maxRecDepth 20000 in
theorem u_X8_digest_76 (l1 l2 : Option Value) (x : Nat) (st : List Value) (h : xH) : xf 158 76 [some (.ref x), l1, l2] st h = xf 158 77 [some (.ref x), l1, l2] (.ref x :: st) h := xo_aload (k := 0) (by decide +kernel) rfl
set_option maxRecDepth 20000 in
theorem u_X8_digest_77 (l1 l2 : Option Value) (x : Nat) (st : List Value) (h : xH) : xf 158 77 [some (.ref x), l1, l2] st h = xf 158 78 [some (.ref x), l1, l2] (.ref x :: st) h := xo_aload (k := 0) (by decide +kernel) rfl
set_option maxRecDepth 20000 in
theorem u_X8_digest_78 (L : xL) (a : Nat) (st : List Value) (h : xH) (hc : (xob h a).1 = 8) : xf 158 78 L (.ref a :: st) h = xf 158 81 L ((xob h a).2.getD 1 .null :: st) h := xo_getf (r := 513) (by decide +kernel) (by decide) hc
set_option maxRecDepth 20000 in
theorem u_X8_digest_81 (L : xL) (st : List Value) (h : xH) : xf 158 81 L st h = xf 158 82 L (.int 1 :: st) h := xo_iconst (k := 1) (by decide +kernel) (by decide)
set_option maxRecDepth 20000 in
theorem u_X8_digest_82 (l0 l2 : Option Value) (x : Int32) (st : List Value) (h : xH) : xf 158 82 [l0, some (.int x), l2] st h = xf 158 83 [l0, some (.int x), l2] (.int x :: st) h := xo_iload (k := 1) (by decide +kernel) rfl
set_option maxRecDepth 20000 in
theorem u_X8_digest_83 (L : xL) (a b : Int32) (st : List Value) (h : xH) : xf 158 83 L (.int b :: .int a :: st) h = xf 158 84 L (.int (a + b) :: st) h := xo_iadd (by decide +kernel)
set_option maxRecDepth 20000 in
theorem u_X8_digest_84 (L : xL) (i : Int32) (a : Nat) (st : List Value) (h : xH) (hx : xix i (xai h a).1) : xf 158 84 L (.int i :: .ref a :: st) h = xf 158 85 L (.int ((xai h a).2 i.toNatClampNeg) :: st) h := xo_iaload (by decide +kernel) hx
set_option maxRecDepth 20000 in
theorem u_X8_digest_85 (L : xL) (a : Int32) (st : List Value) (h : xH) : xf 158 85 L (.int a :: st) h = xf 158 86 L (.long a.toInt64 :: st) h := xo_i2l (by decide +kernel)
set_option maxRecDepth 20000 in
theorem u_X8_digest_86 (L : xL) (v0 : Int64) (b : Nat) (st : List Value) (h : xH) (hb : (xob h b).1 = 8) (hl : st.length ≤ 4) : xf 158 86 L (.long v0 :: .ref b :: st) h = xgo 158 86 89 L st (xev 157 [.ref b, .long v0] h) := xo_callV (as := [.long v0]) (by decide +kernel) rfl ⟨(by decide +kernel : xna 157 = 1), Nat.le_of_ble_eq_true rfl, rfl, by decide⟩ hb hl
set_option maxRecDepth 20000 in
theorem u_X8_digest_89 (l0 l2 : Option Value) (x : Int32) (st : List Value) (h : xH) : xf 158 89 [l0, some (.int x), l2] st h = xf 158 92 [xcat l0, some (.int (x + 1)), l2] st h := xo_iinc (k := 1) (c := 1) (by decide +kernel) rfl (by decide) rfl
set_option maxRecDepth 20000 in
theorem u_X8_digest_92 (L : xL) (st : List Value) (h : xH) : xf 158 92 L st h = xf 158 66 L st h := xo_goto (n := 95) (t := 66) (by decide +kernel) rfl
set_option maxRecDepth 20000 in
theorem u_X8_digest_95 (L : xL) (st : List Value) (h : xH) : xf 158 95 L st h = xf 158 96 L (.int 0 :: st) h := xo_iconst (k := 0) (by decide +kernel) (by decide)
set_option maxRecDepth 20000 in
theorem u_X8_digest_96 (l0 l1 l2 : Option Value) (x : Int32) (st : List Value) (h : xH) : xf 158 96 [l0, l1, l2] (.int x :: st) h = xf 158 97 [xcat l0, some (.int x), l2] st h := xo_istore (k := 1) (by decide +kernel) (Nat.le_of_ble_eq_true rfl) rfl
set_option maxRecDepth 20000 in
theorem u_X8_digest_97 (l0 l2 : Option Value) (x : Int32) (st : List Value) (h : xH) : xf 158 97 [l0, some (.int x), l2] st h = xf 158 98 [l0, some (.int x), l2] (.int x :: st) h := xo_iload (k := 1) (by decide +kernel) rfl
set_option maxRecDepth 20000 in
theorem u_X8_digest_98 (L : xL) (st : List Value) (h : xH) : xf 158 98 L st h = xf 158 100 L (.int 8 :: st) h := xo_iconst (k := 8) (by decide +kernel) (by decide)
set_option maxRecDepth 20000 in
theorem u_X8_digest_100 (L : xL) (a b : Int32) (st : List Value) (h : xH) : xf 158 100 L (.int b :: .int a :: st) h = if a < b then xf 158 103 L st h else xf 158 141 L st h := xo_icmp_ge (t := 141) (by decide +kernel) rfl
set_option maxRecDepth 20000 in
theorem u_X8_digest_103 (l1 l2 : Option Value) (x : Nat) (st : List Value) (h : xH) : xf 158 103 [some (.ref x), l1, l2] st h = xf 158 104 [some (.ref x), l1, l2] (.ref x :: st) h := xo_aload (k := 0) (by decide +kernel) rfl
set_option maxRecDepth 20000 in
theorem u_X8_digest_104 (l1 l2 : Option Value) (x : Nat) (st : List Value) (h : xH) : xf 158 104 [some (.ref x), l1, l2] st h = xf 158 105 [some (.ref x), l1, l2] (.ref x :: st) h := xo_aload (k := 0) (by decide +kernel) rfl
set_option maxRecDepth 20000 in
theorem u_X8_digest_105 (l0 l2 : Option Value) (x : Int32) (st : List Value) (h : xH) : xf 158 105 [l0, some (.int x), l2] st h = xf 158 106 [l0, some (.int x), l2] (.int x :: st) h := xo_iload (k := 1) (by decide +kernel) rfl
set_option maxRecDepth 20000 in
theorem u_X8_digest_106 (L : xL) (v0 : Int32) (b : Nat) (st : List Value) (h : xH) (hb : (xob h b).1 = 8) (hl : st.length ≤ 4) : xf 158 106 L (.int v0 :: .ref b :: st) h = xgo 158 106 109 L st (xev 147 [.ref b, .int v0] h) := xo_callV (as := [.int v0]) (by decide +kernel) rfl ⟨(by decide +kernel : xna 147 = 1), Nat.le_of_ble_eq_true rfl, rfl, by decide⟩ hb hl
set_option maxRecDepth 20000 in
theorem u_X8_digest_109 (L : xL) (a : Int32) (st : List Value) (h : xH) : xf 158 109 L (.int a :: st) h = xf 158 110 L (.long a.toInt64 :: st) h := xo_i2l (by decide +kernel)
set_option maxRecDepth 20000 in
theorem u_X8_digest_110 (L : xL) (v0 : Int64) (b : Nat) (st : List Value) (h : xH) (hb : (xob h b).1 = 8) (hl : st.length ≤ 4) : xf 158 110 L (.long v0 :: .ref b :: st) h = xgo 158 110 113 L st (xev 157 [.ref b, .long v0] h) := xo_callV (as := [.long v0]) (by decide +kernel) rfl ⟨(by decide +kernel : xna 157 = 1), Nat.le_of_ble_eq_true rfl, rfl, by decide⟩ hb hl
set_option maxRecDepth 20000 in
theorem u_X8_digest_113 (l1 l2 : Option Value) (x : Nat) (st : List Value) (h : xH) : xf 158 113 [some (.ref x), l1, l2] st h = xf 158 114 [some (.ref x), l1, l2] (.ref x :: st) h := xo_aload (k := 0) (by decide +kernel) rfl
set_option maxRecDepth 20000 in
theorem u_X8_digest_114 (l1 l2 : Option Value) (x : Nat) (st : List Value) (h : xH) : xf 158 114 [some (.ref x), l1, l2] st h = xf 158 115 [some (.ref x), l1, l2] (.ref x :: st) h := xo_aload (k := 0) (by decide +kernel) rfl
set_option maxRecDepth 20000 in
theorem u_X8_digest_115 (l0 l2 : Option Value) (x : Int32) (st : List Value) (h : xH) : xf 158 115 [l0, some (.int x), l2] st h = xf 158 116 [l0, some (.int x), l2] (.int x :: st) h := xo_iload (k := 1) (by decide +kernel) rfl
set_option maxRecDepth 20000 in
theorem u_X8_digest_116 (L : xL) (st : List Value) (h : xH) : xf 158 116 L st h = xf 158 117 L (.int 2 :: st) h := xo_iconst (k := 2) (by decide +kernel) (by decide)
set_option maxRecDepth 20000 in
theorem u_X8_digest_117 (L : xL) (v0 : Int32) (v1 : Int32) (b : Nat) (st : List Value) (h : xH) (hb : (xob h b).1 = 8) (hl : st.length ≤ 4) : xf 158 117 L (.int v1 :: .int v0 :: .ref b :: st) h = xgo 158 117 120 L st (xev 139 [.ref b, .int v0, .int v1] h) := xo_callV (as := [.int v0, .int v1]) (by decide +kernel) rfl ⟨(by decide +kernel : xna 139 = 2), Nat.le_of_ble_eq_true rfl, rfl, by decide⟩ hb hl
set_option maxRecDepth 20000 in
theorem u_X8_digest_120 (L : xL) (a : Int32) (st : List Value) (h : xH) : xf 158 120 L (.int a :: st) h = xf 158 121 L (.long a.toInt64 :: st) h := xo_i2l (by decide +kernel)
set_option maxRecDepth 20000 in
theorem u_X8_digest_121 (L : xL) (v0 : Int64) (b : Nat) (st : List Value) (h : xH) (hb : (xob h b).1 = 8) (hl : st.length ≤ 4) : xf 158 121 L (.long v0 :: .ref b :: st) h = xgo 158 121 124 L st (xev 157 [.ref b, .long v0] h) := xo_callV (as := [.long v0]) (by decide +kernel) rfl ⟨(by decide +kernel : xna 157 = 1), Nat.le_of_ble_eq_true rfl, rfl, by decide⟩ hb hl
set_option maxRecDepth 20000 in
theorem u_X8_digest_124 (l1 l2 : Option Value) (x : Nat) (st : List Value) (h : xH) : xf 158 124 [some (.ref x), l1, l2] st h = xf 158 125 [some (.ref x), l1, l2] (.ref x :: st) h := xo_aload (k := 0) (by decide +kernel) rfl
set_option maxRecDepth 20000 in
theorem u_X8_digest_125 (l1 l2 : Option Value) (x : Nat) (st : List Value) (h : xH) : xf 158 125 [some (.ref x), l1, l2] st h = xf 158 126 [some (.ref x), l1, l2] (.ref x :: st) h := xo_aload (k := 0) (by decide +kernel) rfl
set_option maxRecDepth 20000 in
theorem u_X8_digest_126 (l0 l2 : Option Value) (x : Int32) (st : List Value) (h : xH) : xf 158 126 [l0, some (.int x), l2] st h = xf 158 127 [l0, some (.int x), l2] (.int x :: st) h := xo_iload (k := 1) (by decide +kernel) rfl
set_option maxRecDepth 20000 in
theorem u_X8_digest_127 (L : xL) (st : List Value) (h : xH) : xf 158 127 L st h = xf 158 128 L (.int 3 :: st) h := xo_iconst (k := 3) (by decide +kernel) (by decide)
set_option maxRecDepth 20000 in
theorem u_X8_digest_128 (L : xL) (v0 : Int32) (v1 : Int32) (b : Nat) (st : List Value) (h : xH) (hb : (xob h b).1 = 8) (hl : st.length ≤ 4) : xf 158 128 L (.int v1 :: .int v0 :: .ref b :: st) h = xgo 158 128 131 L st (xev 139 [.ref b, .int v0, .int v1] h) := xo_callV (as := [.int v0, .int v1]) (by decide +kernel) rfl ⟨(by decide +kernel : xna 139 = 2), Nat.le_of_ble_eq_true rfl, rfl, by decide⟩ hb hl
set_option maxRecDepth 20000 in
theorem u_X8_digest_131 (L : xL) (a : Int32) (st : List Value) (h : xH) : xf 158 131 L (.int a :: st) h = xf 158 132 L (.long a.toInt64 :: st) h := xo_i2l (by decide +kernel)
set_option maxRecDepth 20000 in
theorem u_X8_digest_132 (L : xL) (v0 : Int64) (b : Nat) (st : List Value) (h : xH) (hb : (xob h b).1 = 8) (hl : st.length ≤ 4) : xf 158 132 L (.long v0 :: .ref b :: st) h = xgo 158 132 135 L st (xev 157 [.ref b, .long v0] h) := xo_callV (as := [.long v0]) (by decide +kernel) rfl ⟨(by decide +kernel : xna 157 = 1), Nat.le_of_ble_eq_true rfl, rfl, by decide⟩ hb hl
set_option maxRecDepth 20000 in
theorem u_X8_digest_135 (l0 l2 : Option Value) (x : Int32) (st : List Value) (h : xH) : xf 158 135 [l0, some (.int x), l2] st h = xf 158 138 [xcat l0, some (.int (x + 1)), l2] st h := xo_iinc (k := 1) (c := 1) (by decide +kernel) rfl (by decide) rfl
set_option maxRecDepth 20000 in
theorem u_X8_digest_138 (L : xL) (st : List Value) (h : xH) : xf 158 138 L st h = xf 158 97 L st h := xo_goto (n := 141) (t := 97) (by decide +kernel) rfl
set_option maxRecDepth 20000 in
theorem u_X8_digest_141 (L : xL) (st : List Value) (h : xH) : xf 158 141 L st h = xf 158 143 L (.int 8 :: st) h := xo_iconst (k := 8) (by decide +kernel) (by decide)
set_option maxRecDepth 20000 in
theorem u_X8_digest_143 (l0 l1 l2 : Option Value) (x : Int32) (st : List Value) (h : xH) : xf 158 143 [l0, l1, l2] (.int x :: st) h = xf 158 144 [xcat l0, some (.int x), l2] st h := xo_istore (k := 1) (by decide +kernel) (Nat.le_of_ble_eq_true rfl) rfl
set_option maxRecDepth 20000 in
theorem u_X8_digest_144 (l0 l2 : Option Value) (x : Int32) (st : List Value) (h : xH) : xf 158 144 [l0, some (.int x), l2] st h = xf 158 145 [l0, some (.int x), l2] (.int x :: st) h := xo_iload (k := 1) (by decide +kernel) rfl
set_option maxRecDepth 20000 in
theorem u_X8_digest_145 (L : xL) (st : List Value) (h : xH) : xf 158 145 L st h = xf 158 147 L (.int 24 :: st) h := xo_iconst (k := 24) (by decide +kernel) (by decide)
set_option maxRecDepth 20000 in
theorem u_X8_digest_147 (L : xL) (a b : Int32) (st : List Value) (h : xH) : xf 158 147 L (.int b :: .int a :: st) h = if a < b then xf 158 150 L st h else xf 158 195 L st h := xo_icmp_ge (t := 195) (by decide +kernel) rfl
set_option maxRecDepth 20000 in
theorem u_X8_digest_150 (l1 l2 : Option Value) (x : Nat) (st : List Value) (h : xH) : xf 158 150 [some (.ref x), l1, l2] st h = xf 158 151 [some (.ref x), l1, l2] (.ref x :: st) h := xo_aload (k := 0) (by decide +kernel) rfl
set_option maxRecDepth 20000 in
theorem u_X8_digest_151 (l0 l2 : Option Value) (x : Int32) (st : List Value) (h : xH) : xf 158 151 [l0, some (.int x), l2] st h = xf 158 152 [l0, some (.int x), l2] (.int x :: st) h := xo_iload (k := 1) (by decide +kernel) rfl
set_option maxRecDepth 20000 in
theorem u_X8_digest_152 (L : xL) (v0 : Int32) (b : Nat) (st : List Value) (h : xH) (hb : (xob h b).1 = 8) (hl : st.length ≤ 4) : xf 158 152 L (.int v0 :: .ref b :: st) h = xgo 158 152 155 L st (xev 104 [.ref b, .int v0] h) := xo_callV (as := [.int v0]) (by decide +kernel) rfl ⟨(by decide +kernel : xna 104 = 1), Nat.le_of_ble_eq_true rfl, rfl, by decide⟩ hb hl
set_option maxRecDepth 20000 in
theorem u_X8_digest_155 (L : xL) (a : Int32) (st : List Value) (h : xH) : xf 158 155 L (.int a :: st) h = if a = 0 then xf 158 189 L st h else xf 158 158 L st h := xo_if_eq (t := 189) (by decide +kernel) rfl
set_option maxRecDepth 20000 in
theorem u_X8_digest_158 (l1 l2 : Option Value) (x : Nat) (st : List Value) (h : xH) : xf 158 158 [some (.ref x), l1, l2] st h = xf 158 159 [some (.ref x), l1, l2] (.ref x :: st) h := xo_aload (k := 0) (by decide +kernel) rfl
set_option maxRecDepth 20000 in
theorem u_X8_digest_159 (l0 l2 : Option Value) (x : Int32) (st : List Value) (h : xH) : xf 158 159 [l0, some (.int x), l2] st h = xf 158 160 [l0, some (.int x), l2] (.int x :: st) h := xo_iload (k := 1) (by decide +kernel) rfl
set_option maxRecDepth 20000 in
theorem u_X8_digest_160 (L : xL) (a : Int32) (st : List Value) (h : xH) : xf 158 160 L (.int a :: st) h = xf 158 161 L (.long a.toInt64 :: st) h := xo_i2l (by decide +kernel)
set_option maxRecDepth 20000 in
theorem u_X8_digest_161 (L : xL) (v0 : Int64) (b : Nat) (st : List Value) (h : xH) (hb : (xob h b).1 = 8) (hl : st.length ≤ 4) : xf 158 161 L (.long v0 :: .ref b :: st) h = xgo 158 161 164 L st (xev 157 [.ref b, .long v0] h) := xo_callV (as := [.long v0]) (by decide +kernel) rfl ⟨(by decide +kernel : xna 157 = 1), Nat.le_of_ble_eq_true rfl, rfl, by decide⟩ hb hl
set_option maxRecDepth 20000 in
theorem u_X8_digest_164 (L : xL) (st : List Value) (h : xH) : xf 158 164 L st h = xf 158 165 L (.int 0 :: st) h := xo_iconst (k := 0) (by decide +kernel) (by decide)
set_option maxRecDepth 20000 in
theorem u_X8_digest_165 (l0 l1 l2 : Option Value) (x : Int32) (st : List Value) (h : xH) : xf 158 165 [l0, l1, l2] (.int x :: st) h = xf 158 166 [l0, xcat l1, some (.int x)] st h := xo_istore (k := 2) (by decide +kernel) (Nat.le_of_ble_eq_true rfl) rfl
set_option maxRecDepth 20000 in
theorem u_X8_digest_166 (l0 l1 : Option Value) (x : Int32) (st : List Value) (h : xH) : xf 158 166 [l0, l1, some (.int x)] st h = xf 158 167 [l0, l1, some (.int x)] (.int x :: st) h := xo_iload (k := 2) (by decide +kernel) rfl
set_option maxRecDepth 20000 in
theorem u_X8_digest_167 (L : xL) (st : List Value) (h : xH) : xf 158 167 L st h = xf 158 169 L (.int 8 :: st) h := xo_iconst (k := 8) (by decide +kernel) (by decide)
set_option maxRecDepth 20000 in
theorem u_X8_digest_169 (L : xL) (a b : Int32) (st : List Value) (h : xH) : xf 158 169 L (.int b :: .int a :: st) h = if a < b then xf 158 172 L st h else xf 158 189 L st h := xo_icmp_ge (t := 189) (by decide +kernel) rfl
set_option maxRecDepth 20000 in
theorem u_X8_digest_172 (l1 l2 : Option Value) (x : Nat) (st : List Value) (h : xH) : xf 158 172 [some (.ref x), l1, l2] st h = xf 158 173 [some (.ref x), l1, l2] (.ref x :: st) h := xo_aload (k := 0) (by decide +kernel) rfl
set_option maxRecDepth 20000 in
theorem u_X8_digest_173 (l1 l2 : Option Value) (x : Nat) (st : List Value) (h : xH) : xf 158 173 [some (.ref x), l1, l2] st h = xf 158 174 [some (.ref x), l1, l2] (.ref x :: st) h := xo_aload (k := 0) (by decide +kernel) rfl
set_option maxRecDepth 20000 in
theorem u_X8_digest_174 (l0 l2 : Option Value) (x : Int32) (st : List Value) (h : xH) : xf 158 174 [l0, some (.int x), l2] st h = xf 158 175 [l0, some (.int x), l2] (.int x :: st) h := xo_iload (k := 1) (by decide +kernel) rfl
set_option maxRecDepth 20000 in
theorem u_X8_digest_175 (l0 l1 : Option Value) (x : Int32) (st : List Value) (h : xH) : xf 158 175 [l0, l1, some (.int x)] st h = xf 158 176 [l0, l1, some (.int x)] (.int x :: st) h := xo_iload (k := 2) (by decide +kernel) rfl
set_option maxRecDepth 20000 in
theorem u_X8_digest_176 (L : xL) (v0 : Int32) (v1 : Int32) (b : Nat) (st : List Value) (h : xH) (hb : (xob h b).1 = 8) (hl : st.length ≤ 4) : xf 158 176 L (.int v1 :: .int v0 :: .ref b :: st) h = xgo 158 176 179 L st (xev 139 [.ref b, .int v0, .int v1] h) := xo_callV (as := [.int v0, .int v1]) (by decide +kernel) rfl ⟨(by decide +kernel : xna 139 = 2), Nat.le_of_ble_eq_true rfl, rfl, by decide⟩ hb hl
set_option maxRecDepth 20000 in
theorem u_X8_digest_179 (L : xL) (a : Int32) (st : List Value) (h : xH) : xf 158 179 L (.int a :: st) h = xf 158 180 L (.long a.toInt64 :: st) h := xo_i2l (by decide +kernel)
set_option maxRecDepth 20000 in
theorem u_X8_digest_180 (L : xL) (v0 : Int64) (b : Nat) (st : List Value) (h : xH) (hb : (xob h b).1 = 8) (hl : st.length ≤ 4) : xf 158 180 L (.long v0 :: .ref b :: st) h = xgo 158 180 183 L st (xev 157 [.ref b, .long v0] h) := xo_callV (as := [.long v0]) (by decide +kernel) rfl ⟨(by decide +kernel : xna 157 = 1), Nat.le_of_ble_eq_true rfl, rfl, by decide⟩ hb hl
set_option maxRecDepth 20000 in
theorem u_X8_digest_183 (l0 l1 : Option Value) (x : Int32) (st : List Value) (h : xH) : xf 158 183 [l0, l1, some (.int x)] st h = xf 158 186 [l0, xcat l1, some (.int (x + 1))] st h := xo_iinc (k := 2) (c := 1) (by decide +kernel) rfl (by decide) rfl
set_option maxRecDepth 20000 in
theorem u_X8_digest_186 (L : xL) (st : List Value) (h : xH) : xf 158 186 L st h = xf 158 166 L st h := xo_goto (n := 189) (t := 166) (by decide +kernel) rfl
set_option maxRecDepth 20000 in
theorem u_X8_digest_189 (l0 l2 : Option Value) (x : Int32) (st : List Value) (h : xH) : xf 158 189 [l0, some (.int x), l2] st h = xf 158 192 [xcat l0, some (.int (x + 1)), l2] st h := xo_iinc (k := 1) (c := 1) (by decide +kernel) rfl (by decide) rfl
set_option maxRecDepth 20000 in
theorem u_X8_digest_192 (L : xL) (st : List Value) (h : xH) : xf 158 192 L st h = xf 158 144 L st h := xo_goto (n := 195) (t := 144) (by decide +kernel) rfl
set_option maxRecDepth 20000 in
theorem u_X8_digest_195 (L : xL) (st : List Value) (h : xH) : xf 158 195 L st h = xf 158 196 L (.int 0 :: st) h := xo_iconst (k := 0) (by decide +kernel) (by decide)
set_option maxRecDepth 20000 in
theorem u_X8_digest_196 (l0 l1 l2 : Option Value) (x : Int32) (st : List Value) (h : xH) : xf 158 196 [l0, l1, l2] (.int x :: st) h = xf 158 197 [xcat l0, some (.int x), l2] st h := xo_istore (k := 1) (by decide +kernel) (Nat.le_of_ble_eq_true rfl) rfl
set_option maxRecDepth 20000 in
theorem u_X8_digest_197 (l0 l2 : Option Value) (x : Int32) (st : List Value) (h : xH) : xf 158 197 [l0, some (.int x), l2] st h = xf 158 198 [l0, some (.int x), l2] (.int x :: st) h := xo_iload (k := 1) (by decide +kernel) rfl
set_option maxRecDepth 20000 in
theorem u_X8_digest_198 (L : xL) (st : List Value) (h : xH) : xf 158 198 L st h = xf 158 200 L (.int 64 :: st) h := xo_iconst (k := 64) (by decide +kernel) (by decide)
set_option maxRecDepth 20000 in
theorem u_X8_digest_200 (L : xL) (a b : Int32) (st : List Value) (h : xH) : xf 158 200 L (.int b :: .int a :: st) h = if a < b then xf 158 203 L st h else xf 158 219 L st h := xo_icmp_ge (t := 219) (by decide +kernel) rfl
set_option maxRecDepth 20000 in
theorem u_X8_digest_203 (l1 l2 : Option Value) (x : Nat) (st : List Value) (h : xH) : xf 158 203 [some (.ref x), l1, l2] st h = xf 158 204 [some (.ref x), l1, l2] (.ref x :: st) h := xo_aload (k := 0) (by decide +kernel) rfl
set_option maxRecDepth 20000 in
theorem u_X8_digest_204 (l1 l2 : Option Value) (x : Nat) (st : List Value) (h : xH) : xf 158 204 [some (.ref x), l1, l2] st h = xf 158 205 [some (.ref x), l1, l2] (.ref x :: st) h := xo_aload (k := 0) (by decide +kernel) rfl
set_option maxRecDepth 20000 in
theorem u_X8_digest_205 (l0 l2 : Option Value) (x : Int32) (st : List Value) (h : xH) : xf 158 205 [l0, some (.int x), l2] st h = xf 158 206 [l0, some (.int x), l2] (.int x :: st) h := xo_iload (k := 1) (by decide +kernel) rfl
set_option maxRecDepth 20000 in
theorem u_X8_digest_206 (L : xL) (v0 : Int32) (b : Nat) (st : List Value) (h : xH) (hb : (xob h b).1 = 8) (hl : st.length ≤ 4) : xf 158 206 L (.int v0 :: .ref b :: st) h = xgo 158 206 209 L st (xev 115 [.ref b, .int v0] h) := xo_callV (as := [.int v0]) (by decide +kernel) rfl ⟨(by decide +kernel : xna 115 = 1), Nat.le_of_ble_eq_true rfl, rfl, by decide⟩ hb hl
set_option maxRecDepth 20000 in
theorem u_X8_digest_209 (L : xL) (a : Int32) (st : List Value) (h : xH) : xf 158 209 L (.int a :: st) h = xf 158 210 L (.long a.toInt64 :: st) h := xo_i2l (by decide +kernel)
set_option maxRecDepth 20000 in
theorem u_X8_digest_210 (L : xL) (v0 : Int64) (b : Nat) (st : List Value) (h : xH) (hb : (xob h b).1 = 8) (hl : st.length ≤ 4) : xf 158 210 L (.long v0 :: .ref b :: st) h = xgo 158 210 213 L st (xev 157 [.ref b, .long v0] h) := xo_callV (as := [.long v0]) (by decide +kernel) rfl ⟨(by decide +kernel : xna 157 = 1), Nat.le_of_ble_eq_true rfl, rfl, by decide⟩ hb hl
set_option maxRecDepth 20000 in
theorem u_X8_digest_213 (l0 l2 : Option Value) (x : Int32) (st : List Value) (h : xH) : xf 158 213 [l0, some (.int x), l2] st h = xf 158 216 [xcat l0, some (.int (x + 1)), l2] st h := xo_iinc (k := 1) (c := 1) (by decide +kernel) rfl (by decide) rfl
set_option maxRecDepth 20000 in
theorem u_X8_digest_216 (L : xL) (st : List Value) (h : xH) : xf 158 216 L st h = xf 158 197 L st h := xo_goto (n := 219) (t := 197) (by decide +kernel) rfl
set_option maxRecDepth 20000 in
theorem u_X8_digest_219 (L : xL) (st : List Value) (h : xH) : xf 158 219 L st h = xf 158 220 L (.int 0 :: st) h := xo_iconst (k := 0) (by decide +kernel) (by decide)
set_option maxRecDepth 20000 in
theorem u_X8_digest_220 (l0 l1 l2 : Option Value) (x : Int32) (st : List Value) (h : xH) : xf 158 220 [l0, l1, l2] (.int x :: st) h = xf 158 221 [xcat l0, some (.int x), l2] st h := xo_istore (k := 1) (by decide +kernel) (Nat.le_of_ble_eq_true rfl) rfl
set_option maxRecDepth 20000 in
theorem u_X8_digest_221 (l0 l2 : Option Value) (x : Int32) (st : List Value) (h : xH) : xf 158 221 [l0, some (.int x), l2] st h = xf 158 222 [l0, some (.int x), l2] (.int x :: st) h := xo_iload (k := 1) (by decide +kernel) rfl
set_option maxRecDepth 20000 in
theorem u_X8_digest_222 (L : xL) (st : List Value) (h : xH) : xf 158 222 L st h = xf 158 223 L (.int 4 :: st) h := xo_iconst (k := 4) (by decide +kernel) (by decide)
set_option maxRecDepth 20000 in
theorem u_X8_digest_223 (L : xL) (a b : Int32) (st : List Value) (h : xH) : xf 158 223 L (.int b :: .int a :: st) h = if a < b then xf 158 226 L st h else xf 158 242 L st h := xo_icmp_ge (t := 242) (by decide +kernel) rfl
set_option maxRecDepth 20000 in
theorem u_X8_digest_226 (l1 l2 : Option Value) (x : Nat) (st : List Value) (h : xH) : xf 158 226 [some (.ref x), l1, l2] st h = xf 158 227 [some (.ref x), l1, l2] (.ref x :: st) h := xo_aload (k := 0) (by decide +kernel) rfl
set_option maxRecDepth 20000 in
theorem u_X8_digest_227 (l1 l2 : Option Value) (x : Nat) (st : List Value) (h : xH) : xf 158 227 [some (.ref x), l1, l2] st h = xf 158 228 [some (.ref x), l1, l2] (.ref x :: st) h := xo_aload (k := 0) (by decide +kernel) rfl
set_option maxRecDepth 20000 in
theorem u_X8_digest_228 (l0 l2 : Option Value) (x : Int32) (st : List Value) (h : xH) : xf 158 228 [l0, some (.int x), l2] st h = xf 158 229 [l0, some (.int x), l2] (.int x :: st) h := xo_iload (k := 1) (by decide +kernel) rfl
set_option maxRecDepth 20000 in
theorem u_X8_digest_229 (L : xL) (v0 : Int32) (b : Nat) (st : List Value) (h : xH) (hb : (xob h b).1 = 8) (hl : st.length ≤ 4) : xf 158 229 L (.int v0 :: .ref b :: st) h = xgo 158 229 232 L st (xev 142 [.ref b, .int v0] h) := xo_callV (as := [.int v0]) (by decide +kernel) rfl ⟨(by decide +kernel : xna 142 = 1), Nat.le_of_ble_eq_true rfl, rfl, by decide⟩ hb hl
set_option maxRecDepth 20000 in
theorem u_X8_digest_232 (L : xL) (a : Int32) (st : List Value) (h : xH) : xf 158 232 L (.int a :: st) h = xf 158 233 L (.long a.toInt64 :: st) h := xo_i2l (by decide +kernel)
set_option maxRecDepth 20000 in
theorem u_X8_digest_233 (L : xL) (v0 : Int64) (b : Nat) (st : List Value) (h : xH) (hb : (xob h b).1 = 8) (hl : st.length ≤ 4) : xf 158 233 L (.long v0 :: .ref b :: st) h = xgo 158 233 236 L st (xev 157 [.ref b, .long v0] h) := xo_callV (as := [.long v0]) (by decide +kernel) rfl ⟨(by decide +kernel : xna 157 = 1), Nat.le_of_ble_eq_true rfl, rfl, by decide⟩ hb hl
set_option maxRecDepth 20000 in
theorem u_X8_digest_236 (l0 l2 : Option Value) (x : Int32) (st : List Value) (h : xH) : xf 158 236 [l0, some (.int x), l2] st h = xf 158 239 [xcat l0, some (.int (x + 1)), l2] st h := xo_iinc (k := 1) (c := 1) (by decide +kernel) rfl (by decide) rfl
set_option maxRecDepth 20000 in
theorem u_X8_digest_239 (L : xL) (st : List Value) (h : xH) : xf 158 239 L st h = xf 158 221 L st h := xo_goto (n := 242) (t := 221) (by decide +kernel) rfl
set_option maxRecDepth 20000 in
theorem u_X8_digest_242 (l1 l2 : Option Value) (x : Nat) (st : List Value) (h : xH) : xf 158 242 [some (.ref x), l1, l2] st h = xf 158 243 [some (.ref x), l1, l2] (.ref x :: st) h := xo_aload (k := 0) (by decide +kernel) rfl
set_option maxRecDepth 20000 in
theorem u_X8_digest_243 (l1 l2 : Option Value) (x : Nat) (st : List Value) (h : xH) : xf 158 243 [some (.ref x), l1, l2] st h = xf 158 244 [some (.ref x), l1, l2] (.ref x :: st) h := xo_aload (k := 0) (by decide +kernel) rfl
set_option maxRecDepth 20000 in
theorem u_X8_digest_244 (L : xL) (st : List Value) (h : xH) : xf 158 244 L st h = xf 158 245 L (.int 0 :: st) h := xo_iconst (k := 0) (by decide +kernel) (by decide)
set_option maxRecDepth 20000 in
theorem u_X8_digest_245 (L : xL) (st : List Value) (h : xH) : xf 158 245 L st h = xf 158 246 L (.int 1 :: st) h := xo_iconst (k := 1) (by decide +kernel) (by decide)
set_option maxRecDepth 20000 in
theorem u_X8_digest_246 (L : xL) (v0 : Int32) (v1 : Int32) (b : Nat) (st : List Value) (h : xH) (hb : (xob h b).1 = 8) (hl : st.length ≤ 4) : xf 158 246 L (.int v1 :: .int v0 :: .ref b :: st) h = xgo 158 246 249 L st (xev 123 [.ref b, .int v0, .int v1] h) := xo_callV (as := [.int v0, .int v1]) (by decide +kernel) rfl ⟨(by decide +kernel : xna 123 = 2), Nat.le_of_ble_eq_true rfl, rfl, by decide⟩ hb hl
set_option maxRecDepth 20000 in
theorem u_X8_digest_249 (L : xL) (a : Int32) (st : List Value) (h : xH) : xf 158 249 L (.int a :: st) h = xf 158 250 L (.long a.toInt64 :: st) h := xo_i2l (by decide +kernel)
set_option maxRecDepth 20000 in
theorem u_X8_digest_250 (L : xL) (v0 : Int64) (b : Nat) (st : List Value) (h : xH) (hb : (xob h b).1 = 8) (hl : st.length ≤ 4) : xf 158 250 L (.long v0 :: .ref b :: st) h = xgo 158 250 253 L st (xev 157 [.ref b, .long v0] h) := xo_callV (as := [.long v0]) (by decide +kernel) rfl ⟨(by decide +kernel : xna 157 = 1), Nat.le_of_ble_eq_true rfl, rfl, by decide⟩ hb hl
set_option maxRecDepth 20000 in
theorem u_X8_digest_253 (l1 l2 : Option Value) (x : Nat) (st : List Value) (h : xH) : xf 158 253 [some (.ref x), l1, l2] st h = xf 158 254 [some (.ref x), l1, l2] (.ref x :: st) h := xo_aload (k := 0) (by decide +kernel) rfl
set_option maxRecDepth 20000 in
theorem u_X8_digest_254 (l1 l2 : Option Value) (x : Nat) (st : List Value) (h : xH) : xf 158 254 [some (.ref x), l1, l2] st h = xf 158 255 [some (.ref x), l1, l2] (.ref x :: st) h := xo_aload (k := 0) (by decide +kernel) rfl
set_option maxRecDepth 20000 in
theorem u_X8_digest_255 (L : xL) (st : List Value) (h : xH) : xf 158 255 L st h = xf 158 256 L (.int 0 :: st) h := xo_iconst (k := 0) (by decide +kernel) (by decide)
set_option maxRecDepth 20000 in
theorem u_X8_digest_256 (L : xL) (st : List Value) (h : xH) : xf 158 256 L st h = xf 158 257 L (.int 0 :: st) h := xo_iconst (k := 0) (by decide +kernel) (by decide)
set_option maxRecDepth 20000 in
theorem u_X8_digest_257 (L : xL) (v0 : Int32) (v1 : Int32) (b : Nat) (st : List Value) (h : xH) (hb : (xob h b).1 = 8) (hl : st.length ≤ 4) : xf 158 257 L (.int v1 :: .int v0 :: .ref b :: st) h = xgo 158 257 260 L st (xev 123 [.ref b, .int v0, .int v1] h) := xo_callV (as := [.int v0, .int v1]) (by decide +kernel) rfl ⟨(by decide +kernel : xna 123 = 2), Nat.le_of_ble_eq_true rfl, rfl, by decide⟩ hb hl
set_option maxRecDepth 20000 in
theorem u_X8_digest_260 (L : xL) (a : Int32) (st : List Value) (h : xH) : xf 158 260 L (.int a :: st) h = xf 158 261 L (.long a.toInt64 :: st) h := xo_i2l (by decide +kernel)
set_option maxRecDepth 20000 in
theorem u_X8_digest_261 (L : xL) (v0 : Int64) (b : Nat) (st : List Value) (h : xH) (hb : (xob h b).1 = 8) (hl : st.length ≤ 4) : xf 158 261 L (.long v0 :: .ref b :: st) h = xgo 158 261 264 L st (xev 157 [.ref b, .long v0] h) := xo_callV (as := [.long v0]) (by decide +kernel) rfl ⟨(by decide +kernel : xna 157 = 1), Nat.le_of_ble_eq_true rfl, rfl, by decide⟩ hb hl
set_option maxRecDepth 20000 in
theorem u_X8_digest_264 (L : xL) (st : List Value) (h : xH) : xf 158 264 L st h = xf 158 265 L (.int 0 :: st) h := xo_iconst (k := 0) (by decide +kernel) (by decide)
set_option maxRecDepth 20000 in
theorem u_X8_digest_265 (l0 l1 l2 : Option Value) (x : Int32) (st : List Value) (h : xH) : xf 158 265 [l0, l1, l2] (.int x :: st) h = xf 158 266 [xcat l0, some (.int x), l2] st h := xo_istore (k := 1) (by decide +kernel) (Nat.le_of_ble_eq_true rfl) rfl
set_option maxRecDepth 20000 in
theorem u_X8_digest_266 (l0 l2 : Option Value) (x : Int32) (st : List Value) (h : xH) : xf 158 266 [l0, some (.int x), l2] st h = xf 158 267 [l0, some (.int x), l2] (.int x :: st) h := xo_iload (k := 1) (by decide +kernel) rfl
set_option maxRecDepth 20000 in
theorem u_X8_digest_267 (L : xL) (st : List Value) (h : xH) : xf 158 267 L st h = xf 158 268 L (.int 4 :: st) h := xo_iconst (k := 4) (by decide +kernel) (by decide)
set_option maxRecDepth 20000 in
theorem u_X8_digest_268 (L : xL) (a b : Int32) (st : List Value) (h : xH) : xf 158 268 L (.int b :: .int a :: st) h = if a < b then xf 158 271 L st h else xf 158 287 L st h := xo_icmp_ge (t := 287) (by decide +kernel) rfl
set_option maxRecDepth 20000 in
theorem u_X8_digest_271 (l1 l2 : Option Value) (x : Nat) (st : List Value) (h : xH) : xf 158 271 [some (.ref x), l1, l2] st h = xf 158 272 [some (.ref x), l1, l2] (.ref x :: st) h := xo_aload (k := 0) (by decide +kernel) rfl
set_option maxRecDepth 20000 in
theorem u_X8_digest_272 (l1 l2 : Option Value) (x : Nat) (st : List Value) (h : xH) : xf 158 272 [some (.ref x), l1, l2] st h = xf 158 273 [some (.ref x), l1, l2] (.ref x :: st) h := xo_aload (k := 0) (by decide +kernel) rfl
set_option maxRecDepth 20000 in
theorem u_X8_digest_273 (l0 l2 : Option Value) (x : Int32) (st : List Value) (h : xH) : xf 158 273 [l0, some (.int x), l2] st h = xf 158 274 [l0, some (.int x), l2] (.int x :: st) h := xo_iload (k := 1) (by decide +kernel) rfl
set_option maxRecDepth 20000 in
theorem u_X8_digest_274 (L : xL) (v0 : Int32) (b : Nat) (st : List Value) (h : xH) (hb : (xob h b).1 = 8) (hl : st.length ≤ 4) : xf 158 274 L (.int v0 :: .ref b :: st) h = xgo 158 274 277 L st (xev 150 [.ref b, .int v0] h) := xo_callV (as := [.int v0]) (by decide +kernel) rfl ⟨(by decide +kernel : xna 150 = 1), Nat.le_of_ble_eq_true rfl, rfl, by decide⟩ hb hl
set_option maxRecDepth 20000 in
theorem u_X8_digest_277 (L : xL) (a : Int32) (st : List Value) (h : xH) : xf 158 277 L (.int a :: st) h = xf 158 278 L (.long a.toInt64 :: st) h := xo_i2l (by decide +kernel)
set_option maxRecDepth 20000 in
theorem u_X8_digest_278 (L : xL) (v0 : Int64) (b : Nat) (st : List Value) (h : xH) (hb : (xob h b).1 = 8) (hl : st.length ≤ 4) : xf 158 278 L (.long v0 :: .ref b :: st) h = xgo 158 278 281 L st (xev 157 [.ref b, .long v0] h) := xo_callV (as := [.long v0]) (by decide +kernel) rfl ⟨(by decide +kernel : xna 157 = 1), Nat.le_of_ble_eq_true rfl, rfl, by decide⟩ hb hl
set_option maxRecDepth 20000 in
theorem u_X8_digest_281 (l0 l2 : Option Value) (x : Int32) (st : List Value) (h : xH) : xf 158 281 [l0, some (.int x), l2] st h = xf 158 284 [xcat l0, some (.int (x + 1)), l2] st h := xo_iinc (k := 1) (c := 1) (by decide +kernel) rfl (by decide) rfl
set_option maxRecDepth 20000 in
theorem u_X8_digest_284 (L : xL) (st : List Value) (h : xH) : xf 158 284 L st h = xf 158 266 L st h := xo_goto (n := 287) (t := 266) (by decide +kernel) rfl
set_option maxRecDepth 20000 in
theorem u_X8_digest_287 (l1 l2 : Option Value) (x : Nat) (st : List Value) (h : xH) : xf 158 287 [some (.ref x), l1, l2] st h = xf 158 288 [some (.ref x), l1, l2] (.ref x :: st) h := xo_aload (k := 0) (by decide +kernel) rfl
set_option maxRecDepth 20000 in
theorem u_X8_digest_288 (l1 l2 : Option Value) (x : Nat) (st : List Value) (h : xH) : xf 158 288 [some (.ref x), l1, l2] st h = xf 158 289 [some (.ref x), l1, l2] (.ref x :: st) h := xo_aload (k := 0) (by decide +kernel) rfl
set_option maxRecDepth 20000 in
theorem u_X8_digest_289 (L : xL) (b : Nat) (st : List Value) (h : xH) (hb : (xob h b).1 = 8) (hl : st.length ≤ 4) : xf 158 289 L (.ref b :: st) h = xgo 158 289 292 L st (xev 152 [.ref b] h) := xo_callV (as := []) (by decide +kernel) rfl ⟨(by decide +kernel : xna 152 = 0), Nat.le_of_ble_eq_true rfl, rfl, by decide⟩ hb hl
set_option maxRecDepth 20000 in
theorem u_X8_digest_292 (L : xL) (a : Int32) (st : List Value) (h : xH) : xf 158 292 L (.int a :: st) h = xf 158 293 L (.long a.toInt64 :: st) h := xo_i2l (by decide +kernel)
set_option maxRecDepth 20000 in
theorem u_X8_digest_293 (L : xL) (v0 : Int64) (b : Nat) (st : List Value) (h : xH) (hb : (xob h b).1 = 8) (hl : st.length ≤ 4) : xf 158 293 L (.long v0 :: .ref b :: st) h = xgo 158 293 296 L st (xev 157 [.ref b, .long v0] h) := xo_callV (as := [.long v0]) (by decide +kernel) rfl ⟨(by decide +kernel : xna 157 = 1), Nat.le_of_ble_eq_true rfl, rfl, by decide⟩ hb hl
set_option maxRecDepth 20000 in
theorem u_X8_digest_296 (l1 l2 : Option Value) (x : Nat) (st : List Value) (h : xH) : xf 158 296 [some (.ref x), l1, l2] st h = xf 158 297 [some (.ref x), l1, l2] (.ref x :: st) h := xo_aload (k := 0) (by decide +kernel) rfl
set_option maxRecDepth 20000 in
theorem u_X8_digest_297 (L : xL) (b : Nat) (st : List Value) (h : xH) (hb : (xob h b).1 = 8) (hl : st.length ≤ 4) : xf 158 297 L (.ref b :: st) h = xgo 158 297 300 L st (xev 107 [.ref b] h) := xo_callV (as := []) (by decide +kernel) rfl ⟨(by decide +kernel : xna 107 = 0), Nat.le_of_ble_eq_true rfl, rfl, by decide⟩ hb hl
set_option maxRecDepth 20000 in
theorem u_X8_digest_300 (l1 l2 : Option Value) (x : Nat) (st : List Value) (h : xH) : xf 158 300 [some (.ref x), l1, l2] st h = xf 158 301 [some (.ref x), l1, l2] (.ref x :: st) h := xo_aload (k := 0) (by decide +kernel) rfl
set_option maxRecDepth 20000 in
theorem u_X8_digest_301 (l1 l2 : Option Value) (x : Nat) (st : List Value) (h : xH) : xf 158 301 [some (.ref x), l1, l2] st h = xf 158 302 [some (.ref x), l1, l2] (.ref x :: st) h := xo_aload (k := 0) (by decide +kernel) rfl
set_option maxRecDepth 20000 in
theorem u_X8_digest_302 (L : xL) (b : Nat) (st : List Value) (h : xH) (hb : (xob h b).1 = 8) (hl : st.length ≤ 4) : xf 158 302 L (.ref b :: st) h = xgo 158 302 305 L st (xev 154 [.ref b] h) := xo_callV (as := []) (by decide +kernel) rfl ⟨(by decide +kernel : xna 154 = 0), Nat.le_of_ble_eq_true rfl, rfl, by decide⟩ hb hl
set_option maxRecDepth 20000 in
theorem u_X8_digest_305 (L : xL) (v0 : UInt64) (st : List Value) (h : xH) (hl : st.length ≤ 4) : xf 158 305 L (.double v0 :: st) h = xgo 158 305 308 L st (xev 156 [.double v0] h) := xo_callS (as := [.double v0]) (by decide +kernel) rfl ⟨(by decide +kernel : xna 156 = 1), Nat.le_of_ble_eq_true rfl, by decide⟩ hl
set_option maxRecDepth 20000 in
theorem u_X8_digest_308 (L : xL) (v0 : Int64) (b : Nat) (st : List Value) (h : xH) (hb : (xob h b).1 = 8) (hl : st.length ≤ 4) : xf 158 308 L (.long v0 :: .ref b :: st) h = xgo 158 308 311 L st (xev 157 [.ref b, .long v0] h) := xo_callV (as := [.long v0]) (by decide +kernel) rfl ⟨(by decide +kernel : xna 157 = 1), Nat.le_of_ble_eq_true rfl, rfl, by decide⟩ hb hl
set_option maxRecDepth 20000 in
theorem u_X8_digest_311 (l1 l2 : Option Value) (x : Nat) (st : List Value) (h : xH) : xf 158 311 [some (.ref x), l1, l2] st h = xf 158 312 [some (.ref x), l1, l2] (.ref x :: st) h := xo_aload (k := 0) (by decide +kernel) rfl
set_option maxRecDepth 20000 in
theorem u_X8_digest_312 (l1 l2 : Option Value) (x : Nat) (st : List Value) (h : xH) : xf 158 312 [some (.ref x), l1, l2] st h = xf 158 313 [some (.ref x), l1, l2] (.ref x :: st) h := xo_aload (k := 0) (by decide +kernel) rfl
set_option maxRecDepth 20000 in
theorem u_X8_digest_313 (L : xL) (a : Nat) (st : List Value) (h : xH) (hc : (xob h a).1 = 8) : xf 158 313 L (.ref a :: st) h = xf 158 316 L ((xob h a).2.getD 6 .null :: st) h := xo_getf (r := 518) (by decide +kernel) (by decide) hc
set_option maxRecDepth 20000 in
theorem u_X8_digest_316 (L : xL) (a : Int32) (st : List Value) (h : xH) : xf 158 316 L (.int a :: st) h = xf 158 317 L (.long a.toInt64 :: st) h := xo_i2l (by decide +kernel)
set_option maxRecDepth 20000 in
theorem u_X8_digest_317 (L : xL) (v0 : Int64) (b : Nat) (st : List Value) (h : xH) (hb : (xob h b).1 = 8) (hl : st.length ≤ 4) : xf 158 317 L (.long v0 :: .ref b :: st) h = xgo 158 317 320 L st (xev 157 [.ref b, .long v0] h) := xo_callV (as := [.long v0]) (by decide +kernel) rfl ⟨(by decide +kernel : xna 157 = 1), Nat.le_of_ble_eq_true rfl, rfl, by decide⟩ hb hl
set_option maxRecDepth 20000 in
theorem u_X8_digest_320 (L : xL) (st : List Value) (h : xH) : xf 158 320 L st h = xf 158 321 L (.int 0 :: st) h := xo_iconst (k := 0) (by decide +kernel) (by decide)
set_option maxRecDepth 20000 in
theorem u_X8_digest_321 (l0 l1 l2 : Option Value) (x : Int32) (st : List Value) (h : xH) : xf 158 321 [l0, l1, l2] (.int x :: st) h = xf 158 322 [xcat l0, some (.int x), l2] st h := xo_istore (k := 1) (by decide +kernel) (Nat.le_of_ble_eq_true rfl) rfl
set_option maxRecDepth 20000 in
theorem u_X8_digest_322 (l0 l2 : Option Value) (x : Int32) (st : List Value) (h : xH) : xf 158 322 [l0, some (.int x), l2] st h = xf 158 323 [l0, some (.int x), l2] (.int x :: st) h := xo_iload (k := 1) (by decide +kernel) rfl
set_option maxRecDepth 20000 in
theorem u_X8_digest_323 (l1 l2 : Option Value) (x : Nat) (st : List Value) (h : xH) : xf 158 323 [some (.ref x), l1, l2] st h = xf 158 324 [some (.ref x), l1, l2] (.ref x :: st) h := xo_aload (k := 0) (by decide +kernel) rfl
set_option maxRecDepth 20000 in
theorem u_X8_digest_324 (L : xL) (a : Nat) (st : List Value) (h : xH) (hc : (xob h a).1 = 8) : xf 158 324 L (.ref a :: st) h = xf 158 327 L ((xob h a).2.getD 6 .null :: st) h := xo_getf (r := 518) (by decide +kernel) (by decide) hc
set_option maxRecDepth 20000 in
theorem u_X8_digest_327 (L : xL) (a b : Int32) (st : List Value) (h : xH) : xf 158 327 L (.int b :: .int a :: st) h = if a < b then xf 158 330 L st h else xf 158 347 L st h := xo_icmp_ge (t := 347) (by decide +kernel) rfl
set_option maxRecDepth 20000 in
theorem u_X8_digest_330 (l1 l2 : Option Value) (x : Nat) (st : List Value) (h : xH) : xf 158 330 [some (.ref x), l1, l2] st h = xf 158 331 [some (.ref x), l1, l2] (.ref x :: st) h := xo_aload (k := 0) (by decide +kernel) rfl
set_option maxRecDepth 20000 in
theorem u_X8_digest_331 (l1 l2 : Option Value) (x : Nat) (st : List Value) (h : xH) : xf 158 331 [some (.ref x), l1, l2] st h = xf 158 332 [some (.ref x), l1, l2] (.ref x :: st) h := xo_aload (k := 0) (by decide +kernel) rfl
set_option maxRecDepth 20000 in
theorem u_X8_digest_332 (L : xL) (a : Nat) (st : List Value) (h : xH) (hc : (xob h a).1 = 8) : xf 158 332 L (.ref a :: st) h = xf 158 335 L ((xob h a).2.getD 5 .null :: st) h := xo_getf (r := 517) (by decide +kernel) (by decide) hc
set_option maxRecDepth 20000 in
theorem u_X8_digest_335 (l0 l2 : Option Value) (x : Int32) (st : List Value) (h : xH) : xf 158 335 [l0, some (.int x), l2] st h = xf 158 336 [l0, some (.int x), l2] (.int x :: st) h := xo_iload (k := 1) (by decide +kernel) rfl
set_option maxRecDepth 20000 in
theorem u_X8_digest_336 (L : xL) (i : Int32) (a : Nat) (st : List Value) (h : xH) (hx : xix i (xai h a).1) : xf 158 336 L (.int i :: .ref a :: st) h = xf 158 337 L (.int ((xai h a).2 i.toNatClampNeg) :: st) h := xo_iaload (by decide +kernel) hx
set_option maxRecDepth 20000 in
theorem u_X8_digest_337 (L : xL) (a : Int32) (st : List Value) (h : xH) : xf 158 337 L (.int a :: st) h = xf 158 338 L (.long a.toInt64 :: st) h := xo_i2l (by decide +kernel)
set_option maxRecDepth 20000 in
theorem u_X8_digest_338 (L : xL) (v0 : Int64) (b : Nat) (st : List Value) (h : xH) (hb : (xob h b).1 = 8) (hl : st.length ≤ 4) : xf 158 338 L (.long v0 :: .ref b :: st) h = xgo 158 338 341 L st (xev 157 [.ref b, .long v0] h) := xo_callV (as := [.long v0]) (by decide +kernel) rfl ⟨(by decide +kernel : xna 157 = 1), Nat.le_of_ble_eq_true rfl, rfl, by decide⟩ hb hl
set_option maxRecDepth 20000 in
theorem u_X8_digest_341 (l0 l2 : Option Value) (x : Int32) (st : List Value) (h : xH) : xf 158 341 [l0, some (.int x), l2] st h = xf 158 344 [xcat l0, some (.int (x + 1)), l2] st h := xo_iinc (k := 1) (c := 1) (by decide +kernel) rfl (by decide) rfl
set_option maxRecDepth 20000 in
theorem u_X8_digest_344 (L : xL) (st : List Value) (h : xH) : xf 158 344 L st h = xf 158 322 L st h := xo_goto (n := 347) (t := 322) (by decide +kernel) rfl
set_option maxRecDepth 20000 in
theorem u_X8_digest_347 (l1 l2 : Option Value) (x : Nat) (st : List Value) (h : xH) : xf 158 347 [some (.ref x), l1, l2] st h = xf 158 348 [some (.ref x), l1, l2] (.ref x :: st) h := xo_aload (k := 0) (by decide +kernel) rfl
set_option maxRecDepth 20000 in
theorem u_X8_digest_348 (L : xL) (a : Nat) (st : List Value) (h : xH) (hc : (xob h a).1 = 8) : xf 158 348 L (.ref a :: st) h = xf 158 351 L ((xob h a).2.getD 19 .null :: st) h := xo_getf (r := 531) (by decide +kernel) (by decide) hc
set_option maxRecDepth 20000 in
theorem u_X8_digest_351 (L : xL) (x : Int64) (h : xH) : xf 158 351 L [.long x] h = some (.inl (some (.long x)), h) := xo_lreturn (n := 352) (by decide +kernel) rfl
set_option maxRecDepth 20000 in
theorem e_X8_digest (v0 : Nat) (h : xH) : xev 158 [.ref v0] h = xf 158 0 [some (.ref v0), none, none] [] h := rfl
