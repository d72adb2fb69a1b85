/-! Instructions as equations: written by gen_u.py. -/
set_option maxRecDepth 20000 in
theorem u_X0_init_0 (x : Nat) (st : List Value) (h : xH) : xf 0 0 [some (.ref x)] st h = xf 0 1 [some (.ref x)] (.ref x :: st) h := xo_aload (k := 0) (by decide +kernel) rfl
set_option maxRecDepth 20000 in
theorem u_X0_init_1 (L : xL) (a : Nat) (st : List Value) (h : xH) (hl : st.length ≤ 4) : xf 0 1 L (.ref a :: st) h = xf 0 4 L st h := xo_objinit (by decide +kernel) hl
set_option maxRecDepth 20000 in
theorem u_X0_init_4 (x : Nat) (st : List Value) (h : xH) : xf 0 4 [some (.ref x)] st h = xf 0 5 [some (.ref x)] (.ref x :: st) h := xo_aload (k := 0) (by decide +kernel) rfl
set_option maxRecDepth 20000 in
theorem u_X0_init_5 (L : xL) (st : List Value) (h : xH) (hn : h.2.1 ≠ 0) : xf 0 5 L st h = xf 0 8 L (.ref h.2.1 :: st) (xnew h (.inr (1, xdef 1)) 1) := xo_new (c := 1) (by decide +kernel) (by decide) hn
set_option maxRecDepth 20000 in
theorem u_X0_init_8 (L : xL) (a : Nat) (st : List Value) (h : xH) : xf 0 8 L (.ref a :: st) h = xf 0 9 L (.ref a :: .ref a :: st) h := xo_dupR (by decide +kernel)
set_option maxRecDepth 20000 in
theorem u_X0_init_9 (L : xL) (st : List Value) (h : xH) : xf 0 9 L st h = xf 0 11 L (.int 60 :: st) h := xo_iconst (k := 60) (by decide +kernel) (by decide)
set_option maxRecDepth 20000 in
theorem u_X0_init_11 (L : xL) (v0 : Int32) (b : Nat) (st : List Value) (h : xH) (hl : st.length ≤ 4) : xf 0 11 L (.int v0 :: .ref b :: st) h = xgoI 0 11 14 L st (xev 11 [.ref b, .int v0] h) := xo_callI (as := [.int v0]) (by decide +kernel) rfl ⟨(by decide +kernel : xna 11 = 1), Nat.le_of_ble_eq_true rfl, by decide⟩ hl
set_option maxRecDepth 20000 in
theorem u_X0_init_14 (L : xL) (v : Nat) (a : Nat) (st : List Value) (h : xH) (hc : (xob h a).1 = 0) : xf 0 14 L (.ref v :: .ref a :: st) h = xf 0 17 L st (xso h a 0 (.ref v)) := xo_putf (r := 0) (by decide +kernel) (by decide) rfl hc
set_option maxRecDepth 20000 in
theorem u_X0_init_17 (L : xL) (h : xH) : xf 0 17 L [] h = some (.inl none, h) := xo_return (n := 18) (by decide +kernel) rfl
set_option maxRecDepth 20000 in
theorem e_X0_init (v0 : Nat) (h : xH) : xev 0 [.ref v0] h = xf 0 0 [some (.ref v0)] [] h := rfl
set_option maxRecDepth 20000 in
theorem u_X0_at_0 (l0 : Option Value) (x : Int32) (st : List Value) (h : xH) : xf 1 0 [l0, some (.int x)] st h = xf 1 1 [l0, some (.int x)] (.int x :: st) h := xo_iload (k := 1) (by decide +kernel) rfl
set_option maxRecDepth 20000 in
theorem u_X0_at_1 (l1 : Option Value) (x : Nat) (st : List Value) (h : xH) : xf 1 1 [some (.ref x), l1] st h = xf 1 2 [some (.ref x), l1] (.ref x :: st) h := xo_aload (k := 0) (by decide +kernel) rfl
set_option maxRecDepth 20000 in
theorem u_X0_at_2 (L : xL) (a : Nat) (st : List Value) (h : xH) (hc : (xob h a).1 = 0) : xf 1 2 L (.ref a :: st) h = xf 1 5 L ((xob h a).2.getD 1 .null :: st) h := xo_getf (r := 1) (by decide +kernel) (by decide) hc
set_option maxRecDepth 20000 in
theorem u_X0_at_5 (L : xL) (a b : Int32) (st : List Value) (h : xH) : xf 1 5 L (.int b :: .int a :: st) h = if a < b then xf 1 8 L st h else xf 1 19 L st h := xo_icmp_ge (t := 19) (by decide +kernel) rfl
set_option maxRecDepth 20000 in
theorem u_X0_at_8 (l1 : Option Value) (x : Nat) (st : List Value) (h : xH) : xf 1 8 [some (.ref x), l1] st h = xf 1 9 [some (.ref x), l1] (.ref x :: st) h := xo_aload (k := 0) (by decide +kernel) rfl
set_option maxRecDepth 20000 in
theorem u_X0_at_9 (L : xL) (a : Nat) (st : List Value) (h : xH) (hc : (xob h a).1 = 0) : xf 1 9 L (.ref a :: st) h = xf 1 12 L ((xob h a).2.getD 0 .null :: st) h := xo_getf (r := 0) (by decide +kernel) (by decide) hc
set_option maxRecDepth 20000 in
theorem u_X0_at_12 (l0 : Option Value) (x : Int32) (st : List Value) (h : xH) : xf 1 12 [l0, some (.int x)] st h = xf 1 13 [l0, some (.int x)] (.int x :: st) h := xo_iload (k := 1) (by decide +kernel) rfl
set_option maxRecDepth 20000 in
theorem u_X0_at_13 (L : xL) (v0 : Int32) (b : Nat) (st : List Value) (h : xH) (hb : (xob h b).1 = 1) (hl : st.length ≤ 4) : xf 1 13 L (.int v0 :: .ref b :: st) h = xgo 1 13 16 L st (xev 12 [.ref b, .int v0] h) := xo_callV (as := [.int v0]) (by decide +kernel) rfl ⟨(by decide +kernel : xna 12 = 1), Nat.le_of_ble_eq_true rfl, rfl, by decide⟩ hb hl
set_option maxRecDepth 20000 in
theorem u_X0_at_16 (L : xL) (st : List Value) (h : xH) : xf 1 16 L st h = xf 1 20 L st h := xo_goto (n := 19) (t := 20) (by decide +kernel) rfl
set_option maxRecDepth 20000 in
theorem u_X0_at_19 (L : xL) (st : List Value) (h : xH) : xf 1 19 L st h = xf 1 20 L (.int (-1) :: st) h := xo_iconst (k := (-1)) (by decide +kernel) (by decide)
set_option maxRecDepth 20000 in
theorem u_X0_at_20 (L : xL) (x : Int32) (h : xH) : xf 1 20 L [.int x] h = some (.inl (some (.int x)), h) := xo_ireturn (n := 21) (by decide +kernel) rfl
set_option maxRecDepth 20000 in
theorem e_X0_at (v0 : Nat) (v1 : Int32) (h : xH) : xev 1 [.ref v0, .int v1] h = xf 1 0 [some (.ref v0), some (.int v1)] [] h := rfl
set_option maxRecDepth 20000 in
theorem u_X0_push_0 (l1 : Option Value) (x : Nat) (st : List Value) (h : xH) : xf 2 0 [some (.ref x), l1] st h = xf 2 1 [some (.ref x), l1] (.ref x :: st) h := xo_aload (k := 0) (by decide +kernel) rfl
set_option maxRecDepth 20000 in
theorem u_X0_push_1 (L : xL) (a : Nat) (st : List Value) (h : xH) (hc : (xob h a).1 = 0) : xf 2 1 L (.ref a :: st) h = xf 2 4 L ((xob h a).2.getD 1 .null :: st) h := xo_getf (r := 1) (by decide +kernel) (by decide) hc
set_option maxRecDepth 20000 in
theorem u_X0_push_4 (L : xL) (st : List Value) (h : xH) : xf 2 4 L st h = xf 2 6 L (.int 60 :: st) h := xo_iconst (k := 60) (by decide +kernel) (by decide)
set_option maxRecDepth 20000 in
theorem u_X0_push_6 (L : xL) (a b : Int32) (st : List Value) (h : xH) : xf 2 6 L (.int b :: .int a :: st) h = if a < b then xf 2 9 L st h else xf 2 31 L st h := xo_icmp_ge (t := 31) (by decide +kernel) rfl
set_option maxRecDepth 20000 in
theorem u_X0_push_9 (l1 : Option Value) (x : Nat) (st : List Value) (h : xH) : xf 2 9 [some (.ref x), l1] st h = xf 2 10 [some (.ref x), l1] (.ref x :: st) h := xo_aload (k := 0) (by decide +kernel) rfl
set_option maxRecDepth 20000 in
theorem u_X0_push_10 (L : xL) (a : Nat) (st : List Value) (h : xH) (hc : (xob h a).1 = 0) : xf 2 10 L (.ref a :: st) h = xf 2 13 L ((xob h a).2.getD 0 .null :: st) h := xo_getf (r := 0) (by decide +kernel) (by decide) hc
set_option maxRecDepth 20000 in
theorem u_X0_push_13 (l1 : Option Value) (x : Nat) (st : List Value) (h : xH) : xf 2 13 [some (.ref x), l1] st h = xf 2 14 [some (.ref x), l1] (.ref x :: st) h := xo_aload (k := 0) (by decide +kernel) rfl
set_option maxRecDepth 20000 in
theorem u_X0_push_14 (L : xL) (a : Nat) (st : List Value) (h : xH) (hc : (xob h a).1 = 0) : xf 2 14 L (.ref a :: st) h = xf 2 17 L ((xob h a).2.getD 1 .null :: st) h := xo_getf (r := 1) (by decide +kernel) (by decide) hc
set_option maxRecDepth 20000 in
theorem u_X0_push_17 (l0 : Option Value) (x : Int32) (st : List Value) (h : xH) : xf 2 17 [l0, some (.int x)] st h = xf 2 18 [l0, some (.int x)] (.int x :: st) h := xo_iload (k := 1) (by decide +kernel) rfl
set_option maxRecDepth 20000 in
theorem u_X0_push_18 (L : xL) (v0 : Int32) (v1 : Int32) (b : Nat) (st : List Value) (h : xH) (hb : (xob h b).1 = 1) (hl : st.length ≤ 4) : xf 2 18 L (.int v1 :: .int v0 :: .ref b :: st) h = xgo 2 18 21 L st (xev 13 [.ref b, .int v0, .int v1] h) := xo_callV (as := [.int v0, .int v1]) (by decide +kernel) rfl ⟨(by decide +kernel : xna 13 = 2), Nat.le_of_ble_eq_true rfl, rfl, by decide⟩ hb hl
set_option maxRecDepth 20000 in
theorem u_X0_push_21 (l1 : Option Value) (x : Nat) (st : List Value) (h : xH) : xf 2 21 [some (.ref x), l1] st h = xf 2 22 [some (.ref x), l1] (.ref x :: st) h := xo_aload (k := 0) (by decide +kernel) rfl
set_option maxRecDepth 20000 in
theorem u_X0_push_22 (L : xL) (a : Nat) (st : List Value) (h : xH) : xf 2 22 L (.ref a :: st) h = xf 2 23 L (.ref a :: .ref a :: st) h := xo_dupR (by decide +kernel)
set_option maxRecDepth 20000 in
theorem u_X0_push_23 (L : xL) (a : Nat) (st : List Value) (h : xH) (hc : (xob h a).1 = 0) : xf 2 23 L (.ref a :: st) h = xf 2 26 L ((xob h a).2.getD 1 .null :: st) h := xo_getf (r := 1) (by decide +kernel) (by decide) hc
set_option maxRecDepth 20000 in
theorem u_X0_push_26 (L : xL) (st : List Value) (h : xH) : xf 2 26 L st h = xf 2 27 L (.int 1 :: st) h := xo_iconst (k := 1) (by decide +kernel) (by decide)
set_option maxRecDepth 20000 in
theorem u_X0_push_27 (L : xL) (a b : Int32) (st : List Value) (h : xH) : xf 2 27 L (.int b :: .int a :: st) h = xf 2 28 L (.int (a + b) :: st) h := xo_iadd (by decide +kernel)
set_option maxRecDepth 20000 in
theorem u_X0_push_28 (L : xL) (v : Int32) (a : Nat) (st : List Value) (h : xH) (hc : (xob h a).1 = 0) : xf 2 28 L (.int v :: .ref a :: st) h = xf 2 31 L st (xso h a 1 (.int v)) := xo_putf (r := 1) (by decide +kernel) (by decide) rfl hc
set_option maxRecDepth 20000 in
theorem u_X0_push_31 (L : xL) (h : xH) : xf 2 31 L [] h = some (.inl none, h) := xo_return (n := 32) (by decide +kernel) rfl
set_option maxRecDepth 20000 in
theorem e_X0_push (v0 : Nat) (v1 : Int32) (h : xH) : xev 2 [.ref v0, .int v1] h = xf 2 0 [some (.ref v0), some (.int v1)] [] h := rfl
set_option maxRecDepth 20000 in
theorem u_X0_empty_0 (x : Nat) (st : List Value) (h : xH) : xf 3 0 [some (.ref x)] st h = xf 3 1 [some (.ref x)] (.ref x :: st) h := xo_aload (k := 0) (by decide +kernel) rfl
set_option maxRecDepth 20000 in
theorem u_X0_empty_1 (L : xL) (st : List Value) (h : xH) : xf 3 1 L st h = xf 3 2 L (.int 0 :: st) h := xo_iconst (k := 0) (by decide +kernel) (by decide)
set_option maxRecDepth 20000 in
theorem u_X0_empty_2 (L : xL) (v : Int32) (a : Nat) (st : List Value) (h : xH) (hc : (xob h a).1 = 0) : xf 3 2 L (.int v :: .ref a :: st) h = xf 3 5 L st (xso h a 1 (.int v)) := xo_putf (r := 1) (by decide +kernel) (by decide) rfl hc
set_option maxRecDepth 20000 in
theorem u_X0_empty_5 (L : xL) (h : xH) : xf 3 5 L [] h = some (.inl none, h) := xo_return (n := 6) (by decide +kernel) rfl
set_option maxRecDepth 20000 in
theorem e_X0_empty (v0 : Nat) (h : xH) : xev 3 [.ref v0] h = xf 3 0 [some (.ref v0)] [] h := rfl
set_option maxRecDepth 20000 in
theorem u_X0_isLetter_0 (l1 : Option Value) (x : Nat) (st : List Value) (h : xH) : xf 4 0 [some (.ref x), l1] st h = xf 4 1 [some (.ref x), l1] (.ref x :: st) h := xo_aload (k := 0) (by decide +kernel) rfl
set_option maxRecDepth 20000 in
theorem u_X0_isLetter_1 (l0 : Option Value) (x : Int32) (st : List Value) (h : xH) : xf 4 1 [l0, some (.int x)] st h = xf 4 2 [l0, some (.int x)] (.int x :: st) h := xo_iload (k := 1) (by decide +kernel) rfl
set_option maxRecDepth 20000 in
theorem u_X0_isLetter_2 (L : xL) (v0 : Int32) (b : Nat) (st : List Value) (h : xH) (hb : (xob h b).1 = 0) (hl : st.length ≤ 4) : xf 4 2 L (.int v0 :: .ref b :: st) h = xgo 4 2 5 L st (xev 1 [.ref b, .int v0] h) := xo_callV (as := [.int v0]) (by decide +kernel) rfl ⟨(by decide +kernel : xna 1 = 1), Nat.le_of_ble_eq_true rfl, rfl, by decide⟩ hb hl
set_option maxRecDepth 20000 in
theorem u_X0_isLetter_5 (L : xL) (st : List Value) (h : xH) : xf 4 5 L st h = xf 4 7 L (.int 97 :: st) h := xo_iconst (k := 97) (by decide +kernel) (by decide)
set_option maxRecDepth 20000 in
theorem u_X0_isLetter_7 (L : xL) (a b : Int32) (st : List Value) (h : xH) : xf 4 7 L (.int b :: .int a :: st) h = if a < b then xf 4 24 L st h else xf 4 10 L st h := xo_icmp_lt (t := 24) (by decide +kernel) rfl
set_option maxRecDepth 20000 in
theorem u_X0_isLetter_10 (l1 : Option Value) (x : Nat) (st : List Value) (h : xH) : xf 4 10 [some (.ref x), l1] st h = xf 4 11 [some (.ref x), l1] (.ref x :: st) h := xo_aload (k := 0) (by decide +kernel) rfl
set_option maxRecDepth 20000 in
theorem u_X0_isLetter_11 (l0 : Option Value) (x : Int32) (st : List Value) (h : xH) : xf 4 11 [l0, some (.int x)] st h = xf 4 12 [l0, some (.int x)] (.int x :: st) h := xo_iload (k := 1) (by decide +kernel) rfl
set_option maxRecDepth 20000 in
theorem u_X0_isLetter_12 (L : xL) (v0 : Int32) (b : Nat) (st : List Value) (h : xH) (hb : (xob h b).1 = 0) (hl : st.length ≤ 4) : xf 4 12 L (.int v0 :: .ref b :: st) h = xgo 4 12 15 L st (xev 1 [.ref b, .int v0] h) := xo_callV (as := [.int v0]) (by decide +kernel) rfl ⟨(by decide +kernel : xna 1 = 1), Nat.le_of_ble_eq_true rfl, rfl, by decide⟩ hb hl
set_option maxRecDepth 20000 in
theorem u_X0_isLetter_15 (L : xL) (st : List Value) (h : xH) : xf 4 15 L st h = xf 4 17 L (.int 104 :: st) h := xo_iconst (k := 104) (by decide +kernel) (by decide)
set_option maxRecDepth 20000 in
theorem u_X0_isLetter_17 (L : xL) (a b : Int32) (st : List Value) (h : xH) : xf 4 17 L (.int b :: .int a :: st) h = if b < a then xf 4 24 L st h else xf 4 20 L st h := xo_icmp_gt (t := 24) (by decide +kernel) rfl
set_option maxRecDepth 20000 in
theorem u_X0_isLetter_20 (L : xL) (st : List Value) (h : xH) : xf 4 20 L st h = xf 4 21 L (.int 1 :: st) h := xo_iconst (k := 1) (by decide +kernel) (by decide)
set_option maxRecDepth 20000 in
theorem u_X0_isLetter_21 (L : xL) (st : List Value) (h : xH) : xf 4 21 L st h = xf 4 25 L st h := xo_goto (n := 24) (t := 25) (by decide +kernel) rfl
set_option maxRecDepth 20000 in
theorem u_X0_isLetter_24 (L : xL) (st : List Value) (h : xH) : xf 4 24 L st h = xf 4 25 L (.int 0 :: st) h := xo_iconst (k := 0) (by decide +kernel) (by decide)
set_option maxRecDepth 20000 in
theorem u_X0_isLetter_25 (L : xL) (x : Int32) (h : xH) (hv : x = 0 ∨ x = 1) : xf 4 25 L [.int x] h = some (.inl (some (.int x)), h) := xo_ireturn (n := 26) (by decide +kernel) (by rcases hv with rfl | rfl <;> rfl)
set_option maxRecDepth 20000 in
theorem e_X0_isLetter (v0 : Nat) (v1 : Int32) (h : xH) : xev 4 [.ref v0, .int v1] h = xf 4 0 [some (.ref v0), some (.int v1)] [] h := rfl
set_option maxRecDepth 20000 in
theorem u_X0_isNumber_0 (l1 : Option Value) (x : Nat) (st : List Value) (h : xH) : xf 5 0 [some (.ref x), l1] st h = xf 5 1 [some (.ref x), l1] (.ref x :: st) h := xo_aload (k := 0) (by decide +kernel) rfl
set_option maxRecDepth 20000 in
theorem u_X0_isNumber_1 (l0 : Option Value) (x : Int32) (st : List Value) (h : xH) : xf 5 1 [l0, some (.int x)] st h = xf 5 2 [l0, some (.int x)] (.int x :: st) h := xo_iload (k := 1) (by decide +kernel) rfl
set_option maxRecDepth 20000 in
theorem u_X0_isNumber_2 (L : xL) (v0 : Int32) (b : Nat) (st : List Value) (h : xH) (hb : (xob h b).1 = 0) (hl : st.length ≤ 4) : xf 5 2 L (.int v0 :: .ref b :: st) h = xgo 5 2 5 L st (xev 1 [.ref b, .int v0] h) := xo_callV (as := [.int v0]) (by decide +kernel) rfl ⟨(by decide +kernel : xna 1 = 1), Nat.le_of_ble_eq_true rfl, rfl, by decide⟩ hb hl
set_option maxRecDepth 20000 in
theorem u_X0_isNumber_5 (L : xL) (st : List Value) (h : xH) : xf 5 5 L st h = xf 5 7 L (.int 50 :: st) h := xo_iconst (k := 50) (by decide +kernel) (by decide)
set_option maxRecDepth 20000 in
theorem u_X0_isNumber_7 (L : xL) (a b : Int32) (st : List Value) (h : xH) : xf 5 7 L (.int b :: .int a :: st) h = if a < b then xf 5 24 L st h else xf 5 10 L st h := xo_icmp_lt (t := 24) (by decide +kernel) rfl
set_option maxRecDepth 20000 in
theorem u_X0_isNumber_10 (l1 : Option Value) (x : Nat) (st : List Value) (h : xH) : xf 5 10 [some (.ref x), l1] st h = xf 5 11 [some (.ref x), l1] (.ref x :: st) h := xo_aload (k := 0) (by decide +kernel) rfl
set_option maxRecDepth 20000 in
theorem u_X0_isNumber_11 (l0 : Option Value) (x : Int32) (st : List Value) (h : xH) : xf 5 11 [l0, some (.int x)] st h = xf 5 12 [l0, some (.int x)] (.int x :: st) h := xo_iload (k := 1) (by decide +kernel) rfl
set_option maxRecDepth 20000 in
theorem u_X0_isNumber_12 (L : xL) (v0 : Int32) (b : Nat) (st : List Value) (h : xH) (hb : (xob h b).1 = 0) (hl : st.length ≤ 4) : xf 5 12 L (.int v0 :: .ref b :: st) h = xgo 5 12 15 L st (xev 1 [.ref b, .int v0] h) := xo_callV (as := [.int v0]) (by decide +kernel) rfl ⟨(by decide +kernel : xna 1 = 1), Nat.le_of_ble_eq_true rfl, rfl, by decide⟩ hb hl
set_option maxRecDepth 20000 in
theorem u_X0_isNumber_15 (L : xL) (st : List Value) (h : xH) : xf 5 15 L st h = xf 5 17 L (.int 57 :: st) h := xo_iconst (k := 57) (by decide +kernel) (by decide)
set_option maxRecDepth 20000 in
theorem u_X0_isNumber_17 (L : xL) (a b : Int32) (st : List Value) (h : xH) : xf 5 17 L (.int b :: .int a :: st) h = if b < a then xf 5 24 L st h else xf 5 20 L st h := xo_icmp_gt (t := 24) (by decide +kernel) rfl
set_option maxRecDepth 20000 in
theorem u_X0_isNumber_20 (L : xL) (st : List Value) (h : xH) : xf 5 20 L st h = xf 5 21 L (.int 1 :: st) h := xo_iconst (k := 1) (by decide +kernel) (by decide)
set_option maxRecDepth 20000 in
theorem u_X0_isNumber_21 (L : xL) (st : List Value) (h : xH) : xf 5 21 L st h = xf 5 25 L st h := xo_goto (n := 24) (t := 25) (by decide +kernel) rfl
set_option maxRecDepth 20000 in
theorem u_X0_isNumber_24 (L : xL) (st : List Value) (h : xH) : xf 5 24 L st h = xf 5 25 L (.int 0 :: st) h := xo_iconst (k := 0) (by decide +kernel) (by decide)
set_option maxRecDepth 20000 in
theorem u_X0_isNumber_25 (L : xL) (x : Int32) (h : xH) (hv : x = 0 ∨ x = 1) : xf 5 25 L [.int x] h = some (.inl (some (.int x)), h) := xo_ireturn (n := 26) (by decide +kernel) (by rcases hv with rfl | rfl <;> rfl)
set_option maxRecDepth 20000 in
theorem e_X0_isNumber (v0 : Nat) (v1 : Int32) (h : xH) : xev 5 [.ref v0, .int v1] h = xf 5 0 [some (.ref v0), some (.int v1)] [] h := rfl
set_option maxRecDepth 20000 in
theorem u_X0_firstWrong_0 (L : xL) (st : List Value) (h : xH) : xf 6 0 L st h = xf 6 1 L (.int 0 :: st) h := xo_iconst (k := 0) (by decide +kernel) (by decide)
set_option maxRecDepth 20000 in
theorem u_X0_firstWrong_1 (l0 l1 : Option Value) (x : Int32) (st : List Value) (h : xH) : xf 6 1 [l0, l1] (.int x :: st) h = xf 6 2 [xcat l0, some (.int x)] st h := xo_istore (k := 1) (by decide +kernel) (Nat.le_of_ble_eq_true rfl) rfl
set_option maxRecDepth 20000 in
theorem u_X0_firstWrong_2 (l0 : Option Value) (x : Int32) (st : List Value) (h : xH) : xf 6 2 [l0, some (.int x)] st h = xf 6 3 [l0, some (.int x)] (.int x :: st) h := xo_iload (k := 1) (by decide +kernel) rfl
set_option maxRecDepth 20000 in
theorem u_X0_firstWrong_3 (l1 : Option Value) (x : Nat) (st : List Value) (h : xH) : xf 6 3 [some (.ref x), l1] st h = xf 6 4 [some (.ref x), l1] (.ref x :: st) h := xo_aload (k := 0) (by decide +kernel) rfl
set_option maxRecDepth 20000 in
theorem u_X0_firstWrong_4 (L : xL) (a : Nat) (st : List Value) (h : xH) (hc : (xob h a).1 = 0) : xf 6 4 L (.ref a :: st) h = xf 6 7 L ((xob h a).2.getD 1 .null :: st) h := xo_getf (r := 1) (by decide +kernel) (by decide) hc
set_option maxRecDepth 20000 in
theorem u_X0_firstWrong_7 (L : xL) (a b : Int32) (st : List Value) (h : xH) : xf 6 7 L (.int b :: .int a :: st) h = if a < b then xf 6 10 L st h else xf 6 44 L st h := xo_icmp_ge (t := 44) (by decide +kernel) rfl
set_option maxRecDepth 20000 in
theorem u_X0_firstWrong_10 (l1 : Option Value) (x : Nat) (st : List Value) (h : xH) : xf 6 10 [some (.ref x), l1] st h = xf 6 11 [some (.ref x), l1] (.ref x :: st) h := xo_aload (k := 0) (by decide +kernel) rfl
set_option maxRecDepth 20000 in
theorem u_X0_firstWrong_11 (l0 : Option Value) (x : Int32) (st : List Value) (h : xH) : xf 6 11 [l0, some (.int x)] st h = xf 6 12 [l0, some (.int x)] (.int x :: st) h := xo_iload (k := 1) (by decide +kernel) rfl
set_option maxRecDepth 20000 in
theorem u_X0_firstWrong_12 (L : xL) (v0 : Int32) (b : Nat) (st : List Value) (h : xH) (hb : (xob h b).1 = 0) (hl : st.length ≤ 4) : xf 6 12 L (.int v0 :: .ref b :: st) h = xgo 6 12 15 L st (xev 4 [.ref b, .int v0] h) := xo_callV (as := [.int v0]) (by decide +kernel) rfl ⟨(by decide +kernel : xna 4 = 1), Nat.le_of_ble_eq_true rfl, rfl, by decide⟩ hb hl
set_option maxRecDepth 20000 in
theorem u_X0_firstWrong_15 (L : xL) (a : Int32) (st : List Value) (h : xH) : xf 6 15 L (.int a :: st) h = if a = 0 then xf 6 18 L st h else xf 6 38 L st h := xo_if_ne (t := 38) (by decide +kernel) rfl
set_option maxRecDepth 20000 in
theorem u_X0_firstWrong_18 (l1 : Option Value) (x : Nat) (st : List Value) (h : xH) : xf 6 18 [some (.ref x), l1] st h = xf 6 19 [some (.ref x), l1] (.ref x :: st) h := xo_aload (k := 0) (by decide +kernel) rfl
set_option maxRecDepth 20000 in
theorem u_X0_firstWrong_19 (l0 : Option Value) (x : Int32) (st : List Value) (h : xH) : xf 6 19 [l0, some (.int x)] st h = xf 6 20 [l0, some (.int x)] (.int x :: st) h := xo_iload (k := 1) (by decide +kernel) rfl
set_option maxRecDepth 20000 in
theorem u_X0_firstWrong_20 (L : xL) (v0 : Int32) (b : Nat) (st : List Value) (h : xH) (hb : (xob h b).1 = 0) (hl : st.length ≤ 4) : xf 6 20 L (.int v0 :: .ref b :: st) h = xgo 6 20 23 L st (xev 5 [.ref b, .int v0] h) := xo_callV (as := [.int v0]) (by decide +kernel) rfl ⟨(by decide +kernel : xna 5 = 1), Nat.le_of_ble_eq_true rfl, rfl, by decide⟩ hb hl
set_option maxRecDepth 20000 in
theorem u_X0_firstWrong_23 (L : xL) (a : Int32) (st : List Value) (h : xH) : xf 6 23 L (.int a :: st) h = if a = 0 then xf 6 36 L st h else xf 6 26 L st h := xo_if_eq (t := 36) (by decide +kernel) rfl
set_option maxRecDepth 20000 in
theorem u_X0_firstWrong_26 (l1 : Option Value) (x : Nat) (st : List Value) (h : xH) : xf 6 26 [some (.ref x), l1] st h = xf 6 27 [some (.ref x), l1] (.ref x :: st) h := xo_aload (k := 0) (by decide +kernel) rfl
set_option maxRecDepth 20000 in
theorem u_X0_firstWrong_27 (l0 : Option Value) (x : Int32) (st : List Value) (h : xH) : xf 6 27 [l0, some (.int x)] st h = xf 6 28 [l0, some (.int x)] (.int x :: st) h := xo_iload (k := 1) (by decide +kernel) rfl
set_option maxRecDepth 20000 in
theorem u_X0_firstWrong_28 (L : xL) (st : List Value) (h : xH) : xf 6 28 L st h = xf 6 29 L (.int 1 :: st) h := xo_iconst (k := 1) (by decide +kernel) (by decide)
set_option maxRecDepth 20000 in
theorem u_X0_firstWrong_29 (L : xL) (a b : Int32) (st : List Value) (h : xH) : xf 6 29 L (.int b :: .int a :: st) h = xf 6 30 L (.int (a - b) :: st) h := xo_isub (by decide +kernel)
set_option maxRecDepth 20000 in
theorem u_X0_firstWrong_30 (L : xL) (v0 : Int32) (b : Nat) (st : List Value) (h : xH) (hb : (xob h b).1 = 0) (hl : st.length ≤ 4) : xf 6 30 L (.int v0 :: .ref b :: st) h = xgo 6 30 33 L st (xev 4 [.ref b, .int v0] h) := xo_callV (as := [.int v0]) (by decide +kernel) rfl ⟨(by decide +kernel : xna 4 = 1), Nat.le_of_ble_eq_true rfl, rfl, by decide⟩ hb hl
set_option maxRecDepth 20000 in
theorem u_X0_firstWrong_33 (L : xL) (a : Int32) (st : List Value) (h : xH) : xf 6 33 L (.int a :: st) h = if a = 0 then xf 6 36 L st h else xf 6 38 L st h := xo_if_ne (t := 38) (by decide +kernel) rfl
set_option maxRecDepth 20000 in
theorem u_X0_firstWrong_36 (l0 : Option Value) (x : Int32) (st : List Value) (h : xH) : xf 6 36 [l0, some (.int x)] st h = xf 6 37 [l0, some (.int x)] (.int x :: st) h := xo_iload (k := 1) (by decide +kernel) rfl
set_option maxRecDepth 20000 in
theorem u_X0_firstWrong_37 (L : xL) (x : Int32) (h : xH) : xf 6 37 L [.int x] h = some (.inl (some (.int x)), h) := xo_ireturn (n := 38) (by decide +kernel) rfl
set_option maxRecDepth 20000 in
theorem u_X0_firstWrong_38 (l0 : Option Value) (x : Int32) (st : List Value) (h : xH) : xf 6 38 [l0, some (.int x)] st h = xf 6 41 [xcat l0, some (.int (x + 1))] st h := xo_iinc (k := 1) (c := 1) (by decide +kernel) rfl (by decide) rfl
set_option maxRecDepth 20000 in
theorem u_X0_firstWrong_41 (L : xL) (st : List Value) (h : xH) : xf 6 41 L st h = xf 6 2 L st h := xo_goto (n := 44) (t := 2) (by decide +kernel) rfl
set_option maxRecDepth 20000 in
theorem u_X0_firstWrong_44 (l1 : Option Value) (x : Nat) (st : List Value) (h : xH) : xf 6 44 [some (.ref x), l1] st h = xf 6 45 [some (.ref x), l1] (.ref x :: st) h := xo_aload (k := 0) (by decide +kernel) rfl
set_option maxRecDepth 20000 in
theorem u_X0_firstWrong_45 (L : xL) (a : Nat) (st : List Value) (h : xH) (hc : (xob h a).1 = 0) : xf 6 45 L (.ref a :: st) h = xf 6 48 L ((xob h a).2.getD 1 .null :: st) h := xo_getf (r := 1) (by decide +kernel) (by decide) hc
set_option maxRecDepth 20000 in
theorem u_X0_firstWrong_48 (L : xL) (x : Int32) (h : xH) : xf 6 48 L [.int x] h = some (.inl (some (.int x)), h) := xo_ireturn (n := 49) (by decide +kernel) rfl
set_option maxRecDepth 20000 in
theorem e_X0_firstWrong (v0 : Nat) (h : xH) : xev 6 [.ref v0] h = xf 6 0 [some (.ref v0), none] [] h := rfl
set_option maxRecDepth 20000 in
theorem u_X0_isText_0 (x : Nat) (st : List Value) (h : xH) : xf 7 0 [some (.ref x)] st h = xf 7 1 [some (.ref x)] (.ref x :: st) h := xo_aload (k := 0) (by decide +kernel) rfl
set_option maxRecDepth 20000 in
theorem u_X0_isText_1 (L : xL) (a : Nat) (st : List Value) (h : xH) (hc : (xob h a).1 = 0) : xf 7 1 L (.ref a :: st) h = xf 7 4 L ((xob h a).2.getD 1 .null :: st) h := xo_getf (r := 1) (by decide +kernel) (by decide) hc
set_option maxRecDepth 20000 in
theorem u_X0_isText_4 (L : xL) (a : Int32) (st : List Value) (h : xH) : xf 7 4 L (.int a :: st) h = if 0 < a then xf 7 7 L st h else xf 7 22 L st h := xo_if_le (t := 22) (by decide +kernel) rfl
set_option maxRecDepth 20000 in
theorem u_X0_isText_7 (x : Nat) (st : List Value) (h : xH) : xf 7 7 [some (.ref x)] st h = xf 7 8 [some (.ref x)] (.ref x :: st) h := xo_aload (k := 0) (by decide +kernel) rfl
set_option maxRecDepth 20000 in
theorem u_X0_isText_8 (L : xL) (b : Nat) (st : List Value) (h : xH) (hb : (xob h b).1 = 0) (hl : st.length ≤ 4) : xf 7 8 L (.ref b :: st) h = xgo 7 8 11 L st (xev 6 [.ref b] h) := xo_callV (as := []) (by decide +kernel) rfl ⟨(by decide +kernel : xna 6 = 0), Nat.le_of_ble_eq_true rfl, rfl, by decide⟩ hb hl
set_option maxRecDepth 20000 in
theorem u_X0_isText_11 (x : Nat) (st : List Value) (h : xH) : xf 7 11 [some (.ref x)] st h = xf 7 12 [some (.ref x)] (.ref x :: st) h := xo_aload (k := 0) (by decide +kernel) rfl
set_option maxRecDepth 20000 in
theorem u_X0_isText_12 (L : xL) (a : Nat) (st : List Value) (h : xH) (hc : (xob h a).1 = 0) : xf 7 12 L (.ref a :: st) h = xf 7 15 L ((xob h a).2.getD 1 .null :: st) h := xo_getf (r := 1) (by decide +kernel) (by decide) hc
set_option maxRecDepth 20000 in
theorem u_X0_isText_15 (L : xL) (a b : Int32) (st : List Value) (h : xH) : xf 7 15 L (.int b :: .int a :: st) h = if a = b then xf 7 18 L st h else xf 7 22 L st h := xo_icmp_ne (t := 22) (by decide +kernel) rfl
set_option maxRecDepth 20000 in
theorem u_X0_isText_18 (L : xL) (st : List Value) (h : xH) : xf 7 18 L st h = xf 7 19 L (.int 1 :: st) h := xo_iconst (k := 1) (by decide +kernel) (by decide)
set_option maxRecDepth 20000 in
theorem u_X0_isText_19 (L : xL) (st : List Value) (h : xH) : xf 7 19 L st h = xf 7 23 L st h := xo_goto (n := 22) (t := 23) (by decide +kernel) rfl
set_option maxRecDepth 20000 in
theorem u_X0_isText_22 (L : xL) (st : List Value) (h : xH) : xf 7 22 L st h = xf 7 23 L (.int 0 :: st) h := xo_iconst (k := 0) (by decide +kernel) (by decide)
set_option maxRecDepth 20000 in
theorem u_X0_isText_23 (L : xL) (x : Int32) (h : xH) (hv : x = 0 ∨ x = 1) : xf 7 23 L [.int x] h = some (.inl (some (.int x)), h) := xo_ireturn (n := 24) (by decide +kernel) (by rcases hv with rfl | rfl <;> rfl)
set_option maxRecDepth 20000 in
theorem e_X0_isText (v0 : Nat) (h : xH) : xev 7 [.ref v0] h = xf 7 0 [some (.ref v0)] [] h := rfl
set_option maxRecDepth 20000 in
theorem u_X0_timesAt_0 (l1 : Option Value) (x : Nat) (st : List Value) (h : xH) : xf 8 0 [some (.ref x), l1] st h = xf 8 1 [some (.ref x), l1] (.ref x :: st) h := xo_aload (k := 0) (by decide +kernel) rfl
set_option maxRecDepth 20000 in
theorem u_X0_timesAt_1 (l0 : Option Value) (x : Int32) (st : List Value) (h : xH) : xf 8 1 [l0, some (.int x)] st h = xf 8 2 [l0, some (.int x)] (.int x :: st) h := xo_iload (k := 1) (by decide +kernel) rfl
set_option maxRecDepth 20000 in
theorem u_X0_timesAt_2 (L : xL) (v0 : Int32) (b : Nat) (st : List Value) (h : xH) (hb : (xob h b).1 = 0) (hl : st.length ≤ 4) : xf 8 2 L (.int v0 :: .ref b :: st) h = xgo 8 2 5 L st (xev 4 [.ref b, .int v0] h) := xo_callV (as := [.int v0]) (by decide +kernel) rfl ⟨(by decide +kernel : xna 4 = 1), Nat.le_of_ble_eq_true rfl, rfl, by decide⟩ hb hl
set_option maxRecDepth 20000 in
theorem u_X0_timesAt_5 (L : xL) (a : Int32) (st : List Value) (h : xH) : xf 8 5 L (.int a :: st) h = if a = 0 then xf 8 8 L st h else xf 8 10 L st h := xo_if_ne (t := 10) (by decide +kernel) rfl
set_option maxRecDepth 20000 in
theorem u_X0_timesAt_8 (L : xL) (st : List Value) (h : xH) : xf 8 8 L st h = xf 8 9 L (.int 0 :: st) h := xo_iconst (k := 0) (by decide +kernel) (by decide)
set_option maxRecDepth 20000 in
theorem u_X0_timesAt_9 (L : xL) (x : Int32) (h : xH) : xf 8 9 L [.int x] h = some (.inl (some (.int x)), h) := xo_ireturn (n := 10) (by decide +kernel) rfl
set_option maxRecDepth 20000 in
theorem u_X0_timesAt_10 (l1 : Option Value) (x : Nat) (st : List Value) (h : xH) : xf 8 10 [some (.ref x), l1] st h = xf 8 11 [some (.ref x), l1] (.ref x :: st) h := xo_aload (k := 0) (by decide +kernel) rfl
set_option maxRecDepth 20000 in
theorem u_X0_timesAt_11 (l0 : Option Value) (x : Int32) (st : List Value) (h : xH) : xf 8 11 [l0, some (.int x)] st h = xf 8 12 [l0, some (.int x)] (.int x :: st) h := xo_iload (k := 1) (by decide +kernel) rfl
set_option maxRecDepth 20000 in
theorem u_X0_timesAt_12 (L : xL) (st : List Value) (h : xH) : xf 8 12 L st h = xf 8 13 L (.int 1 :: st) h := xo_iconst (k := 1) (by decide +kernel) (by decide)
set_option maxRecDepth 20000 in
theorem u_X0_timesAt_13 (L : xL) (a b : Int32) (st : List Value) (h : xH) : xf 8 13 L (.int b :: .int a :: st) h = xf 8 14 L (.int (a + b) :: st) h := xo_iadd (by decide +kernel)
set_option maxRecDepth 20000 in
theorem u_X0_timesAt_14 (L : xL) (v0 : Int32) (b : Nat) (st : List Value) (h : xH) (hb : (xob h b).1 = 0) (hl : st.length ≤ 4) : xf 8 14 L (.int v0 :: .ref b :: st) h = xgo 8 14 17 L st (xev 5 [.ref b, .int v0] h) := xo_callV (as := [.int v0]) (by decide +kernel) rfl ⟨(by decide +kernel : xna 5 = 1), Nat.le_of_ble_eq_true rfl, rfl, by decide⟩ hb hl
set_option maxRecDepth 20000 in
theorem u_X0_timesAt_17 (L : xL) (a : Int32) (st : List Value) (h : xH) : xf 8 17 L (.int a :: st) h = if a = 0 then xf 8 33 L st h else xf 8 20 L st h := xo_if_eq (t := 33) (by decide +kernel) rfl
set_option maxRecDepth 20000 in
theorem u_X0_timesAt_20 (l1 : Option Value) (x : Nat) (st : List Value) (h : xH) : xf 8 20 [some (.ref x), l1] st h = xf 8 21 [some (.ref x), l1] (.ref x :: st) h := xo_aload (k := 0) (by decide +kernel) rfl
set_option maxRecDepth 20000 in
theorem u_X0_timesAt_21 (l0 : Option Value) (x : Int32) (st : List Value) (h : xH) : xf 8 21 [l0, some (.int x)] st h = xf 8 22 [l0, some (.int x)] (.int x :: st) h := xo_iload (k := 1) (by decide +kernel) rfl
set_option maxRecDepth 20000 in
theorem u_X0_timesAt_22 (L : xL) (st : List Value) (h : xH) : xf 8 22 L st h = xf 8 23 L (.int 1 :: st) h := xo_iconst (k := 1) (by decide +kernel) (by decide)
set_option maxRecDepth 20000 in
theorem u_X0_timesAt_23 (L : xL) (a b : Int32) (st : List Value) (h : xH) : xf 8 23 L (.int b :: .int a :: st) h = xf 8 24 L (.int (a + b) :: st) h := xo_iadd (by decide +kernel)
set_option maxRecDepth 20000 in
theorem u_X0_timesAt_24 (L : xL) (v0 : Int32) (b : Nat) (st : List Value) (h : xH) (hb : (xob h b).1 = 0) (hl : st.length ≤ 4) : xf 8 24 L (.int v0 :: .ref b :: st) h = xgo 8 24 27 L st (xev 1 [.ref b, .int v0] h) := xo_callV (as := [.int v0]) (by decide +kernel) rfl ⟨(by decide +kernel : xna 1 = 1), Nat.le_of_ble_eq_true rfl, rfl, by decide⟩ hb hl
set_option maxRecDepth 20000 in
theorem u_X0_timesAt_27 (L : xL) (st : List Value) (h : xH) : xf 8 27 L st h = xf 8 29 L (.int 48 :: st) h := xo_iconst (k := 48) (by decide +kernel) (by decide)
set_option maxRecDepth 20000 in
theorem u_X0_timesAt_29 (L : xL) (a b : Int32) (st : List Value) (h : xH) : xf 8 29 L (.int b :: .int a :: st) h = xf 8 30 L (.int (a - b) :: st) h := xo_isub (by decide +kernel)
set_option maxRecDepth 20000 in
theorem u_X0_timesAt_30 (L : xL) (st : List Value) (h : xH) : xf 8 30 L st h = xf 8 34 L st h := xo_goto (n := 33) (t := 34) (by decide +kernel) rfl
set_option maxRecDepth 20000 in
theorem u_X0_timesAt_33 (L : xL) (st : List Value) (h : xH) : xf 8 33 L st h = xf 8 34 L (.int 1 :: st) h := xo_iconst (k := 1) (by decide +kernel) (by decide)
set_option maxRecDepth 20000 in
theorem u_X0_timesAt_34 (L : xL) (x : Int32) (h : xH) : xf 8 34 L [.int x] h = some (.inl (some (.int x)), h) := xo_ireturn (n := 35) (by decide +kernel) rfl
set_option maxRecDepth 20000 in
theorem e_X0_timesAt (v0 : Nat) (v1 : Int32) (h : xH) : xev 8 [.ref v0, .int v1] h = xf 8 0 [some (.ref v0), some (.int v1)] [] h := rfl
set_option maxRecDepth 20000 in
theorem u_X0_signAmount_0 (L : xL) (st : List Value) (h : xH) : xf 9 0 L st h = xf 9 1 L (.int 0 :: st) h := xo_iconst (k := 0) (by decide +kernel) (by decide)
set_option maxRecDepth 20000 in
theorem u_X0_signAmount_1 (l0 l1 l2 : Option Value) (x : Int32) (st : List Value) (h : xH) : xf 9 1 [l0, l1, l2] (.int x :: st) h = xf 9 2 [xcat l0, some (.int x), l2] st h := xo_istore (k := 1) (by decide +kernel) (Nat.le_of_ble_eq_true rfl) rfl
set_option maxRecDepth 20000 in
theorem u_X0_signAmount_2 (L : xL) (st : List Value) (h : xH) : xf 9 2 L st h = xf 9 3 L (.int 0 :: st) h := xo_iconst (k := 0) (by decide +kernel) (by decide)
set_option maxRecDepth 20000 in
theorem u_X0_signAmount_3 (l0 l1 l2 : Option Value) (x : Int32) (st : List Value) (h : xH) : xf 9 3 [l0, l1, l2] (.int x :: st) h = xf 9 4 [l0, xcat l1, some (.int x)] st h := xo_istore (k := 2) (by decide +kernel) (Nat.le_of_ble_eq_true rfl) rfl
set_option maxRecDepth 20000 in
theorem u_X0_signAmount_4 (l0 l1 : Option Value) (x : Int32) (st : List Value) (h : xH) : xf 9 4 [l0, l1, some (.int x)] st h = xf 9 5 [l0, l1, some (.int x)] (.int x :: st) h := xo_iload (k := 2) (by decide +kernel) rfl
set_option maxRecDepth 20000 in
theorem u_X0_signAmount_5 (l1 l2 : Option Value) (x : Nat) (st : List Value) (h : xH) : xf 9 5 [some (.ref x), l1, l2] st h = xf 9 6 [some (.ref x), l1, l2] (.ref x :: st) h := xo_aload (k := 0) (by decide +kernel) rfl
set_option maxRecDepth 20000 in
theorem u_X0_signAmount_6 (L : xL) (a : Nat) (st : List Value) (h : xH) (hc : (xob h a).1 = 0) : xf 9 6 L (.ref a :: st) h = xf 9 9 L ((xob h a).2.getD 1 .null :: st) h := xo_getf (r := 1) (by decide +kernel) (by decide) hc
set_option maxRecDepth 20000 in
theorem u_X0_signAmount_9 (L : xL) (a b : Int32) (st : List Value) (h : xH) : xf 9 9 L (.int b :: .int a :: st) h = if a < b then xf 9 12 L st h else xf 9 26 L st h := xo_icmp_ge (t := 26) (by decide +kernel) rfl
set_option maxRecDepth 20000 in
theorem u_X0_signAmount_12 (l0 l2 : Option Value) (x : Int32) (st : List Value) (h : xH) : xf 9 12 [l0, some (.int x), l2] st h = xf 9 13 [l0, some (.int x), l2] (.int x :: st) h := xo_iload (k := 1) (by decide +kernel) rfl
set_option maxRecDepth 20000 in
theorem u_X0_signAmount_13 (l1 l2 : Option Value) (x : Nat) (st : List Value) (h : xH) : xf 9 13 [some (.ref x), l1, l2] st h = xf 9 14 [some (.ref x), l1, l2] (.ref x :: st) h := xo_aload (k := 0) (by decide +kernel) rfl
set_option maxRecDepth 20000 in
theorem u_X0_signAmount_14 (l0 l1 : Option Value) (x : Int32) (st : List Value) (h : xH) : xf 9 14 [l0, l1, some (.int x)] st h = xf 9 15 [l0, l1, some (.int x)] (.int x :: st) h := xo_iload (k := 2) (by decide +kernel) rfl
set_option maxRecDepth 20000 in
theorem u_X0_signAmount_15 (L : xL) (v0 : Int32) (b : Nat) (st : List Value) (h : xH) (hb : (xob h b).1 = 0) (hl : st.length ≤ 4) : xf 9 15 L (.int v0 :: .ref b :: st) h = xgo 9 15 18 L st (xev 8 [.ref b, .int v0] h) := xo_callV (as := [.int v0]) (by decide +kernel) rfl ⟨(by decide +kernel : xna 8 = 1), Nat.le_of_ble_eq_true rfl, rfl, by decide⟩ hb hl
set_option maxRecDepth 20000 in
theorem u_X0_signAmount_18 (L : xL) (a b : Int32) (st : List Value) (h : xH) : xf 9 18 L (.int b :: .int a :: st) h = xf 9 19 L (.int (a + b) :: st) h := xo_iadd (by decide +kernel)
set_option maxRecDepth 20000 in
theorem u_X0_signAmount_19 (l0 l1 l2 : Option Value) (x : Int32) (st : List Value) (h : xH) : xf 9 19 [l0, l1, l2] (.int x :: st) h = xf 9 20 [xcat l0, some (.int x), l2] st h := xo_istore (k := 1) (by decide +kernel) (Nat.le_of_ble_eq_true rfl) rfl
set_option maxRecDepth 20000 in
theorem u_X0_signAmount_20 (l0 l1 : Option Value) (x : Int32) (st : List Value) (h : xH) : xf 9 20 [l0, l1, some (.int x)] st h = xf 9 23 [l0, xcat l1, some (.int (x + 1))] st h := xo_iinc (k := 2) (c := 1) (by decide +kernel) rfl (by decide) rfl
set_option maxRecDepth 20000 in
theorem u_X0_signAmount_23 (L : xL) (st : List Value) (h : xH) : xf 9 23 L st h = xf 9 4 L st h := xo_goto (n := 26) (t := 4) (by decide +kernel) rfl
set_option maxRecDepth 20000 in
theorem u_X0_signAmount_26 (l0 l2 : Option Value) (x : Int32) (st : List Value) (h : xH) : xf 9 26 [l0, some (.int x), l2] st h = xf 9 27 [l0, some (.int x), l2] (.int x :: st) h := xo_iload (k := 1) (by decide +kernel) rfl
set_option maxRecDepth 20000 in
theorem u_X0_signAmount_27 (L : xL) (x : Int32) (h : xH) : xf 9 27 L [.int x] h = some (.inl (some (.int x)), h) := xo_ireturn (n := 28) (by decide +kernel) rfl
set_option maxRecDepth 20000 in
theorem e_X0_signAmount (v0 : Nat) (h : xH) : xev 9 [.ref v0] h = xf 9 0 [some (.ref v0), none, none] [] h := rfl
set_option maxRecDepth 20000 in
theorem u_X0_writeBehind_0 (L : xL) (st : List Value) (h : xH) : xf 10 0 L st h = xf 10 1 L (.int 0 :: st) h := xo_iconst (k := 0) (by decide +kernel) (by decide)
set_option maxRecDepth 20000 in
theorem u_X0_writeBehind_1 (l0 l1 l2 l3 l4 : Option Value) (x : Int32) (st : List Value) (h : xH) : xf 10 1 [l0, l1, l2, l3, l4] (.int x :: st) h = xf 10 2 [l0, xcat l1, some (.int x), l3, l4] st h := xo_istore (k := 2) (by decide +kernel) (Nat.le_of_ble_eq_true rfl) rfl
set_option maxRecDepth 20000 in
theorem u_X0_writeBehind_2 (l0 l1 l3 l4 : Option Value) (x : Int32) (st : List Value) (h : xH) : xf 10 2 [l0, l1, some (.int x), l3, l4] st h = xf 10 3 [l0, l1, some (.int x), l3, l4] (.int x :: st) h := xo_iload (k := 2) (by decide +kernel) rfl
set_option maxRecDepth 20000 in
theorem u_X0_writeBehind_3 (l1 l2 l3 l4 : Option Value) (x : Nat) (st : List Value) (h : xH) : xf 10 3 [some (.ref x), l1, l2, l3, l4] st h = xf 10 4 [some (.ref x), l1, l2, l3, l4] (.ref x :: st) h := xo_aload (k := 0) (by decide +kernel) rfl
set_option maxRecDepth 20000 in
theorem u_X0_writeBehind_4 (L : xL) (a : Nat) (st : List Value) (h : xH) (hc : (xob h a).1 = 0) : xf 10 4 L (.ref a :: st) h = xf 10 7 L ((xob h a).2.getD 1 .null :: st) h := xo_getf (r := 1) (by decide +kernel) (by decide) hc
set_option maxRecDepth 20000 in
theorem u_X0_writeBehind_7 (L : xL) (a b : Int32) (st : List Value) (h : xH) : xf 10 7 L (.int b :: .int a :: st) h = if a < b then xf 10 10 L st h else xf 10 49 L st h := xo_icmp_ge (t := 49) (by decide +kernel) rfl
set_option maxRecDepth 20000 in
theorem u_X0_writeBehind_10 (l1 l2 l3 l4 : Option Value) (x : Nat) (st : List Value) (h : xH) : xf 10 10 [some (.ref x), l1, l2, l3, l4] st h = xf 10 11 [some (.ref x), l1, l2, l3, l4] (.ref x :: st) h := xo_aload (k := 0) (by decide +kernel) rfl
set_option maxRecDepth 20000 in
theorem u_X0_writeBehind_11 (l0 l1 l3 l4 : Option Value) (x : Int32) (st : List Value) (h : xH) : xf 10 11 [l0, l1, some (.int x), l3, l4] st h = xf 10 12 [l0, l1, some (.int x), l3, l4] (.int x :: st) h := xo_iload (k := 2) (by decide +kernel) rfl
set_option maxRecDepth 20000 in
theorem u_X0_writeBehind_12 (L : xL) (v0 : Int32) (b : Nat) (st : List Value) (h : xH) (hb : (xob h b).1 = 0) (hl : st.length ≤ 4) : xf 10 12 L (.int v0 :: .ref b :: st) h = xgo 10 12 15 L st (xev 8 [.ref b, .int v0] h) := xo_callV (as := [.int v0]) (by decide +kernel) rfl ⟨(by decide +kernel : xna 8 = 1), Nat.le_of_ble_eq_true rfl, rfl, by decide⟩ hb hl
set_option maxRecDepth 20000 in
theorem u_X0_writeBehind_15 (l0 l1 l2 l3 l4 : Option Value) (x : Int32) (st : List Value) (h : xH) : xf 10 15 [l0, l1, l2, l3, l4] (.int x :: st) h = xf 10 16 [l0, l1, xcat l2, some (.int x), l4] st h := xo_istore (k := 3) (by decide +kernel) (Nat.le_of_ble_eq_true rfl) rfl
set_option maxRecDepth 20000 in
theorem u_X0_writeBehind_16 (L : xL) (st : List Value) (h : xH) : xf 10 16 L st h = xf 10 17 L (.int 0 :: st) h := xo_iconst (k := 0) (by decide +kernel) (by decide)
set_option maxRecDepth 20000 in
theorem u_X0_writeBehind_17 (l0 l1 l2 l3 l4 : Option Value) (x : Int32) (st : List Value) (h : xH) : xf 10 17 [l0, l1, l2, l3, l4] (.int x :: st) h = xf 10 19 [l0, l1, l2, xcat l3, some (.int x)] st h := xo_istore (k := 4) (by decide +kernel) (Nat.le_of_ble_eq_true rfl) rfl
set_option maxRecDepth 20000 in
theorem u_X0_writeBehind_19 (l0 l1 l2 l3 : Option Value) (x : Int32) (st : List Value) (h : xH) : xf 10 19 [l0, l1, l2, l3, some (.int x)] st h = xf 10 21 [l0, l1, l2, l3, some (.int x)] (.int x :: st) h := xo_iload (k := 4) (by decide +kernel) rfl
set_option maxRecDepth 20000 in
theorem u_X0_writeBehind_21 (l0 l1 l2 l4 : Option Value) (x : Int32) (st : List Value) (h : xH) : xf 10 21 [l0, l1, l2, some (.int x), l4] st h = xf 10 22 [l0, l1, l2, some (.int x), l4] (.int x :: st) h := xo_iload (k := 3) (by decide +kernel) rfl
set_option maxRecDepth 20000 in
theorem u_X0_writeBehind_22 (L : xL) (a b : Int32) (st : List Value) (h : xH) : xf 10 22 L (.int b :: .int a :: st) h = if a < b then xf 10 25 L st h else xf 10 43 L st h := xo_icmp_ge (t := 43) (by decide +kernel) rfl
set_option maxRecDepth 20000 in
theorem u_X0_writeBehind_25 (l0 l2 l3 l4 : Option Value) (x : Nat) (st : List Value) (h : xH) : xf 10 25 [l0, some (.ref x), l2, l3, l4] st h = xf 10 26 [l0, some (.ref x), l2, l3, l4] (.ref x :: st) h := xo_aload (k := 1) (by decide +kernel) rfl
set_option maxRecDepth 20000 in
theorem u_X0_writeBehind_26 (l1 l2 l3 l4 : Option Value) (x : Nat) (st : List Value) (h : xH) : xf 10 26 [some (.ref x), l1, l2, l3, l4] st h = xf 10 27 [some (.ref x), l1, l2, l3, l4] (.ref x :: st) h := xo_aload (k := 0) (by decide +kernel) rfl
set_option maxRecDepth 20000 in
theorem u_X0_writeBehind_27 (l0 l1 l3 l4 : Option Value) (x : Int32) (st : List Value) (h : xH) : xf 10 27 [l0, l1, some (.int x), l3, l4] st h = xf 10 28 [l0, l1, some (.int x), l3, l4] (.int x :: st) h := xo_iload (k := 2) (by decide +kernel) rfl
set_option maxRecDepth 20000 in
theorem u_X0_writeBehind_28 (L : xL) (v0 : Int32) (b : Nat) (st : List Value) (h : xH) (hb : (xob h b).1 = 0) (hl : st.length ≤ 4) : xf 10 28 L (.int v0 :: .ref b :: st) h = xgo 10 28 31 L st (xev 1 [.ref b, .int v0] h) := xo_callV (as := [.int v0]) (by decide +kernel) rfl ⟨(by decide +kernel : xna 1 = 1), Nat.le_of_ble_eq_true rfl, rfl, by decide⟩ hb hl
set_option maxRecDepth 20000 in
theorem u_X0_writeBehind_31 (L : xL) (st : List Value) (h : xH) : xf 10 31 L st h = xf 10 33 L (.int 97 :: st) h := xo_iconst (k := 97) (by decide +kernel) (by decide)
set_option maxRecDepth 20000 in
theorem u_X0_writeBehind_33 (L : xL) (a b : Int32) (st : List Value) (h : xH) : xf 10 33 L (.int b :: .int a :: st) h = xf 10 34 L (.int (a - b) :: st) h := xo_isub (by decide +kernel)
set_option maxRecDepth 20000 in
theorem u_X0_writeBehind_34 (L : xL) (v0 : Int32) (b : Nat) (st : List Value) (h : xH) (hb : (xob h b).1 = 5) (hl : st.length ≤ 4) : xf 10 34 L (.int v0 :: .ref b :: st) h = xgo 10 34 37 L st (xev 38 [.ref b, .int v0] h) := xo_callV (as := [.int v0]) (by decide +kernel) rfl ⟨(by decide +kernel : xna 38 = 1), Nat.le_of_ble_eq_true rfl, rfl, by decide⟩ hb hl
set_option maxRecDepth 20000 in
theorem u_X0_writeBehind_37 (l0 l1 l2 l3 : Option Value) (x : Int32) (st : List Value) (h : xH) : xf 10 37 [l0, l1, l2, l3, some (.int x)] st h = xf 10 40 [l0, l1, l2, xcat l3, some (.int (x + 1))] st h := xo_iinc (k := 4) (c := 1) (by decide +kernel) rfl (by decide) rfl
set_option maxRecDepth 20000 in
theorem u_X0_writeBehind_40 (L : xL) (st : List Value) (h : xH) : xf 10 40 L st h = xf 10 19 L st h := xo_goto (n := 43) (t := 19) (by decide +kernel) rfl
set_option maxRecDepth 20000 in
theorem u_X0_writeBehind_43 (l0 l1 l3 l4 : Option Value) (x : Int32) (st : List Value) (h : xH) : xf 10 43 [l0, l1, some (.int x), l3, l4] st h = xf 10 46 [l0, xcat l1, some (.int (x + 1)), l3, l4] st h := xo_iinc (k := 2) (c := 1) (by decide +kernel) rfl (by decide) rfl
set_option maxRecDepth 20000 in
theorem u_X0_writeBehind_46 (L : xL) (st : List Value) (h : xH) : xf 10 46 L st h = xf 10 2 L st h := xo_goto (n := 49) (t := 2) (by decide +kernel) rfl
set_option maxRecDepth 20000 in
theorem u_X0_writeBehind_49 (L : xL) (h : xH) : xf 10 49 L [] h = some (.inl none, h) := xo_return (n := 50) (by decide +kernel) rfl
set_option maxRecDepth 20000 in
theorem e_X0_writeBehind (v0 : Nat) (v1 : Nat) (h : xH) : xev 10 [.ref v0, .ref v1] h = xf 10 0 [some (.ref v0), some (.ref v1), none, none, none] [] h := rfl
set_option maxRecDepth 20000 in
theorem u_X1_init_0 (l1 : Option Value) (x : Nat) (st : List Value) (h : xH) : xf 11 0 [some (.ref x), l1] st h = xf 11 1 [some (.ref x), l1] (.ref x :: st) h := xo_aload (k := 0) (by decide +kernel) rfl
set_option maxRecDepth 20000 in
theorem u_X1_init_1 (L : xL) (a : Nat) (st : List Value) (h : xH) (hl : st.length ≤ 4) : xf 11 1 L (.ref a :: st) h = xf 11 4 L st h := xo_objinit (by decide +kernel) hl
set_option maxRecDepth 20000 in
theorem u_X1_init_4 (l1 : Option Value) (x : Nat) (st : List Value) (h : xH) : xf 11 4 [some (.ref x), l1] st h = xf 11 5 [some (.ref x), l1] (.ref x :: st) h := xo_aload (k := 0) (by decide +kernel) rfl
set_option maxRecDepth 20000 in
theorem u_X1_init_5 (l0 : Option Value) (x : Int32) (st : List Value) (h : xH) : xf 11 5 [l0, some (.int x)] st h = xf 11 6 [l0, some (.int x)] (.int x :: st) h := xo_iload (k := 1) (by decide +kernel) rfl
set_option maxRecDepth 20000 in
theorem u_X1_init_6 (L : xL) (a : Int32) (st : List Value) (h : xH) : xf 11 6 L (.int a :: st) h = if a < 0 then xf 11 9 L st h else xf 11 13 L st h := xo_if_ge (t := 13) (by decide +kernel) rfl
set_option maxRecDepth 20000 in
theorem u_X1_init_9 (L : xL) (st : List Value) (h : xH) : xf 11 9 L st h = xf 11 10 L (.int 0 :: st) h := xo_iconst (k := 0) (by decide +kernel) (by decide)
set_option maxRecDepth 20000 in
theorem u_X1_init_10 (L : xL) (st : List Value) (h : xH) : xf 11 10 L st h = xf 11 14 L st h := xo_goto (n := 13) (t := 14) (by decide +kernel) rfl
set_option maxRecDepth 20000 in
theorem u_X1_init_13 (l0 : Option Value) (x : Int32) (st : List Value) (h : xH) : xf 11 13 [l0, some (.int x)] st h = xf 11 14 [l0, some (.int x)] (.int x :: st) h := xo_iload (k := 1) (by decide +kernel) rfl
set_option maxRecDepth 20000 in
theorem u_X1_init_14 (L : xL) (i : Int32) (m : Nat) (st : List Value) (h : xH) (hi : ¬ i < 0 ∧ i.toNatClampNeg = m ∧ m ≤ 1000) (hn : h.2.1 ≠ 0) : xf 11 14 L (.int i :: st) h = xf 11 16 L (.ref h.2.1 :: st) (xnew h (.inl (0, m, .inl (fun _ => 0))) m) := xo_newi (by decide +kernel) hi hn
set_option maxRecDepth 20000 in
theorem u_X1_init_16 (L : xL) (v : Nat) (a : Nat) (st : List Value) (h : xH) (hc : (xob h a).1 = 1) : xf 11 16 L (.ref v :: .ref a :: st) h = xf 11 19 L st (xso h a 0 (.ref v)) := xo_putf (r := 64) (by decide +kernel) (by decide) rfl hc
set_option maxRecDepth 20000 in
theorem u_X1_init_19 (L : xL) (h : xH) : xf 11 19 L [] h = some (.inl none, h) := xo_return (n := 20) (by decide +kernel) rfl
set_option maxRecDepth 20000 in
theorem e_X1_init (v0 : Nat) (v1 : Int32) (h : xH) : xev 11 [.ref v0, .int v1] h = xf 11 0 [some (.ref v0), some (.int v1)] [] h := rfl
set_option maxRecDepth 20000 in
theorem u_X1_at_0 (l0 : Option Value) (x : Int32) (st : List Value) (h : xH) : xf 12 0 [l0, some (.int x)] st h = xf 12 1 [l0, some (.int x)] (.int x :: st) h := xo_iload (k := 1) (by decide +kernel) rfl
set_option maxRecDepth 20000 in
theorem u_X1_at_1 (L : xL) (a : Int32) (st : List Value) (h : xH) : xf 12 1 L (.int a :: st) h = if a < 0 then xf 12 22 L st h else xf 12 4 L st h := xo_if_lt (t := 22) (by decide +kernel) rfl
set_option maxRecDepth 20000 in
theorem u_X1_at_4 (l0 : Option Value) (x : Int32) (st : List Value) (h : xH) : xf 12 4 [l0, some (.int x)] st h = xf 12 5 [l0, some (.int x)] (.int x :: st) h := xo_iload (k := 1) (by decide +kernel) rfl
set_option maxRecDepth 20000 in
theorem u_X1_at_5 (l1 : Option Value) (x : Nat) (st : List Value) (h : xH) : xf 12 5 [some (.ref x), l1] st h = xf 12 6 [some (.ref x), l1] (.ref x :: st) h := xo_aload (k := 0) (by decide +kernel) rfl
set_option maxRecDepth 20000 in
theorem u_X1_at_6 (L : xL) (a : Nat) (st : List Value) (h : xH) (hc : (xob h a).1 = 1) : xf 12 6 L (.ref a :: st) h = xf 12 9 L ((xob h a).2.getD 0 .null :: st) h := xo_getf (r := 64) (by decide +kernel) (by decide) hc
set_option maxRecDepth 20000 in
theorem u_X1_at_9 (L : xL) (a : Nat) (st : List Value) (h : xH) (hx : 0 < (xai h a).1) : xf 12 9 L (.ref a :: st) h = xf 12 10 L (.int (Int32.ofNat (xai h a).1) :: st) h := xo_alen (by decide +kernel) hx
set_option maxRecDepth 20000 in
theorem u_X1_at_10 (L : xL) (a b : Int32) (st : List Value) (h : xH) : xf 12 10 L (.int b :: .int a :: st) h = if a < b then xf 12 13 L st h else xf 12 22 L st h := xo_icmp_ge (t := 22) (by decide +kernel) rfl
set_option maxRecDepth 20000 in
theorem u_X1_at_13 (l1 : Option Value) (x : Nat) (st : List Value) (h : xH) : xf 12 13 [some (.ref x), l1] st h = xf 12 14 [some (.ref x), l1] (.ref x :: st) h := xo_aload (k := 0) (by decide +kernel) rfl
set_option maxRecDepth 20000 in
theorem u_X1_at_14 (L : xL) (a : Nat) (st : List Value) (h : xH) (hc : (xob h a).1 = 1) : xf 12 14 L (.ref a :: st) h = xf 12 17 L ((xob h a).2.getD 0 .null :: st) h := xo_getf (r := 64) (by decide +kernel) (by decide) hc
set_option maxRecDepth 20000 in
theorem u_X1_at_17 (l0 : Option Value) (x : Int32) (st : List Value) (h : xH) : xf 12 17 [l0, some (.int x)] st h = xf 12 18 [l0, some (.int x)] (.int x :: st) h := xo_iload (k := 1) (by decide +kernel) rfl
set_option maxRecDepth 20000 in
theorem u_X1_at_18 (L : xL) (i : Int32) (a : Nat) (st : List Value) (h : xH) (hx : xix i (xai h a).1) : xf 12 18 L (.int i :: .ref a :: st) h = xf 12 19 L (.int ((xai h a).2 i.toNatClampNeg) :: st) h := xo_iaload (by decide +kernel) hx
set_option maxRecDepth 20000 in
theorem u_X1_at_19 (L : xL) (st : List Value) (h : xH) : xf 12 19 L st h = xf 12 23 L st h := xo_goto (n := 22) (t := 23) (by decide +kernel) rfl
set_option maxRecDepth 20000 in
theorem u_X1_at_22 (L : xL) (st : List Value) (h : xH) : xf 12 22 L st h = xf 12 23 L (.int (-1) :: st) h := xo_iconst (k := (-1)) (by decide +kernel) (by decide)
set_option maxRecDepth 20000 in
theorem u_X1_at_23 (L : xL) (x : Int32) (h : xH) : xf 12 23 L [.int x] h = some (.inl (some (.int x)), h) := xo_ireturn (n := 24) (by decide +kernel) rfl
set_option maxRecDepth 20000 in
theorem e_X1_at (v0 : Nat) (v1 : Int32) (h : xH) : xev 12 [.ref v0, .int v1] h = xf 12 0 [some (.ref v0), some (.int v1)] [] h := rfl
set_option maxRecDepth 20000 in
theorem u_X1_put_0 (l0 l2 : Option Value) (x : Int32) (st : List Value) (h : xH) : xf 13 0 [l0, some (.int x), l2] st h = xf 13 1 [l0, some (.int x), l2] (.int x :: st) h := xo_iload (k := 1) (by decide +kernel) rfl
set_option maxRecDepth 20000 in
theorem u_X1_put_1 (L : xL) (a : Int32) (st : List Value) (h : xH) : xf 13 1 L (.int a :: st) h = if a < 0 then xf 13 20 L st h else xf 13 4 L st h := xo_if_lt (t := 20) (by decide +kernel) rfl
set_option maxRecDepth 20000 in
theorem u_X1_put_4 (l0 l2 : Option Value) (x : Int32) (st : List Value) (h : xH) : xf 13 4 [l0, some (.int x), l2] st h = xf 13 5 [l0, some (.int x), l2] (.int x :: st) h := xo_iload (k := 1) (by decide +kernel) rfl
set_option maxRecDepth 20000 in
theorem u_X1_put_5 (l1 l2 : Option Value) (x : Nat) (st : List Value) (h : xH) : xf 13 5 [some (.ref x), l1, l2] st h = xf 13 6 [some (.ref x), l1, l2] (.ref x :: st) h := xo_aload (k := 0) (by decide +kernel) rfl
set_option maxRecDepth 20000 in
theorem u_X1_put_6 (L : xL) (a : Nat) (st : List Value) (h : xH) (hc : (xob h a).1 = 1) : xf 13 6 L (.ref a :: st) h = xf 13 9 L ((xob h a).2.getD 0 .null :: st) h := xo_getf (r := 64) (by decide +kernel) (by decide) hc
set_option maxRecDepth 20000 in
theorem u_X1_put_9 (L : xL) (a : Nat) (st : List Value) (h : xH) (hx : 0 < (xai h a).1) : xf 13 9 L (.ref a :: st) h = xf 13 10 L (.int (Int32.ofNat (xai h a).1) :: st) h := xo_alen (by decide +kernel) hx
set_option maxRecDepth 20000 in
theorem u_X1_put_10 (L : xL) (a b : Int32) (st : List Value) (h : xH) : xf 13 10 L (.int b :: .int a :: st) h = if a < b then xf 13 13 L st h else xf 13 20 L st h := xo_icmp_ge (t := 20) (by decide +kernel) rfl
set_option maxRecDepth 20000 in
theorem u_X1_put_13 (l1 l2 : Option Value) (x : Nat) (st : List Value) (h : xH) : xf 13 13 [some (.ref x), l1, l2] st h = xf 13 14 [some (.ref x), l1, l2] (.ref x :: st) h := xo_aload (k := 0) (by decide +kernel) rfl
set_option maxRecDepth 20000 in
theorem u_X1_put_14 (L : xL) (a : Nat) (st : List Value) (h : xH) (hc : (xob h a).1 = 1) : xf 13 14 L (.ref a :: st) h = xf 13 17 L ((xob h a).2.getD 0 .null :: st) h := xo_getf (r := 64) (by decide +kernel) (by decide) hc
set_option maxRecDepth 20000 in
theorem u_X1_put_17 (l0 l2 : Option Value) (x : Int32) (st : List Value) (h : xH) : xf 13 17 [l0, some (.int x), l2] st h = xf 13 18 [l0, some (.int x), l2] (.int x :: st) h := xo_iload (k := 1) (by decide +kernel) rfl
set_option maxRecDepth 20000 in
theorem u_X1_put_18 (l0 l1 : Option Value) (x : Int32) (st : List Value) (h : xH) : xf 13 18 [l0, l1, some (.int x)] st h = xf 13 19 [l0, l1, some (.int x)] (.int x :: st) h := xo_iload (k := 2) (by decide +kernel) rfl
set_option maxRecDepth 20000 in
theorem u_X1_put_19 (L : xL) (v i : Int32) (a : Nat) (st : List Value) (h : xH) (hx : xix i (xai h a).1) : xf 13 19 L (.int v :: .int i :: .ref a :: st) h = xf 13 20 L st (xsi h a i.toNatClampNeg v) := xo_iastore (by decide +kernel) hx
set_option maxRecDepth 20000 in
theorem u_X1_put_20 (L : xL) (h : xH) : xf 13 20 L [] h = some (.inl none, h) := xo_return (n := 21) (by decide +kernel) rfl
set_option maxRecDepth 20000 in
theorem e_X1_put (v0 : Nat) (v1 : Int32) (v2 : Int32) (h : xH) : xev 13 [.ref v0, .int v1, .int v2] h = xf 13 0 [some (.ref v0), some (.int v1), some (.int v2)] [] h := rfl
set_option maxRecDepth 20000 in
theorem u_X1_fill_0 (L : xL) (st : List Value) (h : xH) : xf 14 0 L st h = xf 14 1 L (.int 0 :: st) h := xo_iconst (k := 0) (by decide +kernel) (by decide)
set_option maxRecDepth 20000 in
theorem u_X1_fill_1 (l0 l1 l2 : Option Value) (x : Int32) (st : List Value) (h : xH) : xf 14 1 [l0, l1, l2] (.int x :: st) h = xf 14 2 [l0, xcat l1, some (.int x)] st h := xo_istore (k := 2) (by decide +kernel) (Nat.le_of_ble_eq_true rfl) rfl
set_option maxRecDepth 20000 in
theorem u_X1_fill_2 (l0 l1 : Option Value) (x : Int32) (st : List Value) (h : xH) : xf 14 2 [l0, l1, some (.int x)] st h = xf 14 3 [l0, l1, some (.int x)] (.int x :: st) h := xo_iload (k := 2) (by decide +kernel) rfl
set_option maxRecDepth 20000 in
theorem u_X1_fill_3 (l1 l2 : Option Value) (x : Nat) (st : List Value) (h : xH) : xf 14 3 [some (.ref x), l1, l2] st h = xf 14 4 [some (.ref x), l1, l2] (.ref x :: st) h := xo_aload (k := 0) (by decide +kernel) rfl
set_option maxRecDepth 20000 in
theorem u_X1_fill_4 (L : xL) (a : Nat) (st : List Value) (h : xH) (hc : (xob h a).1 = 1) : xf 14 4 L (.ref a :: st) h = xf 14 7 L ((xob h a).2.getD 0 .null :: st) h := xo_getf (r := 64) (by decide +kernel) (by decide) hc
set_option maxRecDepth 20000 in
theorem u_X1_fill_7 (L : xL) (a : Nat) (st : List Value) (h : xH) (hx : 0 < (xai h a).1) : xf 14 7 L (.ref a :: st) h = xf 14 8 L (.int (Int32.ofNat (xai h a).1) :: st) h := xo_alen (by decide +kernel) hx
set_option maxRecDepth 20000 in
theorem u_X1_fill_8 (L : xL) (a b : Int32) (st : List Value) (h : xH) : xf 14 8 L (.int b :: .int a :: st) h = if a < b then xf 14 11 L st h else xf 14 24 L st h := xo_icmp_ge (t := 24) (by decide +kernel) rfl
set_option maxRecDepth 20000 in
theorem u_X1_fill_11 (l1 l2 : Option Value) (x : Nat) (st : List Value) (h : xH) : xf 14 11 [some (.ref x), l1, l2] st h = xf 14 12 [some (.ref x), l1, l2] (.ref x :: st) h := xo_aload (k := 0) (by decide +kernel) rfl
set_option maxRecDepth 20000 in
theorem u_X1_fill_12 (L : xL) (a : Nat) (st : List Value) (h : xH) (hc : (xob h a).1 = 1) : xf 14 12 L (.ref a :: st) h = xf 14 15 L ((xob h a).2.getD 0 .null :: st) h := xo_getf (r := 64) (by decide +kernel) (by decide) hc
set_option maxRecDepth 20000 in
theorem u_X1_fill_15 (l0 l1 : Option Value) (x : Int32) (st : List Value) (h : xH) : xf 14 15 [l0, l1, some (.int x)] st h = xf 14 16 [l0, l1, some (.int x)] (.int x :: st) h := xo_iload (k := 2) (by decide +kernel) rfl
set_option maxRecDepth 20000 in
theorem u_X1_fill_16 (l0 l2 : Option Value) (x : Int32) (st : List Value) (h : xH) : xf 14 16 [l0, some (.int x), l2] st h = xf 14 17 [l0, some (.int x), l2] (.int x :: st) h := xo_iload (k := 1) (by decide +kernel) rfl
set_option maxRecDepth 20000 in
theorem u_X1_fill_17 (L : xL) (v i : Int32) (a : Nat) (st : List Value) (h : xH) (hx : xix i (xai h a).1) : xf 14 17 L (.int v :: .int i :: .ref a :: st) h = xf 14 18 L st (xsi h a i.toNatClampNeg v) := xo_iastore (by decide +kernel) hx
set_option maxRecDepth 20000 in
theorem u_X1_fill_18 (l0 l1 : Option Value) (x : Int32) (st : List Value) (h : xH) : xf 14 18 [l0, l1, some (.int x)] st h = xf 14 21 [l0, xcat l1, some (.int (x + 1))] st h := xo_iinc (k := 2) (c := 1) (by decide +kernel) rfl (by decide) rfl
set_option maxRecDepth 20000 in
theorem u_X1_fill_21 (L : xL) (st : List Value) (h : xH) : xf 14 21 L st h = xf 14 2 L st h := xo_goto (n := 24) (t := 2) (by decide +kernel) rfl
set_option maxRecDepth 20000 in
theorem u_X1_fill_24 (L : xL) (h : xH) : xf 14 24 L [] h = some (.inl none, h) := xo_return (n := 25) (by decide +kernel) rfl
set_option maxRecDepth 20000 in
theorem e_X1_fill (v0 : Nat) (v1 : Int32) (h : xH) : xev 14 [.ref v0, .int v1] h = xf 14 0 [some (.ref v0), some (.int v1), none] [] h := rfl
set_option maxRecDepth 20000 in
theorem u_X1_copyFrom_0 (L : xL) (st : List Value) (h : xH) : xf 15 0 L st h = xf 15 1 L (.int 0 :: st) h := xo_iconst (k := 0) (by decide +kernel) (by decide)
set_option maxRecDepth 20000 in
theorem u_X1_copyFrom_1 (l0 l1 l2 : Option Value) (x : Int32) (st : List Value) (h : xH) : xf 15 1 [l0, l1, l2] (.int x :: st) h = xf 15 2 [l0, xcat l1, some (.int x)] st h := xo_istore (k := 2) (by decide +kernel) (Nat.le_of_ble_eq_true rfl) rfl
set_option maxRecDepth 20000 in
theorem u_X1_copyFrom_2 (l0 l1 : Option Value) (x : Int32) (st : List Value) (h : xH) : xf 15 2 [l0, l1, some (.int x)] st h = xf 15 3 [l0, l1, some (.int x)] (.int x :: st) h := xo_iload (k := 2) (by decide +kernel) rfl
set_option maxRecDepth 20000 in
theorem u_X1_copyFrom_3 (l1 l2 : Option Value) (x : Nat) (st : List Value) (h : xH) : xf 15 3 [some (.ref x), l1, l2] st h = xf 15 4 [some (.ref x), l1, l2] (.ref x :: st) h := xo_aload (k := 0) (by decide +kernel) rfl
set_option maxRecDepth 20000 in
theorem u_X1_copyFrom_4 (L : xL) (a : Nat) (st : List Value) (h : xH) (hc : (xob h a).1 = 1) : xf 15 4 L (.ref a :: st) h = xf 15 7 L ((xob h a).2.getD 0 .null :: st) h := xo_getf (r := 64) (by decide +kernel) (by decide) hc
set_option maxRecDepth 20000 in
theorem u_X1_copyFrom_7 (L : xL) (a : Nat) (st : List Value) (h : xH) (hx : 0 < (xai h a).1) : xf 15 7 L (.ref a :: st) h = xf 15 8 L (.int (Int32.ofNat (xai h a).1) :: st) h := xo_alen (by decide +kernel) hx
set_option maxRecDepth 20000 in
theorem u_X1_copyFrom_8 (L : xL) (a b : Int32) (st : List Value) (h : xH) : xf 15 8 L (.int b :: .int a :: st) h = if a < b then xf 15 11 L st h else xf 15 38 L st h := xo_icmp_ge (t := 38) (by decide +kernel) rfl
set_option maxRecDepth 20000 in
theorem u_X1_copyFrom_11 (l0 l1 : Option Value) (x : Int32) (st : List Value) (h : xH) : xf 15 11 [l0, l1, some (.int x)] st h = xf 15 12 [l0, l1, some (.int x)] (.int x :: st) h := xo_iload (k := 2) (by decide +kernel) rfl
set_option maxRecDepth 20000 in
theorem u_X1_copyFrom_12 (l0 l2 : Option Value) (x : Nat) (st : List Value) (h : xH) : xf 15 12 [l0, some (.ref x), l2] st h = xf 15 13 [l0, some (.ref x), l2] (.ref x :: st) h := xo_aload (k := 1) (by decide +kernel) rfl
set_option maxRecDepth 20000 in
theorem u_X1_copyFrom_13 (L : xL) (a : Nat) (st : List Value) (h : xH) (hc : (xob h a).1 = 1) : xf 15 13 L (.ref a :: st) h = xf 15 16 L ((xob h a).2.getD 0 .null :: st) h := xo_getf (r := 64) (by decide +kernel) (by decide) hc
set_option maxRecDepth 20000 in
theorem u_X1_copyFrom_16 (L : xL) (a : Nat) (st : List Value) (h : xH) (hx : 0 < (xai h a).1) : xf 15 16 L (.ref a :: st) h = xf 15 17 L (.int (Int32.ofNat (xai h a).1) :: st) h := xo_alen (by decide +kernel) hx
set_option maxRecDepth 20000 in
theorem u_X1_copyFrom_17 (L : xL) (a b : Int32) (st : List Value) (h : xH) : xf 15 17 L (.int b :: .int a :: st) h = if a < b then xf 15 20 L st h else xf 15 38 L st h := xo_icmp_ge (t := 38) (by decide +kernel) rfl
set_option maxRecDepth 20000 in
theorem u_X1_copyFrom_20 (l1 l2 : Option Value) (x : Nat) (st : List Value) (h : xH) : xf 15 20 [some (.ref x), l1, l2] st h = xf 15 21 [some (.ref x), l1, l2] (.ref x :: st) h := xo_aload (k := 0) (by decide +kernel) rfl
set_option maxRecDepth 20000 in
theorem u_X1_copyFrom_21 (L : xL) (a : Nat) (st : List Value) (h : xH) (hc : (xob h a).1 = 1) : xf 15 21 L (.ref a :: st) h = xf 15 24 L ((xob h a).2.getD 0 .null :: st) h := xo_getf (r := 64) (by decide +kernel) (by decide) hc
set_option maxRecDepth 20000 in
theorem u_X1_copyFrom_24 (l0 l1 : Option Value) (x : Int32) (st : List Value) (h : xH) : xf 15 24 [l0, l1, some (.int x)] st h = xf 15 25 [l0, l1, some (.int x)] (.int x :: st) h := xo_iload (k := 2) (by decide +kernel) rfl
set_option maxRecDepth 20000 in
theorem u_X1_copyFrom_25 (l0 l2 : Option Value) (x : Nat) (st : List Value) (h : xH) : xf 15 25 [l0, some (.ref x), l2] st h = xf 15 26 [l0, some (.ref x), l2] (.ref x :: st) h := xo_aload (k := 1) (by decide +kernel) rfl
set_option maxRecDepth 20000 in
theorem u_X1_copyFrom_26 (L : xL) (a : Nat) (st : List Value) (h : xH) (hc : (xob h a).1 = 1) : xf 15 26 L (.ref a :: st) h = xf 15 29 L ((xob h a).2.getD 0 .null :: st) h := xo_getf (r := 64) (by decide +kernel) (by decide) hc
set_option maxRecDepth 20000 in
theorem u_X1_copyFrom_29 (l0 l1 : Option Value) (x : Int32) (st : List Value) (h : xH) : xf 15 29 [l0, l1, some (.int x)] st h = xf 15 30 [l0, l1, some (.int x)] (.int x :: st) h := xo_iload (k := 2) (by decide +kernel) rfl
set_option maxRecDepth 20000 in
theorem u_X1_copyFrom_30 (L : xL) (i : Int32) (a : Nat) (st : List Value) (h : xH) (hx : xix i (xai h a).1) : xf 15 30 L (.int i :: .ref a :: st) h = xf 15 31 L (.int ((xai h a).2 i.toNatClampNeg) :: st) h := xo_iaload (by decide +kernel) hx
set_option maxRecDepth 20000 in
theorem u_X1_copyFrom_31 (L : xL) (v i : Int32) (a : Nat) (st : List Value) (h : xH) (hx : xix i (xai h a).1) : xf 15 31 L (.int v :: .int i :: .ref a :: st) h = xf 15 32 L st (xsi h a i.toNatClampNeg v) := xo_iastore (by decide +kernel) hx
set_option maxRecDepth 20000 in
theorem u_X1_copyFrom_32 (l0 l1 : Option Value) (x : Int32) (st : List Value) (h : xH) : xf 15 32 [l0, l1, some (.int x)] st h = xf 15 35 [l0, xcat l1, some (.int (x + 1))] st h := xo_iinc (k := 2) (c := 1) (by decide +kernel) rfl (by decide) rfl
set_option maxRecDepth 20000 in
theorem u_X1_copyFrom_35 (L : xL) (st : List Value) (h : xH) : xf 15 35 L st h = xf 15 2 L st h := xo_goto (n := 38) (t := 2) (by decide +kernel) rfl
set_option maxRecDepth 20000 in
theorem u_X1_copyFrom_38 (L : xL) (h : xH) : xf 15 38 L [] h = some (.inl none, h) := xo_return (n := 39) (by decide +kernel) rfl
set_option maxRecDepth 20000 in
theorem e_X1_copyFrom (v0 : Nat) (v1 : Nat) (h : xH) : xev 15 [.ref v0, .ref v1] h = xf 15 0 [some (.ref v0), some (.ref v1), none] [] h := rfl
set_option maxRecDepth 20000 in
theorem u_X2_init_0 (l1 : Option Value) (x : Nat) (st : List Value) (h : xH) : xf 16 0 [some (.ref x), l1] st h = xf 16 1 [some (.ref x), l1] (.ref x :: st) h := xo_aload (k := 0) (by decide +kernel) rfl
set_option maxRecDepth 20000 in
theorem u_X2_init_1 (L : xL) (a : Nat) (st : List Value) (h : xH) (hl : st.length ≤ 4) : xf 16 1 L (.ref a :: st) h = xf 16 4 L st h := xo_objinit (by decide +kernel) hl
set_option maxRecDepth 20000 in
theorem u_X2_init_4 (l1 : Option Value) (x : Nat) (st : List Value) (h : xH) : xf 16 4 [some (.ref x), l1] st h = xf 16 5 [some (.ref x), l1] (.ref x :: st) h := xo_aload (k := 0) (by decide +kernel) rfl
set_option maxRecDepth 20000 in
theorem u_X2_init_5 (L : xL) (st : List Value) (h : xH) : xf 16 5 L st h = xf 16 7 L (.int 6 :: st) h := xo_iconst (k := 6) (by decide +kernel) (by decide)
set_option maxRecDepth 20000 in
theorem u_X2_init_7 (L : xL) (i : Int32) (m : Nat) (st : List Value) (h : xH) (hi : ¬ i < 0 ∧ i.toNatClampNeg = m ∧ m ≤ 1000) (hn : h.2.1 ≠ 0) : xf 16 7 L (.int i :: st) h = xf 16 10 L (.ref h.2.1 :: st) (xnew h (.inl (2, m, .inr (.inr (.inr (.inr (fun _ => none)))))) m) := xo_newq (c := 6) (by decide +kernel) hi hn
set_option maxRecDepth 20000 in
theorem u_X2_init_10 (L : xL) (v : Nat) (a : Nat) (st : List Value) (h : xH) (hc : (xob h a).1 = 2) : xf 16 10 L (.ref v :: .ref a :: st) h = xf 16 13 L st (xso h a 0 (.ref v)) := xo_putf (r := 128) (by decide +kernel) (by decide) rfl hc
set_option maxRecDepth 20000 in
theorem u_X2_init_13 (L : xL) (st : List Value) (h : xH) : xf 16 13 L st h = xf 16 14 L (.int 0 :: st) h := xo_iconst (k := 0) (by decide +kernel) (by decide)
set_option maxRecDepth 20000 in
theorem u_X2_init_14 (l0 l1 : Option Value) (x : Int32) (st : List Value) (h : xH) : xf 16 14 [l0, l1] (.int x :: st) h = xf 16 15 [xcat l0, some (.int x)] st h := xo_istore (k := 1) (by decide +kernel) (Nat.le_of_ble_eq_true rfl) rfl
set_option maxRecDepth 20000 in
theorem u_X2_init_15 (l0 : Option Value) (x : Int32) (st : List Value) (h : xH) : xf 16 15 [l0, some (.int x)] st h = xf 16 16 [l0, some (.int x)] (.int x :: st) h := xo_iload (k := 1) (by decide +kernel) rfl
set_option maxRecDepth 20000 in
theorem u_X2_init_16 (l1 : Option Value) (x : Nat) (st : List Value) (h : xH) : xf 16 16 [some (.ref x), l1] st h = xf 16 17 [some (.ref x), l1] (.ref x :: st) h := xo_aload (k := 0) (by decide +kernel) rfl
set_option maxRecDepth 20000 in
theorem u_X2_init_17 (L : xL) (a : Nat) (st : List Value) (h : xH) (hc : (xob h a).1 = 2) : xf 16 17 L (.ref a :: st) h = xf 16 20 L ((xob h a).2.getD 0 .null :: st) h := xo_getf (r := 128) (by decide +kernel) (by decide) hc
set_option maxRecDepth 20000 in
theorem u_X2_init_20 (L : xL) (a : Nat) (st : List Value) (h : xH) (hx : 0 < (xaq h a).1) : xf 16 20 L (.ref a :: st) h = xf 16 21 L (.int (Int32.ofNat (xaq h a).1) :: st) h := xo_alenq (by decide +kernel) hx
set_option maxRecDepth 20000 in
theorem u_X2_init_21 (L : xL) (a b : Int32) (st : List Value) (h : xH) : xf 16 21 L (.int b :: .int a :: st) h = if a < b then xf 16 24 L st h else xf 16 43 L st h := xo_icmp_ge (t := 43) (by decide +kernel) rfl
set_option maxRecDepth 20000 in
theorem u_X2_init_24 (l1 : Option Value) (x : Nat) (st : List Value) (h : xH) : xf 16 24 [some (.ref x), l1] st h = xf 16 25 [some (.ref x), l1] (.ref x :: st) h := xo_aload (k := 0) (by decide +kernel) rfl
set_option maxRecDepth 20000 in
theorem u_X2_init_25 (L : xL) (a : Nat) (st : List Value) (h : xH) (hc : (xob h a).1 = 2) : xf 16 25 L (.ref a :: st) h = xf 16 28 L ((xob h a).2.getD 0 .null :: st) h := xo_getf (r := 128) (by decide +kernel) (by decide) hc
set_option maxRecDepth 20000 in
theorem u_X2_init_28 (l0 : Option Value) (x : Int32) (st : List Value) (h : xH) : xf 16 28 [l0, some (.int x)] st h = xf 16 29 [l0, some (.int x)] (.int x :: st) h := xo_iload (k := 1) (by decide +kernel) rfl
set_option maxRecDepth 20000 in
theorem u_X2_init_29 (L : xL) (st : List Value) (h : xH) (hn : h.2.1 ≠ 0) : xf 16 29 L st h = xf 16 32 L (.ref h.2.1 :: st) (xnew h (.inr (6, xdef 6)) 6) := xo_new (c := 6) (by decide +kernel) (by decide) hn
set_option maxRecDepth 20000 in
theorem u_X2_init_32 (L : xL) (a : Nat) (st : List Value) (h : xH) : xf 16 32 L (.ref a :: st) h = xf 16 33 L (.ref a :: .ref a :: st) h := xo_dupR (by decide +kernel)
set_option maxRecDepth 20000 in
theorem u_X2_init_33 (L : xL) (b : Nat) (st : List Value) (h : xH) (hl : st.length ≤ 4) : xf 16 33 L (.ref b :: st) h = xgoI 16 33 36 L st (xev 47 [.ref b] h) := xo_callI (as := []) (by decide +kernel) rfl ⟨(by decide +kernel : xna 47 = 0), Nat.le_of_ble_eq_true rfl, by decide⟩ hl
set_option maxRecDepth 20000 in
theorem u_X2_init_36 (L : xL) (i : Int32) (a v : Nat) (st : List Value) (h : xH) (hv : (xob h v).1 = 6) (hx : xix i (xaq h a).1) : xf 16 36 L (.ref v :: .int i :: .ref a :: st) h = xf 16 37 L st (xsq h a i.toNatClampNeg v) := xo_aastore (by decide +kernel) hv hx
set_option maxRecDepth 20000 in
theorem u_X2_init_37 (l0 : Option Value) (x : Int32) (st : List Value) (h : xH) : xf 16 37 [l0, some (.int x)] st h = xf 16 40 [xcat l0, some (.int (x + 1))] st h := xo_iinc (k := 1) (c := 1) (by decide +kernel) rfl (by decide) rfl
set_option maxRecDepth 20000 in
theorem u_X2_init_40 (L : xL) (st : List Value) (h : xH) : xf 16 40 L st h = xf 16 15 L st h := xo_goto (n := 43) (t := 15) (by decide +kernel) rfl
set_option maxRecDepth 20000 in
theorem u_X2_init_43 (L : xL) (h : xH) : xf 16 43 L [] h = some (.inl none, h) := xo_return (n := 44) (by decide +kernel) rfl
set_option maxRecDepth 20000 in
theorem e_X2_init (v0 : Nat) (h : xH) : xev 16 [.ref v0] h = xf 16 0 [some (.ref v0), none] [] h := rfl
set_option maxRecDepth 20000 in
theorem u_X2_save_0 (l1 l2 : Option Value) (x : Nat) (st : List Value) (h : xH) : xf 17 0 [some (.ref x), l1, l2] st h = xf 17 1 [some (.ref x), l1, l2] (.ref x :: st) h := xo_aload (k := 0) (by decide +kernel) rfl
set_option maxRecDepth 20000 in
theorem u_X2_save_0N (l1 l2 : Option Value) (st : List Value) (h : xH) : xf 17 0 [some .null, l1, l2] st h = xf 17 1 [some .null, l1, l2] (.null :: st) h := xo_aloadN (k := 0) (by decide +kernel) rfl
set_option maxRecDepth 20000 in
theorem u_X2_save_1 (L : xL) (a : Nat) (st : List Value) (h : xH) (hc : (xob h a).1 = 2) : xf 17 1 L (.ref a :: st) h = xf 17 4 L ((xob h a).2.getD 2 .null :: st) h := xo_getf (r := 130) (by decide +kernel) (by decide) hc
set_option maxRecDepth 20000 in
theorem u_X2_save_4 (L : xL) (a : Int32) (st : List Value) (h : xH) : xf 17 4 L (.int a :: st) h = if a < 0 then xf 17 31 L st h else xf 17 7 L st h := xo_if_lt (t := 31) (by decide +kernel) rfl
set_option maxRecDepth 20000 in
theorem u_X2_save_7 (l1 l2 : Option Value) (x : Nat) (st : List Value) (h : xH) : xf 17 7 [some (.ref x), l1, l2] st h = xf 17 8 [some (.ref x), l1, l2] (.ref x :: st) h := xo_aload (k := 0) (by decide +kernel) rfl
set_option maxRecDepth 20000 in
theorem u_X2_save_7N (l1 l2 : Option Value) (st : List Value) (h : xH) : xf 17 7 [some .null, l1, l2] st h = xf 17 8 [some .null, l1, l2] (.null :: st) h := xo_aloadN (k := 0) (by decide +kernel) rfl
set_option maxRecDepth 20000 in
theorem u_X2_save_8 (L : xL) (a : Nat) (st : List Value) (h : xH) (hc : (xob h a).1 = 2) : xf 17 8 L (.ref a :: st) h = xf 17 11 L ((xob h a).2.getD 2 .null :: st) h := xo_getf (r := 130) (by decide +kernel) (by decide) hc
set_option maxRecDepth 20000 in
theorem u_X2_save_11 (l1 l2 : Option Value) (x : Nat) (st : List Value) (h : xH) : xf 17 11 [some (.ref x), l1, l2] st h = xf 17 12 [some (.ref x), l1, l2] (.ref x :: st) h := xo_aload (k := 0) (by decide +kernel) rfl
set_option maxRecDepth 20000 in
theorem u_X2_save_11N (l1 l2 : Option Value) (st : List Value) (h : xH) : xf 17 11 [some .null, l1, l2] st h = xf 17 12 [some .null, l1, l2] (.null :: st) h := xo_aloadN (k := 0) (by decide +kernel) rfl
set_option maxRecDepth 20000 in
theorem u_X2_save_12 (L : xL) (a : Nat) (st : List Value) (h : xH) (hc : (xob h a).1 = 2) : xf 17 12 L (.ref a :: st) h = xf 17 15 L ((xob h a).2.getD 0 .null :: st) h := xo_getf (r := 128) (by decide +kernel) (by decide) hc
set_option maxRecDepth 20000 in
theorem u_X2_save_15 (L : xL) (a : Nat) (st : List Value) (h : xH) (hx : 0 < (xaq h a).1) : xf 17 15 L (.ref a :: st) h = xf 17 16 L (.int (Int32.ofNat (xaq h a).1) :: st) h := xo_alenq (by decide +kernel) hx
set_option maxRecDepth 20000 in
theorem u_X2_save_16 (L : xL) (a b : Int32) (st : List Value) (h : xH) : xf 17 16 L (.int b :: .int a :: st) h = if a < b then xf 17 19 L st h else xf 17 31 L st h := xo_icmp_ge (t := 31) (by decide +kernel) rfl
set_option maxRecDepth 20000 in
theorem u_X2_save_19 (l1 l2 : Option Value) (x : Nat) (st : List Value) (h : xH) : xf 17 19 [some (.ref x), l1, l2] st h = xf 17 20 [some (.ref x), l1, l2] (.ref x :: st) h := xo_aload (k := 0) (by decide +kernel) rfl
set_option maxRecDepth 20000 in
theorem u_X2_save_19N (l1 l2 : Option Value) (st : List Value) (h : xH) : xf 17 19 [some .null, l1, l2] st h = xf 17 20 [some .null, l1, l2] (.null :: st) h := xo_aloadN (k := 0) (by decide +kernel) rfl
set_option maxRecDepth 20000 in
theorem u_X2_save_20 (L : xL) (a : Nat) (st : List Value) (h : xH) (hc : (xob h a).1 = 2) : xf 17 20 L (.ref a :: st) h = xf 17 23 L ((xob h a).2.getD 0 .null :: st) h := xo_getf (r := 128) (by decide +kernel) (by decide) hc
set_option maxRecDepth 20000 in
theorem u_X2_save_23 (l1 l2 : Option Value) (x : Nat) (st : List Value) (h : xH) : xf 17 23 [some (.ref x), l1, l2] st h = xf 17 24 [some (.ref x), l1, l2] (.ref x :: st) h := xo_aload (k := 0) (by decide +kernel) rfl
set_option maxRecDepth 20000 in
theorem u_X2_save_23N (l1 l2 : Option Value) (st : List Value) (h : xH) : xf 17 23 [some .null, l1, l2] st h = xf 17 24 [some .null, l1, l2] (.null :: st) h := xo_aloadN (k := 0) (by decide +kernel) rfl
set_option maxRecDepth 20000 in
theorem u_X2_save_24 (L : xL) (a : Nat) (st : List Value) (h : xH) (hc : (xob h a).1 = 2) : xf 17 24 L (.ref a :: st) h = xf 17 27 L ((xob h a).2.getD 2 .null :: st) h := xo_getf (r := 130) (by decide +kernel) (by decide) hc
set_option maxRecDepth 20000 in
theorem u_X2_save_27 (L : xL) (i : Int32) (a : Nat) (st : List Value) (h : xH) (hx : xix i (xaq h a).1) : xf 17 27 L (.int i :: .ref a :: st) h = xf 17 28 L (va_rf ((xaq h a).2 i.toNatClampNeg) :: st) h := xo_aaload (by decide +kernel) hx
set_option maxRecDepth 20000 in
theorem u_X2_save_28 (L : xL) (st : List Value) (h : xH) : xf 17 28 L st h = xf 17 32 L st h := xo_goto (n := 31) (t := 32) (by decide +kernel) rfl
set_option maxRecDepth 20000 in
theorem u_X2_save_31 (L : xL) (st : List Value) (h : xH) : xf 17 31 L st h = xf 17 32 L (.null :: st) h := xo_null (by decide +kernel)
set_option maxRecDepth 20000 in
theorem u_X2_save_32 (l0 l1 l2 : Option Value) (x : Nat) (st : List Value) (h : xH) : xf 17 32 [l0, l1, l2] (.ref x :: st) h = xf 17 33 [l0, xcat l1, some (.ref x)] st h := xo_astore (k := 2) (by decide +kernel) (Nat.le_of_ble_eq_true rfl) rfl
set_option maxRecDepth 20000 in
theorem u_X2_save_32N (l0 l1 l2 : Option Value) (st : List Value) (h : xH) : xf 17 32 [l0, l1, l2] (.null :: st) h = xf 17 33 [l0, xcat l1, some (.null)] st h := xo_astoreN (k := 2) (by decide +kernel) (Nat.le_of_ble_eq_true rfl) rfl
set_option maxRecDepth 20000 in
theorem u_X2_save_33 (l0 l1 : Option Value) (x : Nat) (st : List Value) (h : xH) : xf 17 33 [l0, l1, some (.ref x)] st h = xf 17 34 [l0, l1, some (.ref x)] (.ref x :: st) h := xo_aload (k := 2) (by decide +kernel) rfl
set_option maxRecDepth 20000 in
theorem u_X2_save_33N (l0 l1 : Option Value) (st : List Value) (h : xH) : xf 17 33 [l0, l1, some .null] st h = xf 17 34 [l0, l1, some .null] (.null :: st) h := xo_aloadN (k := 2) (by decide +kernel) rfl
set_option maxRecDepth 20000 in
theorem u_X2_save_34N (L : xL) (st : List Value) (h : xH) : xf 17 34 L (.null :: st) h = xf 17 82 L st h := xo_ifnullN (n := 37) (t := 82) (by decide +kernel) rfl
set_option maxRecDepth 20000 in
theorem u_X2_save_34 (L : xL) (a : Nat) (st : List Value) (h : xH) : xf 17 34 L (.ref a :: st) h = xf 17 37 L st h := xo_ifnull (t := 82) (by decide +kernel)
set_option maxRecDepth 20000 in
theorem u_X2_save_37 (l0 l1 : Option Value) (x : Nat) (st : List Value) (h : xH) : xf 17 37 [l0, l1, some (.ref x)] st h = xf 17 38 [l0, l1, some (.ref x)] (.ref x :: st) h := xo_aload (k := 2) (by decide +kernel) rfl
set_option maxRecDepth 20000 in
theorem u_X2_save_37N (l0 l1 : Option Value) (st : List Value) (h : xH) : xf 17 37 [l0, l1, some .null] st h = xf 17 38 [l0, l1, some .null] (.null :: st) h := xo_aloadN (k := 2) (by decide +kernel) rfl
set_option maxRecDepth 20000 in
theorem u_X2_save_38 (l0 l2 : Option Value) (x : Nat) (st : List Value) (h : xH) : xf 17 38 [l0, some (.ref x), l2] st h = xf 17 39 [l0, some (.ref x), l2] (.ref x :: st) h := xo_aload (k := 1) (by decide +kernel) rfl
set_option maxRecDepth 20000 in
theorem u_X2_save_38N (l0 l2 : Option Value) (st : List Value) (h : xH) : xf 17 38 [l0, some .null, l2] st h = xf 17 39 [l0, some .null, l2] (.null :: st) h := xo_aloadN (k := 1) (by decide +kernel) rfl
set_option maxRecDepth 20000 in
theorem u_X2_save_39 (L : xL) (v0 : Nat) (b : Nat) (st : List Value) (h : xH) (hb : (xob h b).1 = 6) (hl : st.length ≤ 4) : xf 17 39 L (.ref v0 :: .ref b :: st) h = xgo 17 39 42 L st (xev 48 [.ref b, .ref v0] h) := xo_callV (as := [.ref v0]) (by decide +kernel) rfl ⟨(by decide +kernel : xna 48 = 1), Nat.le_of_ble_eq_true rfl, rfl, by decide⟩ hb hl
set_option maxRecDepth 20000 in
theorem u_X2_save_42 (l1 l2 : Option Value) (x : Nat) (st : List Value) (h : xH) : xf 17 42 [some (.ref x), l1, l2] st h = xf 17 43 [some (.ref x), l1, l2] (.ref x :: st) h := xo_aload (k := 0) (by decide +kernel) rfl
set_option maxRecDepth 20000 in
theorem u_X2_save_42N (l1 l2 : Option Value) (st : List Value) (h : xH) : xf 17 42 [some .null, l1, l2] st h = xf 17 43 [some .null, l1, l2] (.null :: st) h := xo_aloadN (k := 0) (by decide +kernel) rfl
set_option maxRecDepth 20000 in
theorem u_X2_save_43 (l1 l2 : Option Value) (x : Nat) (st : List Value) (h : xH) : xf 17 43 [some (.ref x), l1, l2] st h = xf 17 44 [some (.ref x), l1, l2] (.ref x :: st) h := xo_aload (k := 0) (by decide +kernel) rfl
set_option maxRecDepth 20000 in
theorem u_X2_save_43N (l1 l2 : Option Value) (st : List Value) (h : xH) : xf 17 43 [some .null, l1, l2] st h = xf 17 44 [some .null, l1, l2] (.null :: st) h := xo_aloadN (k := 0) (by decide +kernel) rfl
set_option maxRecDepth 20000 in
theorem u_X2_save_44 (L : xL) (a : Nat) (st : List Value) (h : xH) (hc : (xob h a).1 = 2) : xf 17 44 L (.ref a :: st) h = xf 17 47 L ((xob h a).2.getD 2 .null :: st) h := xo_getf (r := 130) (by decide +kernel) (by decide) hc
set_option maxRecDepth 20000 in
theorem u_X2_save_47 (L : xL) (st : List Value) (h : xH) : xf 17 47 L st h = xf 17 48 L (.int 1 :: st) h := xo_iconst (k := 1) (by decide +kernel) (by decide)
set_option maxRecDepth 20000 in
theorem u_X2_save_48 (L : xL) (a b : Int32) (st : List Value) (h : xH) : xf 17 48 L (.int b :: .int a :: st) h = xf 17 49 L (.int (a + b) :: st) h := xo_iadd (by decide +kernel)
set_option maxRecDepth 20000 in
theorem u_X2_save_49 (L : xL) (st : List Value) (h : xH) : xf 17 49 L st h = xf 17 51 L (.int 6 :: st) h := xo_iconst (k := 6) (by decide +kernel) (by decide)
set_option maxRecDepth 20000 in
theorem u_X2_save_51 (L : xL) (a b : Int32) (st : List Value) (h : xH) : xf 17 51 L (.int b :: .int a :: st) h = if a < b then xf 17 54 L st h else xf 17 63 L st h := xo_icmp_ge (t := 63) (by decide +kernel) rfl
set_option maxRecDepth 20000 in
theorem u_X2_save_54 (l1 l2 : Option Value) (x : Nat) (st : List Value) (h : xH) : xf 17 54 [some (.ref x), l1, l2] st h = xf 17 55 [some (.ref x), l1, l2] (.ref x :: st) h := xo_aload (k := 0) (by decide +kernel) rfl
set_option maxRecDepth 20000 in
theorem u_X2_save_54N (l1 l2 : Option Value) (st : List Value) (h : xH) : xf 17 54 [some .null, l1, l2] st h = xf 17 55 [some .null, l1, l2] (.null :: st) h := xo_aloadN (k := 0) (by decide +kernel) rfl
set_option maxRecDepth 20000 in
theorem u_X2_save_55 (L : xL) (a : Nat) (st : List Value) (h : xH) (hc : (xob h a).1 = 2) : xf 17 55 L (.ref a :: st) h = xf 17 58 L ((xob h a).2.getD 2 .null :: st) h := xo_getf (r := 130) (by decide +kernel) (by decide) hc
set_option maxRecDepth 20000 in
theorem u_X2_save_58 (L : xL) (st : List Value) (h : xH) : xf 17 58 L st h = xf 17 59 L (.int 1 :: st) h := xo_iconst (k := 1) (by decide +kernel) (by decide)
set_option maxRecDepth 20000 in
theorem u_X2_save_59 (L : xL) (a b : Int32) (st : List Value) (h : xH) : xf 17 59 L (.int b :: .int a :: st) h = xf 17 60 L (.int (a + b) :: st) h := xo_iadd (by decide +kernel)
set_option maxRecDepth 20000 in
theorem u_X2_save_60 (L : xL) (st : List Value) (h : xH) : xf 17 60 L st h = xf 17 64 L st h := xo_goto (n := 63) (t := 64) (by decide +kernel) rfl
set_option maxRecDepth 20000 in
theorem u_X2_save_63 (L : xL) (st : List Value) (h : xH) : xf 17 63 L st h = xf 17 64 L (.int 0 :: st) h := xo_iconst (k := 0) (by decide +kernel) (by decide)
set_option maxRecDepth 20000 in
theorem u_X2_save_64 (L : xL) (v : Int32) (a : Nat) (st : List Value) (h : xH) (hc : (xob h a).1 = 2) : xf 17 64 L (.int v :: .ref a :: st) h = xf 17 67 L st (xso h a 2 (.int v)) := xo_putf (r := 130) (by decide +kernel) (by decide) rfl hc
set_option maxRecDepth 20000 in
theorem u_X2_save_67 (l1 l2 : Option Value) (x : Nat) (st : List Value) (h : xH) : xf 17 67 [some (.ref x), l1, l2] st h = xf 17 68 [some (.ref x), l1, l2] (.ref x :: st) h := xo_aload (k := 0) (by decide +kernel) rfl
set_option maxRecDepth 20000 in
theorem u_X2_save_67N (l1 l2 : Option Value) (st : List Value) (h : xH) : xf 17 67 [some .null, l1, l2] st h = xf 17 68 [some .null, l1, l2] (.null :: st) h := xo_aloadN (k := 0) (by decide +kernel) rfl
set_option maxRecDepth 20000 in
theorem u_X2_save_68 (l1 l2 : Option Value) (x : Nat) (st : List Value) (h : xH) : xf 17 68 [some (.ref x), l1, l2] st h = xf 17 69 [some (.ref x), l1, l2] (.ref x :: st) h := xo_aload (k := 0) (by decide +kernel) rfl
set_option maxRecDepth 20000 in
theorem u_X2_save_68N (l1 l2 : Option Value) (st : List Value) (h : xH) : xf 17 68 [some .null, l1, l2] st h = xf 17 69 [some .null, l1, l2] (.null :: st) h := xo_aloadN (k := 0) (by decide +kernel) rfl
set_option maxRecDepth 20000 in
theorem u_X2_save_69 (L : xL) (a : Nat) (st : List Value) (h : xH) (hc : (xob h a).1 = 2) : xf 17 69 L (.ref a :: st) h = xf 17 72 L ((xob h a).2.getD 1 .null :: st) h := xo_getf (r := 129) (by decide +kernel) (by decide) hc
set_option maxRecDepth 20000 in
theorem u_X2_save_72 (L : xL) (st : List Value) (h : xH) : xf 17 72 L st h = xf 17 73 L (.int 1 :: st) h := xo_iconst (k := 1) (by decide +kernel) (by decide)
set_option maxRecDepth 20000 in
theorem u_X2_save_73 (L : xL) (a b : Int32) (st : List Value) (h : xH) : xf 17 73 L (.int b :: .int a :: st) h = xf 17 74 L (.int (a + b) :: st) h := xo_iadd (by decide +kernel)
set_option maxRecDepth 20000 in
theorem u_X2_save_74 (L : xL) (st : List Value) (h : xH) : xf 17 74 L st h = xf 17 76 L (.int 6 :: st) h := xo_iconst (k := 6) (by decide +kernel) (by decide)
set_option maxRecDepth 20000 in
theorem u_X2_save_76 (L : xL) (a b : Int32) (st : List Value) (h : xH) (hl : st.length ≤ 4) : xf 17 76 L (.int b :: .int a :: st) h = xf 17 79 L (.int (if b < a then b else a) :: st) h := xo_min (by decide +kernel) hl
set_option maxRecDepth 20000 in
theorem u_X2_save_79 (L : xL) (v : Int32) (a : Nat) (st : List Value) (h : xH) (hc : (xob h a).1 = 2) : xf 17 79 L (.int v :: .ref a :: st) h = xf 17 82 L st (xso h a 1 (.int v)) := xo_putf (r := 129) (by decide +kernel) (by decide) rfl hc
set_option maxRecDepth 20000 in
theorem u_X2_save_82 (L : xL) (h : xH) : xf 17 82 L [] h = some (.inl none, h) := xo_return (n := 83) (by decide +kernel) rfl
set_option maxRecDepth 20000 in
theorem e_X2_save (v0 : Nat) (v1 : Nat) (h : xH) : xev 17 [.ref v0, .ref v1] h = xf 17 0 [some (.ref v0), some (.ref v1), none] [] h := rfl
set_option maxRecDepth 20000 in
theorem u_X2_restore_0 (l1 l2 l3 : Option Value) (x : Nat) (st : List Value) (h : xH) : xf 18 0 [some (.ref x), l1, l2, l3] st h = xf 18 1 [some (.ref x), l1, l2, l3] (.ref x :: st) h := xo_aload (k := 0) (by decide +kernel) rfl
set_option maxRecDepth 20000 in
theorem u_X2_restore_0N (l1 l2 l3 : Option Value) (st : List Value) (h : xH) : xf 18 0 [some .null, l1, l2, l3] st h = xf 18 1 [some .null, l1, l2, l3] (.null :: st) h := xo_aloadN (k := 0) (by decide +kernel) rfl
set_option maxRecDepth 20000 in
theorem u_X2_restore_1 (L : xL) (a : Nat) (st : List Value) (h : xH) (hc : (xob h a).1 = 2) : xf 18 1 L (.ref a :: st) h = xf 18 4 L ((xob h a).2.getD 2 .null :: st) h := xo_getf (r := 130) (by decide +kernel) (by decide) hc
set_option maxRecDepth 20000 in
theorem u_X2_restore_4 (L : xL) (a : Int32) (st : List Value) (h : xH) : xf 18 4 L (.int a :: st) h = if 0 < a then xf 18 7 L st h else xf 18 16 L st h := xo_if_le (t := 16) (by decide +kernel) rfl
set_option maxRecDepth 20000 in
theorem u_X2_restore_7 (l1 l2 l3 : Option Value) (x : Nat) (st : List Value) (h : xH) : xf 18 7 [some (.ref x), l1, l2, l3] st h = xf 18 8 [some (.ref x), l1, l2, l3] (.ref x :: st) h := xo_aload (k := 0) (by decide +kernel) rfl
set_option maxRecDepth 20000 in
theorem u_X2_restore_7N (l1 l2 l3 : Option Value) (st : List Value) (h : xH) : xf 18 7 [some .null, l1, l2, l3] st h = xf 18 8 [some .null, l1, l2, l3] (.null :: st) h := xo_aloadN (k := 0) (by decide +kernel) rfl
set_option maxRecDepth 20000 in
theorem u_X2_restore_8 (L : xL) (a : Nat) (st : List Value) (h : xH) (hc : (xob h a).1 = 2) : xf 18 8 L (.ref a :: st) h = xf 18 11 L ((xob h a).2.getD 2 .null :: st) h := xo_getf (r := 130) (by decide +kernel) (by decide) hc
set_option maxRecDepth 20000 in
theorem u_X2_restore_11 (L : xL) (st : List Value) (h : xH) : xf 18 11 L st h = xf 18 12 L (.int 1 :: st) h := xo_iconst (k := 1) (by decide +kernel) (by decide)
set_option maxRecDepth 20000 in
theorem u_X2_restore_12 (L : xL) (a b : Int32) (st : List Value) (h : xH) : xf 18 12 L (.int b :: .int a :: st) h = xf 18 13 L (.int (a - b) :: st) h := xo_isub (by decide +kernel)
set_option maxRecDepth 20000 in
theorem u_X2_restore_13 (L : xL) (st : List Value) (h : xH) : xf 18 13 L st h = xf 18 17 L st h := xo_goto (n := 16) (t := 17) (by decide +kernel) rfl
set_option maxRecDepth 20000 in
theorem u_X2_restore_16 (L : xL) (st : List Value) (h : xH) : xf 18 16 L st h = xf 18 17 L (.int 5 :: st) h := xo_iconst (k := 5) (by decide +kernel) (by decide)
set_option maxRecDepth 20000 in
theorem u_X2_restore_17 (l0 l1 l2 l3 : Option Value) (x : Int32) (st : List Value) (h : xH) : xf 18 17 [l0, l1, l2, l3] (.int x :: st) h = xf 18 18 [l0, xcat l1, some (.int x), l3] st h := xo_istore (k := 2) (by decide +kernel) (Nat.le_of_ble_eq_true rfl) rfl
set_option maxRecDepth 20000 in
theorem u_X2_restore_18 (l0 l1 l3 : Option Value) (x : Int32) (st : List Value) (h : xH) : xf 18 18 [l0, l1, some (.int x), l3] st h = xf 18 19 [l0, l1, some (.int x), l3] (.int x :: st) h := xo_iload (k := 2) (by decide +kernel) rfl
set_option maxRecDepth 20000 in
theorem u_X2_restore_19 (L : xL) (a : Int32) (st : List Value) (h : xH) : xf 18 19 L (.int a :: st) h = if a < 0 then xf 18 40 L st h else xf 18 22 L st h := xo_if_lt (t := 40) (by decide +kernel) rfl
set_option maxRecDepth 20000 in
theorem u_X2_restore_22 (l0 l1 l3 : Option Value) (x : Int32) (st : List Value) (h : xH) : xf 18 22 [l0, l1, some (.int x), l3] st h = xf 18 23 [l0, l1, some (.int x), l3] (.int x :: st) h := xo_iload (k := 2) (by decide +kernel) rfl
set_option maxRecDepth 20000 in
theorem u_X2_restore_23 (l1 l2 l3 : Option Value) (x : Nat) (st : List Value) (h : xH) : xf 18 23 [some (.ref x), l1, l2, l3] st h = xf 18 24 [some (.ref x), l1, l2, l3] (.ref x :: st) h := xo_aload (k := 0) (by decide +kernel) rfl
set_option maxRecDepth 20000 in
theorem u_X2_restore_23N (l1 l2 l3 : Option Value) (st : List Value) (h : xH) : xf 18 23 [some .null, l1, l2, l3] st h = xf 18 24 [some .null, l1, l2, l3] (.null :: st) h := xo_aloadN (k := 0) (by decide +kernel) rfl
set_option maxRecDepth 20000 in
theorem u_X2_restore_24 (L : xL) (a : Nat) (st : List Value) (h : xH) (hc : (xob h a).1 = 2) : xf 18 24 L (.ref a :: st) h = xf 18 27 L ((xob h a).2.getD 0 .null :: st) h := xo_getf (r := 128) (by decide +kernel) (by decide) hc
set_option maxRecDepth 20000 in
theorem u_X2_restore_27 (L : xL) (a : Nat) (st : List Value) (h : xH) (hx : 0 < (xaq h a).1) : xf 18 27 L (.ref a :: st) h = xf 18 28 L (.int (Int32.ofNat (xaq h a).1) :: st) h := xo_alenq (by decide +kernel) hx
set_option maxRecDepth 20000 in
theorem u_X2_restore_28 (L : xL) (a b : Int32) (st : List Value) (h : xH) : xf 18 28 L (.int b :: .int a :: st) h = if a < b then xf 18 31 L st h else xf 18 40 L st h := xo_icmp_ge (t := 40) (by decide +kernel) rfl
set_option maxRecDepth 20000 in
theorem u_X2_restore_31 (l1 l2 l3 : Option Value) (x : Nat) (st : List Value) (h : xH) : xf 18 31 [some (.ref x), l1, l2, l3] st h = xf 18 32 [some (.ref x), l1, l2, l3] (.ref x :: st) h := xo_aload (k := 0) (by decide +kernel) rfl
set_option maxRecDepth 20000 in
theorem u_X2_restore_31N (l1 l2 l3 : Option Value) (st : List Value) (h : xH) : xf 18 31 [some .null, l1, l2, l3] st h = xf 18 32 [some .null, l1, l2, l3] (.null :: st) h := xo_aloadN (k := 0) (by decide +kernel) rfl
set_option maxRecDepth 20000 in
theorem u_X2_restore_32 (L : xL) (a : Nat) (st : List Value) (h : xH) (hc : (xob h a).1 = 2) : xf 18 32 L (.ref a :: st) h = xf 18 35 L ((xob h a).2.getD 0 .null :: st) h := xo_getf (r := 128) (by decide +kernel) (by decide) hc
set_option maxRecDepth 20000 in
theorem u_X2_restore_35 (l0 l1 l3 : Option Value) (x : Int32) (st : List Value) (h : xH) : xf 18 35 [l0, l1, some (.int x), l3] st h = xf 18 36 [l0, l1, some (.int x), l3] (.int x :: st) h := xo_iload (k := 2) (by decide +kernel) rfl
set_option maxRecDepth 20000 in
theorem u_X2_restore_36 (L : xL) (i : Int32) (a : Nat) (st : List Value) (h : xH) (hx : xix i (xaq h a).1) : xf 18 36 L (.int i :: .ref a :: st) h = xf 18 37 L (va_rf ((xaq h a).2 i.toNatClampNeg) :: st) h := xo_aaload (by decide +kernel) hx
set_option maxRecDepth 20000 in
theorem u_X2_restore_37 (L : xL) (st : List Value) (h : xH) : xf 18 37 L st h = xf 18 41 L st h := xo_goto (n := 40) (t := 41) (by decide +kernel) rfl
set_option maxRecDepth 20000 in
theorem u_X2_restore_40 (L : xL) (st : List Value) (h : xH) : xf 18 40 L st h = xf 18 41 L (.null :: st) h := xo_null (by decide +kernel)
set_option maxRecDepth 20000 in
theorem u_X2_restore_41 (l0 l1 l2 l3 : Option Value) (x : Nat) (st : List Value) (h : xH) : xf 18 41 [l0, l1, l2, l3] (.ref x :: st) h = xf 18 42 [l0, l1, xcat l2, some (.ref x)] st h := xo_astore (k := 3) (by decide +kernel) (Nat.le_of_ble_eq_true rfl) rfl
set_option maxRecDepth 20000 in
theorem u_X2_restore_41N (l0 l1 l2 l3 : Option Value) (st : List Value) (h : xH) : xf 18 41 [l0, l1, l2, l3] (.null :: st) h = xf 18 42 [l0, l1, xcat l2, some (.null)] st h := xo_astoreN (k := 3) (by decide +kernel) (Nat.le_of_ble_eq_true rfl) rfl
set_option maxRecDepth 20000 in
theorem u_X2_restore_42 (l0 l1 l2 : Option Value) (x : Nat) (st : List Value) (h : xH) : xf 18 42 [l0, l1, l2, some (.ref x)] st h = xf 18 43 [l0, l1, l2, some (.ref x)] (.ref x :: st) h := xo_aload (k := 3) (by decide +kernel) rfl
set_option maxRecDepth 20000 in
theorem u_X2_restore_42N (l0 l1 l2 : Option Value) (st : List Value) (h : xH) : xf 18 42 [l0, l1, l2, some .null] st h = xf 18 43 [l0, l1, l2, some .null] (.null :: st) h := xo_aloadN (k := 3) (by decide +kernel) rfl
set_option maxRecDepth 20000 in
theorem u_X2_restore_43N (L : xL) (st : List Value) (h : xH) : xf 18 43 L (.null :: st) h = xf 18 73 L st h := xo_ifnullN (n := 46) (t := 73) (by decide +kernel) rfl
set_option maxRecDepth 20000 in
theorem u_X2_restore_43 (L : xL) (a : Nat) (st : List Value) (h : xH) : xf 18 43 L (.ref a :: st) h = xf 18 46 L st h := xo_ifnull (t := 73) (by decide +kernel)
set_option maxRecDepth 20000 in
theorem u_X2_restore_46 (l1 l2 l3 : Option Value) (x : Nat) (st : List Value) (h : xH) : xf 18 46 [some (.ref x), l1, l2, l3] st h = xf 18 47 [some (.ref x), l1, l2, l3] (.ref x :: st) h := xo_aload (k := 0) (by decide +kernel) rfl
set_option maxRecDepth 20000 in
theorem u_X2_restore_46N (l1 l2 l3 : Option Value) (st : List Value) (h : xH) : xf 18 46 [some .null, l1, l2, l3] st h = xf 18 47 [some .null, l1, l2, l3] (.null :: st) h := xo_aloadN (k := 0) (by decide +kernel) rfl
set_option maxRecDepth 20000 in
theorem u_X2_restore_47 (L : xL) (a : Nat) (st : List Value) (h : xH) (hc : (xob h a).1 = 2) : xf 18 47 L (.ref a :: st) h = xf 18 50 L ((xob h a).2.getD 1 .null :: st) h := xo_getf (r := 129) (by decide +kernel) (by decide) hc
set_option maxRecDepth 20000 in
theorem u_X2_restore_50 (L : xL) (a : Int32) (st : List Value) (h : xH) : xf 18 50 L (.int a :: st) h = if 0 < a then xf 18 53 L st h else xf 18 73 L st h := xo_if_le (t := 73) (by decide +kernel) rfl
set_option maxRecDepth 20000 in
theorem u_X2_restore_53 (l0 l2 l3 : Option Value) (x : Nat) (st : List Value) (h : xH) : xf 18 53 [l0, some (.ref x), l2, l3] st h = xf 18 54 [l0, some (.ref x), l2, l3] (.ref x :: st) h := xo_aload (k := 1) (by decide +kernel) rfl
set_option maxRecDepth 20000 in
theorem u_X2_restore_53N (l0 l2 l3 : Option Value) (st : List Value) (h : xH) : xf 18 53 [l0, some .null, l2, l3] st h = xf 18 54 [l0, some .null, l2, l3] (.null :: st) h := xo_aloadN (k := 1) (by decide +kernel) rfl
set_option maxRecDepth 20000 in
theorem u_X2_restore_54 (l0 l1 l2 : Option Value) (x : Nat) (st : List Value) (h : xH) : xf 18 54 [l0, l1, l2, some (.ref x)] st h = xf 18 55 [l0, l1, l2, some (.ref x)] (.ref x :: st) h := xo_aload (k := 3) (by decide +kernel) rfl
set_option maxRecDepth 20000 in
theorem u_X2_restore_54N (l0 l1 l2 : Option Value) (st : List Value) (h : xH) : xf 18 54 [l0, l1, l2, some .null] st h = xf 18 55 [l0, l1, l2, some .null] (.null :: st) h := xo_aloadN (k := 3) (by decide +kernel) rfl
set_option maxRecDepth 20000 in
theorem u_X2_restore_55 (L : xL) (v0 : Nat) (b : Nat) (st : List Value) (h : xH) (hb : (xob h b).1 = 6) (hl : st.length ≤ 4) : xf 18 55 L (.ref v0 :: .ref b :: st) h = xgo 18 55 58 L st (xev 48 [.ref b, .ref v0] h) := xo_callV (as := [.ref v0]) (by decide +kernel) rfl ⟨(by decide +kernel : xna 48 = 1), Nat.le_of_ble_eq_true rfl, rfl, by decide⟩ hb hl
set_option maxRecDepth 20000 in
theorem u_X2_restore_58 (l1 l2 l3 : Option Value) (x : Nat) (st : List Value) (h : xH) : xf 18 58 [some (.ref x), l1, l2, l3] st h = xf 18 59 [some (.ref x), l1, l2, l3] (.ref x :: st) h := xo_aload (k := 0) (by decide +kernel) rfl
set_option maxRecDepth 20000 in
theorem u_X2_restore_58N (l1 l2 l3 : Option Value) (st : List Value) (h : xH) : xf 18 58 [some .null, l1, l2, l3] st h = xf 18 59 [some .null, l1, l2, l3] (.null :: st) h := xo_aloadN (k := 0) (by decide +kernel) rfl
set_option maxRecDepth 20000 in
theorem u_X2_restore_59 (l0 l1 l3 : Option Value) (x : Int32) (st : List Value) (h : xH) : xf 18 59 [l0, l1, some (.int x), l3] st h = xf 18 60 [l0, l1, some (.int x), l3] (.int x :: st) h := xo_iload (k := 2) (by decide +kernel) rfl
set_option maxRecDepth 20000 in
theorem u_X2_restore_60 (L : xL) (v : Int32) (a : Nat) (st : List Value) (h : xH) (hc : (xob h a).1 = 2) : xf 18 60 L (.int v :: .ref a :: st) h = xf 18 63 L st (xso h a 2 (.int v)) := xo_putf (r := 130) (by decide +kernel) (by decide) rfl hc
set_option maxRecDepth 20000 in
theorem u_X2_restore_63 (l1 l2 l3 : Option Value) (x : Nat) (st : List Value) (h : xH) : xf 18 63 [some (.ref x), l1, l2, l3] st h = xf 18 64 [some (.ref x), l1, l2, l3] (.ref x :: st) h := xo_aload (k := 0) (by decide +kernel) rfl
set_option maxRecDepth 20000 in
theorem u_X2_restore_63N (l1 l2 l3 : Option Value) (st : List Value) (h : xH) : xf 18 63 [some .null, l1, l2, l3] st h = xf 18 64 [some .null, l1, l2, l3] (.null :: st) h := xo_aloadN (k := 0) (by decide +kernel) rfl
set_option maxRecDepth 20000 in
theorem u_X2_restore_64 (L : xL) (a : Nat) (st : List Value) (h : xH) : xf 18 64 L (.ref a :: st) h = xf 18 65 L (.ref a :: .ref a :: st) h := xo_dupR (by decide +kernel)
set_option maxRecDepth 20000 in
theorem u_X2_restore_65 (L : xL) (a : Nat) (st : List Value) (h : xH) (hc : (xob h a).1 = 2) : xf 18 65 L (.ref a :: st) h = xf 18 68 L ((xob h a).2.getD 1 .null :: st) h := xo_getf (r := 129) (by decide +kernel) (by decide) hc
set_option maxRecDepth 20000 in
theorem u_X2_restore_68 (L : xL) (st : List Value) (h : xH) : xf 18 68 L st h = xf 18 69 L (.int 1 :: st) h := xo_iconst (k := 1) (by decide +kernel) (by decide)
set_option maxRecDepth 20000 in
theorem u_X2_restore_69 (L : xL) (a b : Int32) (st : List Value) (h : xH) : xf 18 69 L (.int b :: .int a :: st) h = xf 18 70 L (.int (a - b) :: st) h := xo_isub (by decide +kernel)
set_option maxRecDepth 20000 in
theorem u_X2_restore_70 (L : xL) (v : Int32) (a : Nat) (st : List Value) (h : xH) (hc : (xob h a).1 = 2) : xf 18 70 L (.int v :: .ref a :: st) h = xf 18 73 L st (xso h a 1 (.int v)) := xo_putf (r := 129) (by decide +kernel) (by decide) rfl hc
set_option maxRecDepth 20000 in
theorem u_X2_restore_73 (L : xL) (h : xH) : xf 18 73 L [] h = some (.inl none, h) := xo_return (n := 74) (by decide +kernel) rfl
set_option maxRecDepth 20000 in
theorem e_X2_restore (v0 : Nat) (v1 : Nat) (h : xH) : xev 18 [.ref v0, .ref v1] h = xf 18 0 [some (.ref v0), some (.ref v1), none, none] [] h := rfl
set_option maxRecDepth 20000 in
theorem u_X3_init_0 (l1 : Option Value) (x : Nat) (st : List Value) (h : xH) : xf 19 0 [some (.ref x), l1] st h = xf 19 1 [some (.ref x), l1] (.ref x :: st) h := xo_aload (k := 0) (by decide +kernel) rfl
set_option maxRecDepth 20000 in
theorem u_X3_init_1 (L : xL) (a : Nat) (st : List Value) (h : xH) (hl : st.length ≤ 4) : xf 19 1 L (.ref a :: st) h = xf 19 4 L st h := xo_objinit (by decide +kernel) hl
set_option maxRecDepth 20000 in
theorem u_X3_init_4 (l1 : Option Value) (x : Nat) (st : List Value) (h : xH) : xf 19 4 [some (.ref x), l1] st h = xf 19 5 [some (.ref x), l1] (.ref x :: st) h := xo_aload (k := 0) (by decide +kernel) rfl
set_option maxRecDepth 20000 in
theorem u_X3_init_5 (L : xL) (st : List Value) (h : xH) (hn : h.2.1 ≠ 0) : xf 19 5 L st h = xf 19 8 L (.ref h.2.1 :: st) (xnew h (.inr (1, xdef 1)) 1) := xo_new (c := 1) (by decide +kernel) (by decide) hn
set_option maxRecDepth 20000 in
theorem u_X3_init_8 (L : xL) (a : Nat) (st : List Value) (h : xH) : xf 19 8 L (.ref a :: st) h = xf 19 9 L (.ref a :: .ref a :: st) h := xo_dupR (by decide +kernel)
set_option maxRecDepth 20000 in
theorem u_X3_init_9 (L : xL) (st : List Value) (h : xH) : xf 19 9 L st h = xf 19 11 L (.int 24 :: st) h := xo_iconst (k := 24) (by decide +kernel) (by decide)
set_option maxRecDepth 20000 in
theorem u_X3_init_11 (L : xL) (v0 : Int32) (b : Nat) (st : List Value) (h : xH) (hl : st.length ≤ 4) : xf 19 11 L (.int v0 :: .ref b :: st) h = xgoI 19 11 14 L st (xev 11 [.ref b, .int v0] h) := xo_callI (as := [.int v0]) (by decide +kernel) rfl ⟨(by decide +kernel : xna 11 = 1), Nat.le_of_ble_eq_true rfl, by decide⟩ hl
set_option maxRecDepth 20000 in
theorem u_X3_init_14 (L : xL) (v : Nat) (a : Nat) (st : List Value) (h : xH) (hc : (xob h a).1 = 3) : xf 19 14 L (.ref v :: .ref a :: st) h = xf 19 17 L st (xso h a 0 (.ref v)) := xo_putf (r := 192) (by decide +kernel) (by decide) rfl hc
set_option maxRecDepth 20000 in
theorem u_X3_init_17 (l1 : Option Value) (x : Nat) (st : List Value) (h : xH) : xf 19 17 [some (.ref x), l1] st h = xf 19 18 [some (.ref x), l1] (.ref x :: st) h := xo_aload (k := 0) (by decide +kernel) rfl
set_option maxRecDepth 20000 in
theorem u_X3_init_18 (L : xL) (st : List Value) (h : xH) (hn : h.2.1 ≠ 0) : xf 19 18 L st h = xf 19 21 L (.ref h.2.1 :: st) (xnew h (.inr (1, xdef 1)) 1) := xo_new (c := 1) (by decide +kernel) (by decide) hn
set_option maxRecDepth 20000 in
theorem u_X3_init_21 (L : xL) (a : Nat) (st : List Value) (h : xH) : xf 19 21 L (.ref a :: st) h = xf 19 22 L (.ref a :: .ref a :: st) h := xo_dupR (by decide +kernel)
set_option maxRecDepth 20000 in
theorem u_X3_init_22 (L : xL) (st : List Value) (h : xH) : xf 19 22 L st h = xf 19 24 L (.int 24 :: st) h := xo_iconst (k := 24) (by decide +kernel) (by decide)
set_option maxRecDepth 20000 in
theorem u_X3_init_24 (L : xL) (v0 : Int32) (b : Nat) (st : List Value) (h : xH) (hl : st.length ≤ 4) : xf 19 24 L (.int v0 :: .ref b :: st) h = xgoI 19 24 27 L st (xev 11 [.ref b, .int v0] h) := xo_callI (as := [.int v0]) (by decide +kernel) rfl ⟨(by decide +kernel : xna 11 = 1), Nat.le_of_ble_eq_true rfl, by decide⟩ hl
set_option maxRecDepth 20000 in
theorem u_X3_init_27 (L : xL) (v : Nat) (a : Nat) (st : List Value) (h : xH) (hc : (xob h a).1 = 3) : xf 19 27 L (.ref v :: .ref a :: st) h = xf 19 30 L st (xso h a 1 (.ref v)) := xo_putf (r := 193) (by decide +kernel) (by decide) rfl hc
set_option maxRecDepth 20000 in
theorem u_X3_init_30 (l1 : Option Value) (x : Nat) (st : List Value) (h : xH) : xf 19 30 [some (.ref x), l1] st h = xf 19 31 [some (.ref x), l1] (.ref x :: st) h := xo_aload (k := 0) (by decide +kernel) rfl
set_option maxRecDepth 20000 in
theorem u_X3_init_31 (L : xL) (st : List Value) (h : xH) (hn : h.2.1 ≠ 0) : xf 19 31 L st h = xf 19 34 L (.ref h.2.1 :: st) (xnew h (.inr (1, xdef 1)) 1) := xo_new (c := 1) (by decide +kernel) (by decide) hn
set_option maxRecDepth 20000 in
theorem u_X3_init_34 (L : xL) (a : Nat) (st : List Value) (h : xH) : xf 19 34 L (.ref a :: st) h = xf 19 35 L (.ref a :: .ref a :: st) h := xo_dupR (by decide +kernel)
set_option maxRecDepth 20000 in
theorem u_X3_init_35 (L : xL) (st : List Value) (h : xH) : xf 19 35 L st h = xf 19 37 L (.int 24 :: st) h := xo_iconst (k := 24) (by decide +kernel) (by decide)
set_option maxRecDepth 20000 in
theorem u_X3_init_37 (L : xL) (v0 : Int32) (b : Nat) (st : List Value) (h : xH) (hl : st.length ≤ 4) : xf 19 37 L (.int v0 :: .ref b :: st) h = xgoI 19 37 40 L st (xev 11 [.ref b, .int v0] h) := xo_callI (as := [.int v0]) (by decide +kernel) rfl ⟨(by decide +kernel : xna 11 = 1), Nat.le_of_ble_eq_true rfl, by decide⟩ hl
set_option maxRecDepth 20000 in
theorem u_X3_init_40 (L : xL) (v : Nat) (a : Nat) (st : List Value) (h : xH) (hc : (xob h a).1 = 3) : xf 19 40 L (.ref v :: .ref a :: st) h = xf 19 43 L st (xso h a 2 (.ref v)) := xo_putf (r := 194) (by decide +kernel) (by decide) rfl hc
set_option maxRecDepth 20000 in
theorem u_X3_init_43 (l1 : Option Value) (x : Nat) (st : List Value) (h : xH) : xf 19 43 [some (.ref x), l1] st h = xf 19 44 [some (.ref x), l1] (.ref x :: st) h := xo_aload (k := 0) (by decide +kernel) rfl
set_option maxRecDepth 20000 in
theorem u_X3_init_44 (L : xL) (st : List Value) (h : xH) (hn : h.2.1 ≠ 0) : xf 19 44 L st h = xf 19 47 L (.ref h.2.1 :: st) (xnew h (.inr (1, xdef 1)) 1) := xo_new (c := 1) (by decide +kernel) (by decide) hn
set_option maxRecDepth 20000 in
theorem u_X3_init_47 (L : xL) (a : Nat) (st : List Value) (h : xH) : xf 19 47 L (.ref a :: st) h = xf 19 48 L (.ref a :: .ref a :: st) h := xo_dupR (by decide +kernel)
set_option maxRecDepth 20000 in
theorem u_X3_init_48 (L : xL) (st : List Value) (h : xH) : xf 19 48 L st h = xf 19 50 L (.int 24 :: st) h := xo_iconst (k := 24) (by decide +kernel) (by decide)
set_option maxRecDepth 20000 in
theorem u_X3_init_50 (L : xL) (v0 : Int32) (b : Nat) (st : List Value) (h : xH) (hl : st.length ≤ 4) : xf 19 50 L (.int v0 :: .ref b :: st) h = xgoI 19 50 53 L st (xev 11 [.ref b, .int v0] h) := xo_callI (as := [.int v0]) (by decide +kernel) rfl ⟨(by decide +kernel : xna 11 = 1), Nat.le_of_ble_eq_true rfl, by decide⟩ hl
set_option maxRecDepth 20000 in
theorem u_X3_init_53 (L : xL) (v : Nat) (a : Nat) (st : List Value) (h : xH) (hc : (xob h a).1 = 3) : xf 19 53 L (.ref v :: .ref a :: st) h = xf 19 56 L st (xso h a 3 (.ref v)) := xo_putf (r := 195) (by decide +kernel) (by decide) rfl hc
set_option maxRecDepth 20000 in
theorem u_X3_init_56 (L : xL) (st : List Value) (h : xH) : xf 19 56 L st h = xf 19 57 L (.int 0 :: st) h := xo_iconst (k := 0) (by decide +kernel) (by decide)
set_option maxRecDepth 20000 in
theorem u_X3_init_57 (l0 l1 : Option Value) (x : Int32) (st : List Value) (h : xH) : xf 19 57 [l0, l1] (.int x :: st) h = xf 19 58 [xcat l0, some (.int x)] st h := xo_istore (k := 1) (by decide +kernel) (Nat.le_of_ble_eq_true rfl) rfl
set_option maxRecDepth 20000 in
theorem u_X3_init_58 (l0 : Option Value) (x : Int32) (st : List Value) (h : xH) : xf 19 58 [l0, some (.int x)] st h = xf 19 59 [l0, some (.int x)] (.int x :: st) h := xo_iload (k := 1) (by decide +kernel) rfl
set_option maxRecDepth 20000 in
theorem u_X3_init_59 (L : xL) (st : List Value) (h : xH) : xf 19 59 L st h = xf 19 61 L (.int 24 :: st) h := xo_iconst (k := 24) (by decide +kernel) (by decide)
set_option maxRecDepth 20000 in
theorem u_X3_init_61 (L : xL) (a b : Int32) (st : List Value) (h : xH) : xf 19 61 L (.int b :: .int a :: st) h = if a < b then xf 19 64 L st h else xf 19 107 L st h := xo_icmp_ge (t := 107) (by decide +kernel) rfl
set_option maxRecDepth 20000 in
theorem u_X3_init_64 (l1 : Option Value) (x : Nat) (st : List Value) (h : xH) : xf 19 64 [some (.ref x), l1] st h = xf 19 65 [some (.ref x), l1] (.ref x :: st) h := xo_aload (k := 0) (by decide +kernel) rfl
set_option maxRecDepth 20000 in
theorem u_X3_init_65 (L : xL) (a : Nat) (st : List Value) (h : xH) (hc : (xob h a).1 = 3) : xf 19 65 L (.ref a :: st) h = xf 19 68 L ((xob h a).2.getD 0 .null :: st) h := xo_getf (r := 192) (by decide +kernel) (by decide) hc
set_option maxRecDepth 20000 in
theorem u_X3_init_68 (l0 : Option Value) (x : Int32) (st : List Value) (h : xH) : xf 19 68 [l0, some (.int x)] st h = xf 19 69 [l0, some (.int x)] (.int x :: st) h := xo_iload (k := 1) (by decide +kernel) rfl
set_option maxRecDepth 20000 in
theorem u_X3_init_69 (L : xL) (st : List Value) (h : xH) : xf 19 69 L st h = xf 19 70 L (.int (-1) :: st) h := xo_iconst (k := (-1)) (by decide +kernel) (by decide)
set_option maxRecDepth 20000 in
theorem u_X3_init_70 (L : xL) (v0 : Int32) (v1 : Int32) (b : Nat) (st : List Value) (h : xH) (hb : (xob h b).1 = 1) (hl : st.length ≤ 4) : xf 19 70 L (.int v1 :: .int v0 :: .ref b :: st) h = xgo 19 70 73 L st (xev 13 [.ref b, .int v0, .int v1] h) := xo_callV (as := [.int v0, .int v1]) (by decide +kernel) rfl ⟨(by decide +kernel : xna 13 = 2), Nat.le_of_ble_eq_true rfl, rfl, by decide⟩ hb hl
set_option maxRecDepth 20000 in
theorem u_X3_init_73 (l1 : Option Value) (x : Nat) (st : List Value) (h : xH) : xf 19 73 [some (.ref x), l1] st h = xf 19 74 [some (.ref x), l1] (.ref x :: st) h := xo_aload (k := 0) (by decide +kernel) rfl
set_option maxRecDepth 20000 in
theorem u_X3_init_74 (L : xL) (a : Nat) (st : List Value) (h : xH) (hc : (xob h a).1 = 3) : xf 19 74 L (.ref a :: st) h = xf 19 77 L ((xob h a).2.getD 1 .null :: st) h := xo_getf (r := 193) (by decide +kernel) (by decide) hc
set_option maxRecDepth 20000 in
theorem u_X3_init_77 (l0 : Option Value) (x : Int32) (st : List Value) (h : xH) : xf 19 77 [l0, some (.int x)] st h = xf 19 78 [l0, some (.int x)] (.int x :: st) h := xo_iload (k := 1) (by decide +kernel) rfl
set_option maxRecDepth 20000 in
theorem u_X3_init_78 (L : xL) (st : List Value) (h : xH) : xf 19 78 L st h = xf 19 79 L (.int (-1) :: st) h := xo_iconst (k := (-1)) (by decide +kernel) (by decide)
set_option maxRecDepth 20000 in
theorem u_X3_init_79 (L : xL) (v0 : Int32) (v1 : Int32) (b : Nat) (st : List Value) (h : xH) (hb : (xob h b).1 = 1) (hl : st.length ≤ 4) : xf 19 79 L (.int v1 :: .int v0 :: .ref b :: st) h = xgo 19 79 82 L st (xev 13 [.ref b, .int v0, .int v1] h) := xo_callV (as := [.int v0, .int v1]) (by decide +kernel) rfl ⟨(by decide +kernel : xna 13 = 2), Nat.le_of_ble_eq_true rfl, rfl, by decide⟩ hb hl
set_option maxRecDepth 20000 in
theorem u_X3_init_82 (l1 : Option Value) (x : Nat) (st : List Value) (h : xH) : xf 19 82 [some (.ref x), l1] st h = xf 19 83 [some (.ref x), l1] (.ref x :: st) h := xo_aload (k := 0) (by decide +kernel) rfl
set_option maxRecDepth 20000 in
theorem u_X3_init_83 (L : xL) (a : Nat) (st : List Value) (h : xH) (hc : (xob h a).1 = 3) : xf 19 83 L (.ref a :: st) h = xf 19 86 L ((xob h a).2.getD 3 .null :: st) h := xo_getf (r := 195) (by decide +kernel) (by decide) hc
set_option maxRecDepth 20000 in
theorem u_X3_init_86 (l0 : Option Value) (x : Int32) (st : List Value) (h : xH) : xf 19 86 [l0, some (.int x)] st h = xf 19 87 [l0, some (.int x)] (.int x :: st) h := xo_iload (k := 1) (by decide +kernel) rfl
set_option maxRecDepth 20000 in
theorem u_X3_init_87 (l0 : Option Value) (x : Int32) (st : List Value) (h : xH) : xf 19 87 [l0, some (.int x)] st h = xf 19 88 [l0, some (.int x)] (.int x :: st) h := xo_iload (k := 1) (by decide +kernel) rfl
set_option maxRecDepth 20000 in
theorem u_X3_init_88 (L : xL) (st : List Value) (h : xH) : xf 19 88 L st h = xf 19 90 L (.int 8 :: st) h := xo_iconst (k := 8) (by decide +kernel) (by decide)
set_option maxRecDepth 20000 in
theorem u_X3_init_90 (L : xL) (a b : Int32) (st : List Value) (h : xH) : xf 19 90 L (.int b :: .int a :: st) h = if a < b then xf 19 93 L st h else xf 19 97 L st h := xo_icmp_ge (t := 97) (by decide +kernel) rfl
set_option maxRecDepth 20000 in
theorem u_X3_init_93 (L : xL) (st : List Value) (h : xH) : xf 19 93 L st h = xf 19 94 L (.int 1 :: st) h := xo_iconst (k := 1) (by decide +kernel) (by decide)
set_option maxRecDepth 20000 in
theorem u_X3_init_94 (L : xL) (st : List Value) (h : xH) : xf 19 94 L st h = xf 19 98 L st h := xo_goto (n := 97) (t := 98) (by decide +kernel) rfl
set_option maxRecDepth 20000 in
theorem u_X3_init_97 (L : xL) (st : List Value) (h : xH) : xf 19 97 L st h = xf 19 98 L (.int 0 :: st) h := xo_iconst (k := 0) (by decide +kernel) (by decide)
set_option maxRecDepth 20000 in
theorem u_X3_init_98 (L : xL) (v0 : Int32) (v1 : Int32) (b : Nat) (st : List Value) (h : xH) (hb : (xob h b).1 = 1) (hl : st.length ≤ 4) : xf 19 98 L (.int v1 :: .int v0 :: .ref b :: st) h = xgo 19 98 101 L st (xev 13 [.ref b, .int v0, .int v1] h) := xo_callV (as := [.int v0, .int v1]) (by decide +kernel) rfl ⟨(by decide +kernel : xna 13 = 2), Nat.le_of_ble_eq_true rfl, rfl, by decide⟩ hb hl
set_option maxRecDepth 20000 in
theorem u_X3_init_101 (l0 : Option Value) (x : Int32) (st : List Value) (h : xH) : xf 19 101 [l0, some (.int x)] st h = xf 19 104 [xcat l0, some (.int (x + 1))] st h := xo_iinc (k := 1) (c := 1) (by decide +kernel) rfl (by decide) rfl
set_option maxRecDepth 20000 in
theorem u_X3_init_104 (L : xL) (st : List Value) (h : xH) : xf 19 104 L st h = xf 19 58 L st h := xo_goto (n := 107) (t := 58) (by decide +kernel) rfl
set_option maxRecDepth 20000 in
theorem u_X3_init_107 (L : xL) (h : xH) : xf 19 107 L [] h = some (.inl none, h) := xo_return (n := 108) (by decide +kernel) rfl
set_option maxRecDepth 20000 in
theorem e_X3_init (v0 : Nat) (h : xH) : xev 19 [.ref v0] h = xf 19 0 [some (.ref v0), none] [] h := rfl
set_option maxRecDepth 20000 in
theorem u_X3_copyFrom_0 (l1 : Option Value) (x : Nat) (st : List Value) (h : xH) : xf 20 0 [some (.ref x), l1] st h = xf 20 1 [some (.ref x), l1] (.ref x :: st) h := xo_aload (k := 0) (by decide +kernel) rfl
set_option maxRecDepth 20000 in
theorem u_X3_copyFrom_1 (L : xL) (a : Nat) (st : List Value) (h : xH) (hc : (xob h a).1 = 3) : xf 20 1 L (.ref a :: st) h = xf 20 4 L ((xob h a).2.getD 0 .null :: st) h := xo_getf (r := 192) (by decide +kernel) (by decide) hc
set_option maxRecDepth 20000 in
theorem u_X3_copyFrom_4 (l0 : Option Value) (x : Nat) (st : List Value) (h : xH) : xf 20 4 [l0, some (.ref x)] st h = xf 20 5 [l0, some (.ref x)] (.ref x :: st) h := xo_aload (k := 1) (by decide +kernel) rfl
set_option maxRecDepth 20000 in
theorem u_X3_copyFrom_5 (L : xL) (a : Nat) (st : List Value) (h : xH) (hc : (xob h a).1 = 3) : xf 20 5 L (.ref a :: st) h = xf 20 8 L ((xob h a).2.getD 0 .null :: st) h := xo_getf (r := 192) (by decide +kernel) (by decide) hc
set_option maxRecDepth 20000 in
theorem u_X3_copyFrom_8 (L : xL) (v0 : Nat) (b : Nat) (st : List Value) (h : xH) (hb : (xob h b).1 = 1) (hl : st.length ≤ 4) : xf 20 8 L (.ref v0 :: .ref b :: st) h = xgo 20 8 11 L st (xev 15 [.ref b, .ref v0] h) := xo_callV (as := [.ref v0]) (by decide +kernel) rfl ⟨(by decide +kernel : xna 15 = 1), Nat.le_of_ble_eq_true rfl, rfl, by decide⟩ hb hl
set_option maxRecDepth 20000 in
theorem u_X3_copyFrom_11 (l1 : Option Value) (x : Nat) (st : List Value) (h : xH) : xf 20 11 [some (.ref x), l1] st h = xf 20 12 [some (.ref x), l1] (.ref x :: st) h := xo_aload (k := 0) (by decide +kernel) rfl
set_option maxRecDepth 20000 in
theorem u_X3_copyFrom_12 (L : xL) (a : Nat) (st : List Value) (h : xH) (hc : (xob h a).1 = 3) : xf 20 12 L (.ref a :: st) h = xf 20 15 L ((xob h a).2.getD 1 .null :: st) h := xo_getf (r := 193) (by decide +kernel) (by decide) hc
set_option maxRecDepth 20000 in
theorem u_X3_copyFrom_15 (l0 : Option Value) (x : Nat) (st : List Value) (h : xH) : xf 20 15 [l0, some (.ref x)] st h = xf 20 16 [l0, some (.ref x)] (.ref x :: st) h := xo_aload (k := 1) (by decide +kernel) rfl
set_option maxRecDepth 20000 in
theorem u_X3_copyFrom_16 (L : xL) (a : Nat) (st : List Value) (h : xH) (hc : (xob h a).1 = 3) : xf 20 16 L (.ref a :: st) h = xf 20 19 L ((xob h a).2.getD 1 .null :: st) h := xo_getf (r := 193) (by decide +kernel) (by decide) hc
set_option maxRecDepth 20000 in
theorem u_X3_copyFrom_19 (L : xL) (v0 : Nat) (b : Nat) (st : List Value) (h : xH) (hb : (xob h b).1 = 1) (hl : st.length ≤ 4) : xf 20 19 L (.ref v0 :: .ref b :: st) h = xgo 20 19 22 L st (xev 15 [.ref b, .ref v0] h) := xo_callV (as := [.ref v0]) (by decide +kernel) rfl ⟨(by decide +kernel : xna 15 = 1), Nat.le_of_ble_eq_true rfl, rfl, by decide⟩ hb hl
set_option maxRecDepth 20000 in
theorem u_X3_copyFrom_22 (l1 : Option Value) (x : Nat) (st : List Value) (h : xH) : xf 20 22 [some (.ref x), l1] st h = xf 20 23 [some (.ref x), l1] (.ref x :: st) h := xo_aload (k := 0) (by decide +kernel) rfl
set_option maxRecDepth 20000 in
theorem u_X3_copyFrom_23 (L : xL) (a : Nat) (st : List Value) (h : xH) (hc : (xob h a).1 = 3) : xf 20 23 L (.ref a :: st) h = xf 20 26 L ((xob h a).2.getD 2 .null :: st) h := xo_getf (r := 194) (by decide +kernel) (by decide) hc
set_option maxRecDepth 20000 in
theorem u_X3_copyFrom_26 (l0 : Option Value) (x : Nat) (st : List Value) (h : xH) : xf 20 26 [l0, some (.ref x)] st h = xf 20 27 [l0, some (.ref x)] (.ref x :: st) h := xo_aload (k := 1) (by decide +kernel) rfl
set_option maxRecDepth 20000 in
theorem u_X3_copyFrom_27 (L : xL) (a : Nat) (st : List Value) (h : xH) (hc : (xob h a).1 = 3) : xf 20 27 L (.ref a :: st) h = xf 20 30 L ((xob h a).2.getD 2 .null :: st) h := xo_getf (r := 194) (by decide +kernel) (by decide) hc
set_option maxRecDepth 20000 in
theorem u_X3_copyFrom_30 (L : xL) (v0 : Nat) (b : Nat) (st : List Value) (h : xH) (hb : (xob h b).1 = 1) (hl : st.length ≤ 4) : xf 20 30 L (.ref v0 :: .ref b :: st) h = xgo 20 30 33 L st (xev 15 [.ref b, .ref v0] h) := xo_callV (as := [.ref v0]) (by decide +kernel) rfl ⟨(by decide +kernel : xna 15 = 1), Nat.le_of_ble_eq_true rfl, rfl, by decide⟩ hb hl
set_option maxRecDepth 20000 in
theorem u_X3_copyFrom_33 (l1 : Option Value) (x : Nat) (st : List Value) (h : xH) : xf 20 33 [some (.ref x), l1] st h = xf 20 34 [some (.ref x), l1] (.ref x :: st) h := xo_aload (k := 0) (by decide +kernel) rfl
set_option maxRecDepth 20000 in
theorem u_X3_copyFrom_34 (L : xL) (a : Nat) (st : List Value) (h : xH) (hc : (xob h a).1 = 3) : xf 20 34 L (.ref a :: st) h = xf 20 37 L ((xob h a).2.getD 3 .null :: st) h := xo_getf (r := 195) (by decide +kernel) (by decide) hc
set_option maxRecDepth 20000 in
theorem u_X3_copyFrom_37 (l0 : Option Value) (x : Nat) (st : List Value) (h : xH) : xf 20 37 [l0, some (.ref x)] st h = xf 20 38 [l0, some (.ref x)] (.ref x :: st) h := xo_aload (k := 1) (by decide +kernel) rfl
set_option maxRecDepth 20000 in
theorem u_X3_copyFrom_38 (L : xL) (a : Nat) (st : List Value) (h : xH) (hc : (xob h a).1 = 3) : xf 20 38 L (.ref a :: st) h = xf 20 41 L ((xob h a).2.getD 3 .null :: st) h := xo_getf (r := 195) (by decide +kernel) (by decide) hc
set_option maxRecDepth 20000 in
theorem u_X3_copyFrom_41 (L : xL) (v0 : Nat) (b : Nat) (st : List Value) (h : xH) (hb : (xob h b).1 = 1) (hl : st.length ≤ 4) : xf 20 41 L (.ref v0 :: .ref b :: st) h = xgo 20 41 44 L st (xev 15 [.ref b, .ref v0] h) := xo_callV (as := [.ref v0]) (by decide +kernel) rfl ⟨(by decide +kernel : xna 15 = 1), Nat.le_of_ble_eq_true rfl, rfl, by decide⟩ hb hl
set_option maxRecDepth 20000 in
theorem u_X3_copyFrom_44 (L : xL) (h : xH) : xf 20 44 L [] h = some (.inl none, h) := xo_return (n := 45) (by decide +kernel) rfl
set_option maxRecDepth 20000 in
theorem e_X3_copyFrom (v0 : Nat) (v1 : Nat) (h : xH) : xev 20 [.ref v0, .ref v1] h = xf 20 0 [some (.ref v0), some (.ref v1)] [] h := rfl
set_option maxRecDepth 20000 in
theorem u_X3_hasPart_0 (l0 : Option Value) (x : Int32) (st : List Value) (h : xH) : xf 21 0 [l0, some (.int x)] st h = xf 21 1 [l0, some (.int x)] (.int x :: st) h := xo_iload (k := 1) (by decide +kernel) rfl
set_option maxRecDepth 20000 in
theorem u_X3_hasPart_1 (L : xL) (st : List Value) (h : xH) : xf 21 1 L st h = xf 21 3 L (.int 8 :: st) h := xo_iconst (k := 8) (by decide +kernel) (by decide)
set_option maxRecDepth 20000 in
theorem u_X3_hasPart_3 (L : xL) (a b : Int32) (st : List Value) (h : xH) : xf 21 3 L (.int b :: .int a :: st) h = if a < b then xf 21 6 L st h else xf 21 16 L st h := xo_icmp_ge (t := 16) (by decide +kernel) rfl
set_option maxRecDepth 20000 in
theorem u_X3_hasPart_6 (l0 : Option Value) (x : Int32) (st : List Value) (h : xH) : xf 21 6 [l0, some (.int x)] st h = xf 21 7 [l0, some (.int x)] (.int x :: st) h := xo_iload (k := 1) (by decide +kernel) rfl
set_option maxRecDepth 20000 in
theorem u_X3_hasPart_7 (L : xL) (a : Int32) (st : List Value) (h : xH) : xf 21 7 L (.int a :: st) h = if a < 0 then xf 21 14 L st h else xf 21 10 L st h := xo_if_lt (t := 14) (by decide +kernel) rfl
set_option maxRecDepth 20000 in
theorem u_X3_hasPart_10 (L : xL) (st : List Value) (h : xH) : xf 21 10 L st h = xf 21 11 L (.int 1 :: st) h := xo_iconst (k := 1) (by decide +kernel) (by decide)
set_option maxRecDepth 20000 in
theorem u_X3_hasPart_11 (L : xL) (st : List Value) (h : xH) : xf 21 11 L st h = xf 21 15 L st h := xo_goto (n := 14) (t := 15) (by decide +kernel) rfl
set_option maxRecDepth 20000 in
theorem u_X3_hasPart_14 (L : xL) (st : List Value) (h : xH) : xf 21 14 L st h = xf 21 15 L (.int 0 :: st) h := xo_iconst (k := 0) (by decide +kernel) (by decide)
set_option maxRecDepth 20000 in
theorem u_X3_hasPart_15 (L : xL) (x : Int32) (h : xH) (hv : x = 0 ∨ x = 1) : xf 21 15 L [.int x] h = some (.inl (some (.int x)), h) := xo_ireturn (n := 16) (by decide +kernel) (by rcases hv with rfl | rfl <;> rfl)
set_option maxRecDepth 20000 in
theorem u_X3_hasPart_16 (l1 : Option Value) (x : Nat) (st : List Value) (h : xH) : xf 21 16 [some (.ref x), l1] st h = xf 21 17 [some (.ref x), l1] (.ref x :: st) h := xo_aload (k := 0) (by decide +kernel) rfl
set_option maxRecDepth 20000 in
theorem u_X3_hasPart_17 (L : xL) (a : Nat) (st : List Value) (h : xH) (hc : (xob h a).1 = 3) : xf 21 17 L (.ref a :: st) h = xf 21 20 L ((xob h a).2.getD 0 .null :: st) h := xo_getf (r := 192) (by decide +kernel) (by decide) hc
set_option maxRecDepth 20000 in
theorem u_X3_hasPart_20 (l0 : Option Value) (x : Int32) (st : List Value) (h : xH) : xf 21 20 [l0, some (.int x)] st h = xf 21 21 [l0, some (.int x)] (.int x :: st) h := xo_iload (k := 1) (by decide +kernel) rfl
set_option maxRecDepth 20000 in
theorem u_X3_hasPart_21 (L : xL) (v0 : Int32) (b : Nat) (st : List Value) (h : xH) (hb : (xob h b).1 = 1) (hl : st.length ≤ 4) : xf 21 21 L (.int v0 :: .ref b :: st) h = xgo 21 21 24 L st (xev 12 [.ref b, .int v0] h) := xo_callV (as := [.int v0]) (by decide +kernel) rfl ⟨(by decide +kernel : xna 12 = 1), Nat.le_of_ble_eq_true rfl, rfl, by decide⟩ hb hl
set_option maxRecDepth 20000 in
theorem u_X3_hasPart_24 (L : xL) (st : List Value) (h : xH) : xf 21 24 L st h = xf 21 25 L (.int (-1) :: st) h := xo_iconst (k := (-1)) (by decide +kernel) (by decide)
set_option maxRecDepth 20000 in
theorem u_X3_hasPart_25 (L : xL) (a b : Int32) (st : List Value) (h : xH) : xf 21 25 L (.int b :: .int a :: st) h = if a = b then xf 21 32 L st h else xf 21 28 L st h := xo_icmp_eq (t := 32) (by decide +kernel) rfl
set_option maxRecDepth 20000 in
theorem u_X3_hasPart_28 (L : xL) (st : List Value) (h : xH) : xf 21 28 L st h = xf 21 29 L (.int 1 :: st) h := xo_iconst (k := 1) (by decide +kernel) (by decide)
set_option maxRecDepth 20000 in
theorem u_X3_hasPart_29 (L : xL) (st : List Value) (h : xH) : xf 21 29 L st h = xf 21 33 L st h := xo_goto (n := 32) (t := 33) (by decide +kernel) rfl
set_option maxRecDepth 20000 in
theorem u_X3_hasPart_32 (L : xL) (st : List Value) (h : xH) : xf 21 32 L st h = xf 21 33 L (.int 0 :: st) h := xo_iconst (k := 0) (by decide +kernel) (by decide)
set_option maxRecDepth 20000 in
theorem u_X3_hasPart_33 (L : xL) (x : Int32) (h : xH) (hv : x = 0 ∨ x = 1) : xf 21 33 L [.int x] h = some (.inl (some (.int x)), h) := xo_ireturn (n := 34) (by decide +kernel) (by rcases hv with rfl | rfl <;> rfl)
set_option maxRecDepth 20000 in
theorem e_X3_hasPart (v0 : Nat) (v1 : Int32) (h : xH) : xev 21 [.ref v0, .int v1] h = xf 21 0 [some (.ref v0), some (.int v1)] [] h := rfl
set_option maxRecDepth 20000 in
theorem u_X3_amount_0 (L : xL) (st : List Value) (h : xH) : xf 22 0 L st h = xf 22 1 L (.int 0 :: st) h := xo_iconst (k := 0) (by decide +kernel) (by decide)
set_option maxRecDepth 20000 in
theorem u_X3_amount_1 (l0 l1 l2 : Option Value) (x : Int32) (st : List Value) (h : xH) : xf 22 1 [l0, l1, l2] (.int x :: st) h = xf 22 2 [xcat l0, some (.int x), l2] st h := xo_istore (k := 1) (by decide +kernel) (Nat.le_of_ble_eq_true rfl) rfl
set_option maxRecDepth 20000 in
theorem u_X3_amount_2 (L : xL) (st : List Value) (h : xH) : xf 22 2 L st h = xf 22 4 L (.int 8 :: st) h := xo_iconst (k := 8) (by decide +kernel) (by decide)
set_option maxRecDepth 20000 in
theorem u_X3_amount_4 (l0 l1 l2 : Option Value) (x : Int32) (st : List Value) (h : xH) : xf 22 4 [l0, l1, l2] (.int x :: st) h = xf 22 5 [l0, xcat l1, some (.int x)] st h := xo_istore (k := 2) (by decide +kernel) (Nat.le_of_ble_eq_true rfl) rfl
set_option maxRecDepth 20000 in
theorem u_X3_amount_5 (l0 l1 : Option Value) (x : Int32) (st : List Value) (h : xH) : xf 22 5 [l0, l1, some (.int x)] st h = xf 22 6 [l0, l1, some (.int x)] (.int x :: st) h := xo_iload (k := 2) (by decide +kernel) rfl
set_option maxRecDepth 20000 in
theorem u_X3_amount_6 (L : xL) (st : List Value) (h : xH) : xf 22 6 L st h = xf 22 8 L (.int 24 :: st) h := xo_iconst (k := 24) (by decide +kernel) (by decide)
set_option maxRecDepth 20000 in
theorem u_X3_amount_8 (L : xL) (a b : Int32) (st : List Value) (h : xH) : xf 22 8 L (.int b :: .int a :: st) h = if a < b then xf 22 11 L st h else xf 22 28 L st h := xo_icmp_ge (t := 28) (by decide +kernel) rfl
set_option maxRecDepth 20000 in
theorem u_X3_amount_11 (l1 l2 : Option Value) (x : Nat) (st : List Value) (h : xH) : xf 22 11 [some (.ref x), l1, l2] st h = xf 22 12 [some (.ref x), l1, l2] (.ref x :: st) h := xo_aload (k := 0) (by decide +kernel) rfl
set_option maxRecDepth 20000 in
theorem u_X3_amount_12 (l0 l1 : Option Value) (x : Int32) (st : List Value) (h : xH) : xf 22 12 [l0, l1, some (.int x)] st h = xf 22 13 [l0, l1, some (.int x)] (.int x :: st) h := xo_iload (k := 2) (by decide +kernel) rfl
set_option maxRecDepth 20000 in
theorem u_X3_amount_13 (L : xL) (v0 : Int32) (b : Nat) (st : List Value) (h : xH) (hb : (xob h b).1 = 3) (hl : st.length ≤ 4) : xf 22 13 L (.int v0 :: .ref b :: st) h = xgo 22 13 16 L st (xev 21 [.ref b, .int v0] h) := xo_callV (as := [.int v0]) (by decide +kernel) rfl ⟨(by decide +kernel : xna 21 = 1), Nat.le_of_ble_eq_true rfl, rfl, by decide⟩ hb hl
set_option maxRecDepth 20000 in
theorem u_X3_amount_16 (L : xL) (a : Int32) (st : List Value) (h : xH) : xf 22 16 L (.int a :: st) h = if a = 0 then xf 22 22 L st h else xf 22 19 L st h := xo_if_eq (t := 22) (by decide +kernel) rfl
set_option maxRecDepth 20000 in
theorem u_X3_amount_19 (l0 l2 : Option Value) (x : Int32) (st : List Value) (h : xH) : xf 22 19 [l0, some (.int x), l2] st h = xf 22 22 [xcat l0, some (.int (x + 1)), l2] st h := xo_iinc (k := 1) (c := 1) (by decide +kernel) rfl (by decide) rfl
set_option maxRecDepth 20000 in
theorem u_X3_amount_22 (l0 l1 : Option Value) (x : Int32) (st : List Value) (h : xH) : xf 22 22 [l0, l1, some (.int x)] st h = xf 22 25 [l0, xcat l1, some (.int (x + 1))] st h := xo_iinc (k := 2) (c := 1) (by decide +kernel) rfl (by decide) rfl
set_option maxRecDepth 20000 in
theorem u_X3_amount_25 (L : xL) (st : List Value) (h : xH) : xf 22 25 L st h = xf 22 5 L st h := xo_goto (n := 28) (t := 5) (by decide +kernel) rfl
set_option maxRecDepth 20000 in
theorem u_X3_amount_28 (l0 l2 : Option Value) (x : Int32) (st : List Value) (h : xH) : xf 22 28 [l0, some (.int x), l2] st h = xf 22 29 [l0, some (.int x), l2] (.int x :: st) h := xo_iload (k := 1) (by decide +kernel) rfl
set_option maxRecDepth 20000 in
theorem u_X3_amount_29 (L : xL) (x : Int32) (h : xH) : xf 22 29 L [.int x] h = some (.inl (some (.int x)), h) := xo_ireturn (n := 30) (by decide +kernel) rfl
set_option maxRecDepth 20000 in
theorem e_X3_amount (v0 : Nat) (h : xH) : xev 22 [.ref v0] h = xf 22 0 [some (.ref v0), none, none] [] h := rfl
set_option maxRecDepth 20000 in
theorem u_X3_define_0 (l1 l2 l3 : Option Value) (x : Nat) (st : List Value) (h : xH) : xf 23 0 [some (.ref x), l1, l2, l3] st h = xf 23 1 [some (.ref x), l1, l2, l3] (.ref x :: st) h := xo_aload (k := 0) (by decide +kernel) rfl
set_option maxRecDepth 20000 in
theorem u_X3_define_1 (L : xL) (a : Nat) (st : List Value) (h : xH) (hc : (xob h a).1 = 3) : xf 23 1 L (.ref a :: st) h = xf 23 4 L ((xob h a).2.getD 0 .null :: st) h := xo_getf (r := 192) (by decide +kernel) (by decide) hc
set_option maxRecDepth 20000 in
theorem u_X3_define_4 (l0 l2 l3 : Option Value) (x : Int32) (st : List Value) (h : xH) : xf 23 4 [l0, some (.int x), l2, l3] st h = xf 23 5 [l0, some (.int x), l2, l3] (.int x :: st) h := xo_iload (k := 1) (by decide +kernel) rfl
set_option maxRecDepth 20000 in
theorem u_X3_define_5 (l0 l1 l3 : Option Value) (x : Int32) (st : List Value) (h : xH) : xf 23 5 [l0, l1, some (.int x), l3] st h = xf 23 6 [l0, l1, some (.int x), l3] (.int x :: st) h := xo_iload (k := 2) (by decide +kernel) rfl
set_option maxRecDepth 20000 in
theorem u_X3_define_6 (L : xL) (v0 : Int32) (v1 : Int32) (b : Nat) (st : List Value) (h : xH) (hb : (xob h b).1 = 1) (hl : st.length ≤ 4) : xf 23 6 L (.int v1 :: .int v0 :: .ref b :: st) h = xgo 23 6 9 L st (xev 13 [.ref b, .int v0, .int v1] h) := xo_callV (as := [.int v0, .int v1]) (by decide +kernel) rfl ⟨(by decide +kernel : xna 13 = 2), Nat.le_of_ble_eq_true rfl, rfl, by decide⟩ hb hl
set_option maxRecDepth 20000 in
theorem u_X3_define_9 (l1 l2 l3 : Option Value) (x : Nat) (st : List Value) (h : xH) : xf 23 9 [some (.ref x), l1, l2, l3] st h = xf 23 10 [some (.ref x), l1, l2, l3] (.ref x :: st) h := xo_aload (k := 0) (by decide +kernel) rfl
set_option maxRecDepth 20000 in
theorem u_X3_define_10 (L : xL) (a : Nat) (st : List Value) (h : xH) (hc : (xob h a).1 = 3) : xf 23 10 L (.ref a :: st) h = xf 23 13 L ((xob h a).2.getD 1 .null :: st) h := xo_getf (r := 193) (by decide +kernel) (by decide) hc
set_option maxRecDepth 20000 in
theorem u_X3_define_13 (l0 l2 l3 : Option Value) (x : Int32) (st : List Value) (h : xH) : xf 23 13 [l0, some (.int x), l2, l3] st h = xf 23 14 [l0, some (.int x), l2, l3] (.int x :: st) h := xo_iload (k := 1) (by decide +kernel) rfl
set_option maxRecDepth 20000 in
theorem u_X3_define_14 (l0 l1 l2 : Option Value) (x : Int32) (st : List Value) (h : xH) : xf 23 14 [l0, l1, l2, some (.int x)] st h = xf 23 15 [l0, l1, l2, some (.int x)] (.int x :: st) h := xo_iload (k := 3) (by decide +kernel) rfl
set_option maxRecDepth 20000 in
theorem u_X3_define_15 (L : xL) (v0 : Int32) (v1 : Int32) (b : Nat) (st : List Value) (h : xH) (hb : (xob h b).1 = 1) (hl : st.length ≤ 4) : xf 23 15 L (.int v1 :: .int v0 :: .ref b :: st) h = xgo 23 15 18 L st (xev 13 [.ref b, .int v0, .int v1] h) := xo_callV (as := [.int v0, .int v1]) (by decide +kernel) rfl ⟨(by decide +kernel : xna 13 = 2), Nat.le_of_ble_eq_true rfl, rfl, by decide⟩ hb hl
set_option maxRecDepth 20000 in
theorem u_X3_define_18 (l1 l2 l3 : Option Value) (x : Nat) (st : List Value) (h : xH) : xf 23 18 [some (.ref x), l1, l2, l3] st h = xf 23 19 [some (.ref x), l1, l2, l3] (.ref x :: st) h := xo_aload (k := 0) (by decide +kernel) rfl
set_option maxRecDepth 20000 in
theorem u_X3_define_19 (L : xL) (a : Nat) (st : List Value) (h : xH) (hc : (xob h a).1 = 3) : xf 23 19 L (.ref a :: st) h = xf 23 22 L ((xob h a).2.getD 2 .null :: st) h := xo_getf (r := 194) (by decide +kernel) (by decide) hc
set_option maxRecDepth 20000 in
theorem u_X3_define_22 (l0 l2 l3 : Option Value) (x : Int32) (st : List Value) (h : xH) : xf 23 22 [l0, some (.int x), l2, l3] st h = xf 23 23 [l0, some (.int x), l2, l3] (.int x :: st) h := xo_iload (k := 1) (by decide +kernel) rfl
set_option maxRecDepth 20000 in
theorem u_X3_define_23 (L : xL) (st : List Value) (h : xH) : xf 23 23 L st h = xf 23 24 L (.int 1 :: st) h := xo_iconst (k := 1) (by decide +kernel) (by decide)
set_option maxRecDepth 20000 in
theorem u_X3_define_24 (l1 l2 l3 : Option Value) (x : Nat) (st : List Value) (h : xH) : xf 23 24 [some (.ref x), l1, l2, l3] st h = xf 23 25 [some (.ref x), l1, l2, l3] (.ref x :: st) h := xo_aload (k := 0) (by decide +kernel) rfl
set_option maxRecDepth 20000 in
theorem u_X3_define_25 (L : xL) (a : Nat) (st : List Value) (h : xH) (hc : (xob h a).1 = 3) : xf 23 25 L (.ref a :: st) h = xf 23 28 L ((xob h a).2.getD 2 .null :: st) h := xo_getf (r := 194) (by decide +kernel) (by decide) hc
set_option maxRecDepth 20000 in
theorem u_X3_define_28 (l0 l1 l3 : Option Value) (x : Int32) (st : List Value) (h : xH) : xf 23 28 [l0, l1, some (.int x), l3] st h = xf 23 29 [l0, l1, some (.int x), l3] (.int x :: st) h := xo_iload (k := 2) (by decide +kernel) rfl
set_option maxRecDepth 20000 in
theorem u_X3_define_29 (L : xL) (v0 : Int32) (b : Nat) (st : List Value) (h : xH) (hb : (xob h b).1 = 1) (hl : st.length ≤ 4) : xf 23 29 L (.int v0 :: .ref b :: st) h = xgo 23 29 32 L st (xev 12 [.ref b, .int v0] h) := xo_callV (as := [.int v0]) (by decide +kernel) rfl ⟨(by decide +kernel : xna 12 = 1), Nat.le_of_ble_eq_true rfl, rfl, by decide⟩ hb hl
set_option maxRecDepth 20000 in
theorem u_X3_define_32 (l1 l2 l3 : Option Value) (x : Nat) (st : List Value) (h : xH) : xf 23 32 [some (.ref x), l1, l2, l3] st h = xf 23 33 [some (.ref x), l1, l2, l3] (.ref x :: st) h := xo_aload (k := 0) (by decide +kernel) rfl
set_option maxRecDepth 20000 in
theorem u_X3_define_33 (L : xL) (a : Nat) (st : List Value) (h : xH) (hc : (xob h a).1 = 3) : xf 23 33 L (.ref a :: st) h = xf 23 36 L ((xob h a).2.getD 2 .null :: st) h := xo_getf (r := 194) (by decide +kernel) (by decide) hc
set_option maxRecDepth 20000 in
theorem u_X3_define_36 (l0 l1 l2 : Option Value) (x : Int32) (st : List Value) (h : xH) : xf 23 36 [l0, l1, l2, some (.int x)] st h = xf 23 37 [l0, l1, l2, some (.int x)] (.int x :: st) h := xo_iload (k := 3) (by decide +kernel) rfl
set_option maxRecDepth 20000 in
theorem u_X3_define_37 (L : xL) (v0 : Int32) (b : Nat) (st : List Value) (h : xH) (hb : (xob h b).1 = 1) (hl : st.length ≤ 4) : xf 23 37 L (.int v0 :: .ref b :: st) h = xgo 23 37 40 L st (xev 12 [.ref b, .int v0] h) := xo_callV (as := [.int v0]) (by decide +kernel) rfl ⟨(by decide +kernel : xna 12 = 1), Nat.le_of_ble_eq_true rfl, rfl, by decide⟩ hb hl
set_option maxRecDepth 20000 in
theorem u_X3_define_40 (L : xL) (a b : Int32) (st : List Value) (h : xH) (hl : st.length ≤ 4) : xf 23 40 L (.int b :: .int a :: st) h = xf 23 43 L (.int (if a < b then b else a) :: st) h := xo_max (by decide +kernel) hl
set_option maxRecDepth 20000 in
theorem u_X3_define_43 (L : xL) (a b : Int32) (st : List Value) (h : xH) : xf 23 43 L (.int b :: .int a :: st) h = xf 23 44 L (.int (a + b) :: st) h := xo_iadd (by decide +kernel)
set_option maxRecDepth 20000 in
theorem u_X3_define_44 (L : xL) (v0 : Int32) (v1 : Int32) (b : Nat) (st : List Value) (h : xH) (hb : (xob h b).1 = 1) (hl : st.length ≤ 4) : xf 23 44 L (.int v1 :: .int v0 :: .ref b :: st) h = xgo 23 44 47 L st (xev 13 [.ref b, .int v0, .int v1] h) := xo_callV (as := [.int v0, .int v1]) (by decide +kernel) rfl ⟨(by decide +kernel : xna 13 = 2), Nat.le_of_ble_eq_true rfl, rfl, by decide⟩ hb hl
set_option maxRecDepth 20000 in
theorem u_X3_define_47 (l1 l2 l3 : Option Value) (x : Nat) (st : List Value) (h : xH) : xf 23 47 [some (.ref x), l1, l2, l3] st h = xf 23 48 [some (.ref x), l1, l2, l3] (.ref x :: st) h := xo_aload (k := 0) (by decide +kernel) rfl
set_option maxRecDepth 20000 in
theorem u_X3_define_48 (L : xL) (a : Nat) (st : List Value) (h : xH) (hc : (xob h a).1 = 3) : xf 23 48 L (.ref a :: st) h = xf 23 51 L ((xob h a).2.getD 3 .null :: st) h := xo_getf (r := 195) (by decide +kernel) (by decide) hc
set_option maxRecDepth 20000 in
theorem u_X3_define_51 (l0 l2 l3 : Option Value) (x : Int32) (st : List Value) (h : xH) : xf 23 51 [l0, some (.int x), l2, l3] st h = xf 23 52 [l0, some (.int x), l2, l3] (.int x :: st) h := xo_iload (k := 1) (by decide +kernel) rfl
set_option maxRecDepth 20000 in
theorem u_X3_define_52 (l1 l2 l3 : Option Value) (x : Nat) (st : List Value) (h : xH) : xf 23 52 [some (.ref x), l1, l2, l3] st h = xf 23 53 [some (.ref x), l1, l2, l3] (.ref x :: st) h := xo_aload (k := 0) (by decide +kernel) rfl
set_option maxRecDepth 20000 in
theorem u_X3_define_53 (L : xL) (a : Nat) (st : List Value) (h : xH) (hc : (xob h a).1 = 3) : xf 23 53 L (.ref a :: st) h = xf 23 56 L ((xob h a).2.getD 3 .null :: st) h := xo_getf (r := 195) (by decide +kernel) (by decide) hc
set_option maxRecDepth 20000 in
theorem u_X3_define_56 (l0 l1 l3 : Option Value) (x : Int32) (st : List Value) (h : xH) : xf 23 56 [l0, l1, some (.int x), l3] st h = xf 23 57 [l0, l1, some (.int x), l3] (.int x :: st) h := xo_iload (k := 2) (by decide +kernel) rfl
set_option maxRecDepth 20000 in
theorem u_X3_define_57 (L : xL) (v0 : Int32) (b : Nat) (st : List Value) (h : xH) (hb : (xob h b).1 = 1) (hl : st.length ≤ 4) : xf 23 57 L (.int v0 :: .ref b :: st) h = xgo 23 57 60 L st (xev 12 [.ref b, .int v0] h) := xo_callV (as := [.int v0]) (by decide +kernel) rfl ⟨(by decide +kernel : xna 12 = 1), Nat.le_of_ble_eq_true rfl, rfl, by decide⟩ hb hl
set_option maxRecDepth 20000 in
theorem u_X3_define_60 (l1 l2 l3 : Option Value) (x : Nat) (st : List Value) (h : xH) : xf 23 60 [some (.ref x), l1, l2, l3] st h = xf 23 61 [some (.ref x), l1, l2, l3] (.ref x :: st) h := xo_aload (k := 0) (by decide +kernel) rfl
set_option maxRecDepth 20000 in
theorem u_X3_define_61 (L : xL) (a : Nat) (st : List Value) (h : xH) (hc : (xob h a).1 = 3) : xf 23 61 L (.ref a :: st) h = xf 23 64 L ((xob h a).2.getD 3 .null :: st) h := xo_getf (r := 195) (by decide +kernel) (by decide) hc
set_option maxRecDepth 20000 in
theorem u_X3_define_64 (l0 l1 l2 : Option Value) (x : Int32) (st : List Value) (h : xH) : xf 23 64 [l0, l1, l2, some (.int x)] st h = xf 23 65 [l0, l1, l2, some (.int x)] (.int x :: st) h := xo_iload (k := 3) (by decide +kernel) rfl
set_option maxRecDepth 20000 in
theorem u_X3_define_65 (L : xL) (v0 : Int32) (b : Nat) (st : List Value) (h : xH) (hb : (xob h b).1 = 1) (hl : st.length ≤ 4) : xf 23 65 L (.int v0 :: .ref b :: st) h = xgo 23 65 68 L st (xev 12 [.ref b, .int v0] h) := xo_callV (as := [.int v0]) (by decide +kernel) rfl ⟨(by decide +kernel : xna 12 = 1), Nat.le_of_ble_eq_true rfl, rfl, by decide⟩ hb hl
set_option maxRecDepth 20000 in
theorem u_X3_define_68 (L : xL) (a b : Int32) (st : List Value) (h : xH) : xf 23 68 L (.int b :: .int a :: st) h = xf 23 69 L (.int (a + b) :: st) h := xo_iadd (by decide +kernel)
set_option maxRecDepth 20000 in
theorem u_X3_define_69 (L : xL) (v0 : Int32) (v1 : Int32) (b : Nat) (st : List Value) (h : xH) (hb : (xob h b).1 = 1) (hl : st.length ≤ 4) : xf 23 69 L (.int v1 :: .int v0 :: .ref b :: st) h = xgo 23 69 72 L st (xev 13 [.ref b, .int v0, .int v1] h) := xo_callV (as := [.int v0, .int v1]) (by decide +kernel) rfl ⟨(by decide +kernel : xna 13 = 2), Nat.le_of_ble_eq_true rfl, rfl, by decide⟩ hb hl
set_option maxRecDepth 20000 in
theorem u_X3_define_72 (L : xL) (h : xH) : xf 23 72 L [] h = some (.inl none, h) := xo_return (n := 73) (by decide +kernel) rfl
set_option maxRecDepth 20000 in
theorem e_X3_define (v0 : Nat) (v1 : Int32) (v2 : Int32) (v3 : Int32) (h : xH) : xev 23 [.ref v0, .int v1, .int v2, .int v3] h = xf 23 0 [some (.ref v0), some (.int v1), some (.int v2), some (.int v3)] [] h := rfl
set_option maxRecDepth 20000 in
theorem u_X3_forget_0 (l1 : Option Value) (x : Nat) (st : List Value) (h : xH) : xf 24 0 [some (.ref x), l1] st h = xf 24 1 [some (.ref x), l1] (.ref x :: st) h := xo_aload (k := 0) (by decide +kernel) rfl
set_option maxRecDepth 20000 in
theorem u_X3_forget_1 (L : xL) (a : Nat) (st : List Value) (h : xH) (hc : (xob h a).1 = 3) : xf 24 1 L (.ref a :: st) h = xf 24 4 L ((xob h a).2.getD 0 .null :: st) h := xo_getf (r := 192) (by decide +kernel) (by decide) hc
set_option maxRecDepth 20000 in
theorem u_X3_forget_4 (l0 : Option Value) (x : Int32) (st : List Value) (h : xH) : xf 24 4 [l0, some (.int x)] st h = xf 24 5 [l0, some (.int x)] (.int x :: st) h := xo_iload (k := 1) (by decide +kernel) rfl
set_option maxRecDepth 20000 in
theorem u_X3_forget_5 (L : xL) (st : List Value) (h : xH) : xf 24 5 L st h = xf 24 6 L (.int (-1) :: st) h := xo_iconst (k := (-1)) (by decide +kernel) (by decide)
set_option maxRecDepth 20000 in
theorem u_X3_forget_6 (L : xL) (v0 : Int32) (v1 : Int32) (b : Nat) (st : List Value) (h : xH) (hb : (xob h b).1 = 1) (hl : st.length ≤ 4) : xf 24 6 L (.int v1 :: .int v0 :: .ref b :: st) h = xgo 24 6 9 L st (xev 13 [.ref b, .int v0, .int v1] h) := xo_callV (as := [.int v0, .int v1]) (by decide +kernel) rfl ⟨(by decide +kernel : xna 13 = 2), Nat.le_of_ble_eq_true rfl, rfl, by decide⟩ hb hl
set_option maxRecDepth 20000 in
theorem u_X3_forget_9 (l1 : Option Value) (x : Nat) (st : List Value) (h : xH) : xf 24 9 [some (.ref x), l1] st h = xf 24 10 [some (.ref x), l1] (.ref x :: st) h := xo_aload (k := 0) (by decide +kernel) rfl
set_option maxRecDepth 20000 in
theorem u_X3_forget_10 (L : xL) (a : Nat) (st : List Value) (h : xH) (hc : (xob h a).1 = 3) : xf 24 10 L (.ref a :: st) h = xf 24 13 L ((xob h a).2.getD 1 .null :: st) h := xo_getf (r := 193) (by decide +kernel) (by decide) hc
set_option maxRecDepth 20000 in
theorem u_X3_forget_13 (l0 : Option Value) (x : Int32) (st : List Value) (h : xH) : xf 24 13 [l0, some (.int x)] st h = xf 24 14 [l0, some (.int x)] (.int x :: st) h := xo_iload (k := 1) (by decide +kernel) rfl
set_option maxRecDepth 20000 in
theorem u_X3_forget_14 (L : xL) (st : List Value) (h : xH) : xf 24 14 L st h = xf 24 15 L (.int (-1) :: st) h := xo_iconst (k := (-1)) (by decide +kernel) (by decide)
set_option maxRecDepth 20000 in
theorem u_X3_forget_15 (L : xL) (v0 : Int32) (v1 : Int32) (b : Nat) (st : List Value) (h : xH) (hb : (xob h b).1 = 1) (hl : st.length ≤ 4) : xf 24 15 L (.int v1 :: .int v0 :: .ref b :: st) h = xgo 24 15 18 L st (xev 13 [.ref b, .int v0, .int v1] h) := xo_callV (as := [.int v0, .int v1]) (by decide +kernel) rfl ⟨(by decide +kernel : xna 13 = 2), Nat.le_of_ble_eq_true rfl, rfl, by decide⟩ hb hl
set_option maxRecDepth 20000 in
theorem u_X3_forget_18 (l1 : Option Value) (x : Nat) (st : List Value) (h : xH) : xf 24 18 [some (.ref x), l1] st h = xf 24 19 [some (.ref x), l1] (.ref x :: st) h := xo_aload (k := 0) (by decide +kernel) rfl
set_option maxRecDepth 20000 in
theorem u_X3_forget_19 (L : xL) (a : Nat) (st : List Value) (h : xH) (hc : (xob h a).1 = 3) : xf 24 19 L (.ref a :: st) h = xf 24 22 L ((xob h a).2.getD 2 .null :: st) h := xo_getf (r := 194) (by decide +kernel) (by decide) hc
set_option maxRecDepth 20000 in
theorem u_X3_forget_22 (l0 : Option Value) (x : Int32) (st : List Value) (h : xH) : xf 24 22 [l0, some (.int x)] st h = xf 24 23 [l0, some (.int x)] (.int x :: st) h := xo_iload (k := 1) (by decide +kernel) rfl
set_option maxRecDepth 20000 in
theorem u_X3_forget_23 (L : xL) (st : List Value) (h : xH) : xf 24 23 L st h = xf 24 24 L (.int 0 :: st) h := xo_iconst (k := 0) (by decide +kernel) (by decide)
set_option maxRecDepth 20000 in
theorem u_X3_forget_24 (L : xL) (v0 : Int32) (v1 : Int32) (b : Nat) (st : List Value) (h : xH) (hb : (xob h b).1 = 1) (hl : st.length ≤ 4) : xf 24 24 L (.int v1 :: .int v0 :: .ref b :: st) h = xgo 24 24 27 L st (xev 13 [.ref b, .int v0, .int v1] h) := xo_callV (as := [.int v0, .int v1]) (by decide +kernel) rfl ⟨(by decide +kernel : xna 13 = 2), Nat.le_of_ble_eq_true rfl, rfl, by decide⟩ hb hl
set_option maxRecDepth 20000 in
theorem u_X3_forget_27 (l1 : Option Value) (x : Nat) (st : List Value) (h : xH) : xf 24 27 [some (.ref x), l1] st h = xf 24 28 [some (.ref x), l1] (.ref x :: st) h := xo_aload (k := 0) (by decide +kernel) rfl
set_option maxRecDepth 20000 in
theorem u_X3_forget_28 (L : xL) (a : Nat) (st : List Value) (h : xH) (hc : (xob h a).1 = 3) : xf 24 28 L (.ref a :: st) h = xf 24 31 L ((xob h a).2.getD 3 .null :: st) h := xo_getf (r := 195) (by decide +kernel) (by decide) hc
set_option maxRecDepth 20000 in
theorem u_X3_forget_31 (l0 : Option Value) (x : Int32) (st : List Value) (h : xH) : xf 24 31 [l0, some (.int x)] st h = xf 24 32 [l0, some (.int x)] (.int x :: st) h := xo_iload (k := 1) (by decide +kernel) rfl
set_option maxRecDepth 20000 in
theorem u_X3_forget_32 (L : xL) (st : List Value) (h : xH) : xf 24 32 L st h = xf 24 33 L (.int 0 :: st) h := xo_iconst (k := 0) (by decide +kernel) (by decide)
set_option maxRecDepth 20000 in
theorem u_X3_forget_33 (L : xL) (v0 : Int32) (v1 : Int32) (b : Nat) (st : List Value) (h : xH) (hb : (xob h b).1 = 1) (hl : st.length ≤ 4) : xf 24 33 L (.int v1 :: .int v0 :: .ref b :: st) h = xgo 24 33 36 L st (xev 13 [.ref b, .int v0, .int v1] h) := xo_callV (as := [.int v0, .int v1]) (by decide +kernel) rfl ⟨(by decide +kernel : xna 13 = 2), Nat.le_of_ble_eq_true rfl, rfl, by decide⟩ hb hl
set_option maxRecDepth 20000 in
theorem u_X3_forget_36 (L : xL) (h : xH) : xf 24 36 L [] h = some (.inl none, h) := xo_return (n := 37) (by decide +kernel) rfl
set_option maxRecDepth 20000 in
theorem e_X3_forget (v0 : Nat) (v1 : Int32) (h : xH) : xev 24 [.ref v0, .int v1] h = xf 24 0 [some (.ref v0), some (.int v1)] [] h := rfl
set_option maxRecDepth 20000 in
theorem u_X3_nameFor_0 (L : xL) (st : List Value) (h : xH) : xf 25 0 L st h = xf 25 1 L (.int (-1) :: st) h := xo_iconst (k := (-1)) (by decide +kernel) (by decide)
set_option maxRecDepth 20000 in
theorem u_X3_nameFor_1 (l0 l1 l2 l3 l4 : Option Value) (x : Int32) (st : List Value) (h : xH) : xf 25 1 [l0, l1, l2, l3, l4] (.int x :: st) h = xf 25 2 [l0, l1, xcat l2, some (.int x), l4] st h := xo_istore (k := 3) (by decide +kernel) (Nat.le_of_ble_eq_true rfl) rfl
set_option maxRecDepth 20000 in
theorem u_X3_nameFor_2 (L : xL) (st : List Value) (h : xH) : xf 25 2 L st h = xf 25 4 L (.int 23 :: st) h := xo_iconst (k := 23) (by decide +kernel) (by decide)
set_option maxRecDepth 20000 in
theorem u_X3_nameFor_4 (l0 l1 l2 l3 l4 : Option Value) (x : Int32) (st : List Value) (h : xH) : xf 25 4 [l0, l1, l2, l3, l4] (.int x :: st) h = xf 25 6 [l0, l1, l2, xcat l3, some (.int x)] st h := xo_istore (k := 4) (by decide +kernel) (Nat.le_of_ble_eq_true rfl) rfl
set_option maxRecDepth 20000 in
theorem u_X3_nameFor_6 (l0 l1 l2 l3 : Option Value) (x : Int32) (st : List Value) (h : xH) : xf 25 6 [l0, l1, l2, l3, some (.int x)] st h = xf 25 8 [l0, l1, l2, l3, some (.int x)] (.int x :: st) h := xo_iload (k := 4) (by decide +kernel) rfl
set_option maxRecDepth 20000 in
theorem u_X3_nameFor_8 (L : xL) (st : List Value) (h : xH) : xf 25 8 L st h = xf 25 10 L (.int 8 :: st) h := xo_iconst (k := 8) (by decide +kernel) (by decide)
set_option maxRecDepth 20000 in
theorem u_X3_nameFor_10 (L : xL) (a b : Int32) (st : List Value) (h : xH) : xf 25 10 L (.int b :: .int a :: st) h = if a < b then xf 25 67 L st h else xf 25 13 L st h := xo_icmp_lt (t := 67) (by decide +kernel) rfl
set_option maxRecDepth 20000 in
theorem u_X3_nameFor_13 (l1 l2 l3 l4 : Option Value) (x : Nat) (st : List Value) (h : xH) : xf 25 13 [some (.ref x), l1, l2, l3, l4] st h = xf 25 14 [some (.ref x), l1, l2, l3, l4] (.ref x :: st) h := xo_aload (k := 0) (by decide +kernel) rfl
set_option maxRecDepth 20000 in
theorem u_X3_nameFor_14 (L : xL) (a : Nat) (st : List Value) (h : xH) (hc : (xob h a).1 = 3) : xf 25 14 L (.ref a :: st) h = xf 25 17 L ((xob h a).2.getD 0 .null :: st) h := xo_getf (r := 192) (by decide +kernel) (by decide) hc
set_option maxRecDepth 20000 in
theorem u_X3_nameFor_17 (l0 l1 l2 l3 : Option Value) (x : Int32) (st : List Value) (h : xH) : xf 25 17 [l0, l1, l2, l3, some (.int x)] st h = xf 25 19 [l0, l1, l2, l3, some (.int x)] (.int x :: st) h := xo_iload (k := 4) (by decide +kernel) rfl
set_option maxRecDepth 20000 in
theorem u_X3_nameFor_19 (L : xL) (v0 : Int32) (b : Nat) (st : List Value) (h : xH) (hb : (xob h b).1 = 1) (hl : st.length ≤ 4) : xf 25 19 L (.int v0 :: .ref b :: st) h = xgo 25 19 22 L st (xev 12 [.ref b, .int v0] h) := xo_callV (as := [.int v0]) (by decide +kernel) rfl ⟨(by decide +kernel : xna 12 = 1), Nat.le_of_ble_eq_true rfl, rfl, by decide⟩ hb hl
set_option maxRecDepth 20000 in
theorem u_X3_nameFor_22 (L : xL) (st : List Value) (h : xH) : xf 25 22 L st h = xf 25 23 L (.int (-1) :: st) h := xo_iconst (k := (-1)) (by decide +kernel) (by decide)
set_option maxRecDepth 20000 in
theorem u_X3_nameFor_23 (L : xL) (a b : Int32) (st : List Value) (h : xH) : xf 25 23 L (.int b :: .int a :: st) h = if a = b then xf 25 26 L st h else xf 25 32 L st h := xo_icmp_ne (t := 32) (by decide +kernel) rfl
set_option maxRecDepth 20000 in
theorem u_X3_nameFor_26 (l0 l1 l2 l3 : Option Value) (x : Int32) (st : List Value) (h : xH) : xf 25 26 [l0, l1, l2, l3, some (.int x)] st h = xf 25 28 [l0, l1, l2, l3, some (.int x)] (.int x :: st) h := xo_iload (k := 4) (by decide +kernel) rfl
set_option maxRecDepth 20000 in
theorem u_X3_nameFor_28 (l0 l1 l2 l3 l4 : Option Value) (x : Int32) (st : List Value) (h : xH) : xf 25 28 [l0, l1, l2, l3, l4] (.int x :: st) h = xf 25 29 [l0, l1, xcat l2, some (.int x), l4] st h := xo_istore (k := 3) (by decide +kernel) (Nat.le_of_ble_eq_true rfl) rfl
set_option maxRecDepth 20000 in
theorem u_X3_nameFor_29 (L : xL) (st : List Value) (h : xH) : xf 25 29 L st h = xf 25 61 L st h := xo_goto (n := 32) (t := 61) (by decide +kernel) rfl
set_option maxRecDepth 20000 in
theorem u_X3_nameFor_32 (l1 l2 l3 l4 : Option Value) (x : Nat) (st : List Value) (h : xH) : xf 25 32 [some (.ref x), l1, l2, l3, l4] st h = xf 25 33 [some (.ref x), l1, l2, l3, l4] (.ref x :: st) h := xo_aload (k := 0) (by decide +kernel) rfl
set_option maxRecDepth 20000 in
theorem u_X3_nameFor_33 (L : xL) (a : Nat) (st : List Value) (h : xH) (hc : (xob h a).1 = 3) : xf 25 33 L (.ref a :: st) h = xf 25 36 L ((xob h a).2.getD 0 .null :: st) h := xo_getf (r := 192) (by decide +kernel) (by decide) hc
set_option maxRecDepth 20000 in
theorem u_X3_nameFor_36 (l0 l1 l2 l3 : Option Value) (x : Int32) (st : List Value) (h : xH) : xf 25 36 [l0, l1, l2, l3, some (.int x)] st h = xf 25 38 [l0, l1, l2, l3, some (.int x)] (.int x :: st) h := xo_iload (k := 4) (by decide +kernel) rfl
set_option maxRecDepth 20000 in
theorem u_X3_nameFor_38 (L : xL) (v0 : Int32) (b : Nat) (st : List Value) (h : xH) (hb : (xob h b).1 = 1) (hl : st.length ≤ 4) : xf 25 38 L (.int v0 :: .ref b :: st) h = xgo 25 38 41 L st (xev 12 [.ref b, .int v0] h) := xo_callV (as := [.int v0]) (by decide +kernel) rfl ⟨(by decide +kernel : xna 12 = 1), Nat.le_of_ble_eq_true rfl, rfl, by decide⟩ hb hl
set_option maxRecDepth 20000 in
theorem u_X3_nameFor_41 (l0 l2 l3 l4 : Option Value) (x : Int32) (st : List Value) (h : xH) : xf 25 41 [l0, some (.int x), l2, l3, l4] st h = xf 25 42 [l0, some (.int x), l2, l3, l4] (.int x :: st) h := xo_iload (k := 1) (by decide +kernel) rfl
set_option maxRecDepth 20000 in
theorem u_X3_nameFor_42 (L : xL) (a b : Int32) (st : List Value) (h : xH) : xf 25 42 L (.int b :: .int a :: st) h = if a = b then xf 25 45 L st h else xf 25 61 L st h := xo_icmp_ne (t := 61) (by decide +kernel) rfl
set_option maxRecDepth 20000 in
theorem u_X3_nameFor_45 (l1 l2 l3 l4 : Option Value) (x : Nat) (st : List Value) (h : xH) : xf 25 45 [some (.ref x), l1, l2, l3, l4] st h = xf 25 46 [some (.ref x), l1, l2, l3, l4] (.ref x :: st) h := xo_aload (k := 0) (by decide +kernel) rfl
set_option maxRecDepth 20000 in
theorem u_X3_nameFor_46 (L : xL) (a : Nat) (st : List Value) (h : xH) (hc : (xob h a).1 = 3) : xf 25 46 L (.ref a :: st) h = xf 25 49 L ((xob h a).2.getD 1 .null :: st) h := xo_getf (r := 193) (by decide +kernel) (by decide) hc
set_option maxRecDepth 20000 in
theorem u_X3_nameFor_49 (l0 l1 l2 l3 : Option Value) (x : Int32) (st : List Value) (h : xH) : xf 25 49 [l0, l1, l2, l3, some (.int x)] st h = xf 25 51 [l0, l1, l2, l3, some (.int x)] (.int x :: st) h := xo_iload (k := 4) (by decide +kernel) rfl
set_option maxRecDepth 20000 in
theorem u_X3_nameFor_51 (L : xL) (v0 : Int32) (b : Nat) (st : List Value) (h : xH) (hb : (xob h b).1 = 1) (hl : st.length ≤ 4) : xf 25 51 L (.int v0 :: .ref b :: st) h = xgo 25 51 54 L st (xev 12 [.ref b, .int v0] h) := xo_callV (as := [.int v0]) (by decide +kernel) rfl ⟨(by decide +kernel : xna 12 = 1), Nat.le_of_ble_eq_true rfl, rfl, by decide⟩ hb hl
set_option maxRecDepth 20000 in
theorem u_X3_nameFor_54 (l0 l1 l3 l4 : Option Value) (x : Int32) (st : List Value) (h : xH) : xf 25 54 [l0, l1, some (.int x), l3, l4] st h = xf 25 55 [l0, l1, some (.int x), l3, l4] (.int x :: st) h := xo_iload (k := 2) (by decide +kernel) rfl
set_option maxRecDepth 20000 in
theorem u_X3_nameFor_55 (L : xL) (a b : Int32) (st : List Value) (h : xH) : xf 25 55 L (.int b :: .int a :: st) h = if a = b then xf 25 58 L st h else xf 25 61 L st h := xo_icmp_ne (t := 61) (by decide +kernel) rfl
set_option maxRecDepth 20000 in
theorem u_X3_nameFor_58 (l0 l1 l2 l3 : Option Value) (x : Int32) (st : List Value) (h : xH) : xf 25 58 [l0, l1, l2, l3, some (.int x)] st h = xf 25 60 [l0, l1, l2, l3, some (.int x)] (.int x :: st) h := xo_iload (k := 4) (by decide +kernel) rfl
set_option maxRecDepth 20000 in
theorem u_X3_nameFor_60 (L : xL) (x : Int32) (h : xH) : xf 25 60 L [.int x] h = some (.inl (some (.int x)), h) := xo_ireturn (n := 61) (by decide +kernel) rfl
set_option maxRecDepth 20000 in
theorem u_X3_nameFor_61 (l0 l1 l2 l3 : Option Value) (x : Int32) (st : List Value) (h : xH) : xf 25 61 [l0, l1, l2, l3, some (.int x)] st h = xf 25 64 [l0, l1, l2, xcat l3, some (.int (x + (-1)))] st h := xo_iinc (k := 4) (c := (-1)) (by decide +kernel) rfl (by decide) rfl
set_option maxRecDepth 20000 in
theorem u_X3_nameFor_64 (L : xL) (st : List Value) (h : xH) : xf 25 64 L st h = xf 25 6 L st h := xo_goto (n := 67) (t := 6) (by decide +kernel) rfl
set_option maxRecDepth 20000 in
theorem u_X3_nameFor_67 (l0 l1 l2 l4 : Option Value) (x : Int32) (st : List Value) (h : xH) : xf 25 67 [l0, l1, l2, some (.int x), l4] st h = xf 25 68 [l0, l1, l2, some (.int x), l4] (.int x :: st) h := xo_iload (k := 3) (by decide +kernel) rfl
set_option maxRecDepth 20000 in
theorem u_X3_nameFor_68 (L : xL) (x : Int32) (h : xH) : xf 25 68 L [.int x] h = some (.inl (some (.int x)), h) := xo_ireturn (n := 69) (by decide +kernel) rfl
set_option maxRecDepth 20000 in
theorem e_X3_nameFor (v0 : Nat) (v1 : Int32) (v2 : Int32) (h : xH) : xev 25 [.ref v0, .int v1, .int v2] h = xf 25 0 [some (.ref v0), some (.int v1), some (.int v2), none, none] [] h := rfl
set_option maxRecDepth 20000 in
theorem u_X3_usesOf_0 (L : xL) (st : List Value) (h : xH) : xf 26 0 L st h = xf 26 1 L (.int 0 :: st) h := xo_iconst (k := 0) (by decide +kernel) (by decide)
set_option maxRecDepth 20000 in
theorem u_X3_usesOf_1 (l0 l1 l2 l3 : Option Value) (x : Int32) (st : List Value) (h : xH) : xf 26 1 [l0, l1, l2, l3] (.int x :: st) h = xf 26 2 [l0, xcat l1, some (.int x), l3] st h := xo_istore (k := 2) (by decide +kernel) (Nat.le_of_ble_eq_true rfl) rfl
set_option maxRecDepth 20000 in
theorem u_X3_usesOf_2 (L : xL) (st : List Value) (h : xH) : xf 26 2 L st h = xf 26 4 L (.int 8 :: st) h := xo_iconst (k := 8) (by decide +kernel) (by decide)
set_option maxRecDepth 20000 in
theorem u_X3_usesOf_4 (l0 l1 l2 l3 : Option Value) (x : Int32) (st : List Value) (h : xH) : xf 26 4 [l0, l1, l2, l3] (.int x :: st) h = xf 26 5 [l0, l1, xcat l2, some (.int x)] st h := xo_istore (k := 3) (by decide +kernel) (Nat.le_of_ble_eq_true rfl) rfl
set_option maxRecDepth 20000 in
theorem u_X3_usesOf_5 (l0 l1 l2 : Option Value) (x : Int32) (st : List Value) (h : xH) : xf 26 5 [l0, l1, l2, some (.int x)] st h = xf 26 6 [l0, l1, l2, some (.int x)] (.int x :: st) h := xo_iload (k := 3) (by decide +kernel) rfl
set_option maxRecDepth 20000 in
theorem u_X3_usesOf_6 (L : xL) (st : List Value) (h : xH) : xf 26 6 L st h = xf 26 8 L (.int 24 :: st) h := xo_iconst (k := 24) (by decide +kernel) (by decide)
set_option maxRecDepth 20000 in
theorem u_X3_usesOf_8 (L : xL) (a b : Int32) (st : List Value) (h : xH) : xf 26 8 L (.int b :: .int a :: st) h = if a < b then xf 26 11 L st h else xf 26 57 L st h := xo_icmp_ge (t := 57) (by decide +kernel) rfl
set_option maxRecDepth 20000 in
theorem u_X3_usesOf_11 (l0 l1 l3 : Option Value) (x : Int32) (st : List Value) (h : xH) : xf 26 11 [l0, l1, some (.int x), l3] st h = xf 26 12 [l0, l1, some (.int x), l3] (.int x :: st) h := xo_iload (k := 2) (by decide +kernel) rfl
set_option maxRecDepth 20000 in
theorem u_X3_usesOf_12 (l1 l2 l3 : Option Value) (x : Nat) (st : List Value) (h : xH) : xf 26 12 [some (.ref x), l1, l2, l3] st h = xf 26 13 [some (.ref x), l1, l2, l3] (.ref x :: st) h := xo_aload (k := 0) (by decide +kernel) rfl
set_option maxRecDepth 20000 in
theorem u_X3_usesOf_13 (L : xL) (a : Nat) (st : List Value) (h : xH) (hc : (xob h a).1 = 3) : xf 26 13 L (.ref a :: st) h = xf 26 16 L ((xob h a).2.getD 0 .null :: st) h := xo_getf (r := 192) (by decide +kernel) (by decide) hc
set_option maxRecDepth 20000 in
theorem u_X3_usesOf_16 (l0 l1 l2 : Option Value) (x : Int32) (st : List Value) (h : xH) : xf 26 16 [l0, l1, l2, some (.int x)] st h = xf 26 17 [l0, l1, l2, some (.int x)] (.int x :: st) h := xo_iload (k := 3) (by decide +kernel) rfl
set_option maxRecDepth 20000 in
theorem u_X3_usesOf_17 (L : xL) (v0 : Int32) (b : Nat) (st : List Value) (h : xH) (hb : (xob h b).1 = 1) (hl : st.length ≤ 4) : xf 26 17 L (.int v0 :: .ref b :: st) h = xgo 26 17 20 L st (xev 12 [.ref b, .int v0] h) := xo_callV (as := [.int v0]) (by decide +kernel) rfl ⟨(by decide +kernel : xna 12 = 1), Nat.le_of_ble_eq_true rfl, rfl, by decide⟩ hb hl
set_option maxRecDepth 20000 in
theorem u_X3_usesOf_20 (l0 l2 l3 : Option Value) (x : Int32) (st : List Value) (h : xH) : xf 26 20 [l0, some (.int x), l2, l3] st h = xf 26 21 [l0, some (.int x), l2, l3] (.int x :: st) h := xo_iload (k := 1) (by decide +kernel) rfl
set_option maxRecDepth 20000 in
theorem u_X3_usesOf_21 (L : xL) (a b : Int32) (st : List Value) (h : xH) : xf 26 21 L (.int b :: .int a :: st) h = if a = b then xf 26 24 L st h else xf 26 28 L st h := xo_icmp_ne (t := 28) (by decide +kernel) rfl
set_option maxRecDepth 20000 in
theorem u_X3_usesOf_24 (L : xL) (st : List Value) (h : xH) : xf 26 24 L st h = xf 26 25 L (.int 1 :: st) h := xo_iconst (k := 1) (by decide +kernel) (by decide)
set_option maxRecDepth 20000 in
theorem u_X3_usesOf_25 (L : xL) (st : List Value) (h : xH) : xf 26 25 L st h = xf 26 29 L st h := xo_goto (n := 28) (t := 29) (by decide +kernel) rfl
set_option maxRecDepth 20000 in
theorem u_X3_usesOf_28 (L : xL) (st : List Value) (h : xH) : xf 26 28 L st h = xf 26 29 L (.int 0 :: st) h := xo_iconst (k := 0) (by decide +kernel) (by decide)
set_option maxRecDepth 20000 in
theorem u_X3_usesOf_29 (L : xL) (a b : Int32) (st : List Value) (h : xH) : xf 26 29 L (.int b :: .int a :: st) h = xf 26 30 L (.int (a + b) :: st) h := xo_iadd (by decide +kernel)
set_option maxRecDepth 20000 in
theorem u_X3_usesOf_30 (l0 l1 l2 l3 : Option Value) (x : Int32) (st : List Value) (h : xH) : xf 26 30 [l0, l1, l2, l3] (.int x :: st) h = xf 26 31 [l0, xcat l1, some (.int x), l3] st h := xo_istore (k := 2) (by decide +kernel) (Nat.le_of_ble_eq_true rfl) rfl
set_option maxRecDepth 20000 in
theorem u_X3_usesOf_31 (l0 l1 l3 : Option Value) (x : Int32) (st : List Value) (h : xH) : xf 26 31 [l0, l1, some (.int x), l3] st h = xf 26 32 [l0, l1, some (.int x), l3] (.int x :: st) h := xo_iload (k := 2) (by decide +kernel) rfl
set_option maxRecDepth 20000 in
theorem u_X3_usesOf_32 (l1 l2 l3 : Option Value) (x : Nat) (st : List Value) (h : xH) : xf 26 32 [some (.ref x), l1, l2, l3] st h = xf 26 33 [some (.ref x), l1, l2, l3] (.ref x :: st) h := xo_aload (k := 0) (by decide +kernel) rfl
set_option maxRecDepth 20000 in
theorem u_X3_usesOf_33 (L : xL) (a : Nat) (st : List Value) (h : xH) (hc : (xob h a).1 = 3) : xf 26 33 L (.ref a :: st) h = xf 26 36 L ((xob h a).2.getD 1 .null :: st) h := xo_getf (r := 193) (by decide +kernel) (by decide) hc
set_option maxRecDepth 20000 in
theorem u_X3_usesOf_36 (l0 l1 l2 : Option Value) (x : Int32) (st : List Value) (h : xH) : xf 26 36 [l0, l1, l2, some (.int x)] st h = xf 26 37 [l0, l1, l2, some (.int x)] (.int x :: st) h := xo_iload (k := 3) (by decide +kernel) rfl
set_option maxRecDepth 20000 in
theorem u_X3_usesOf_37 (L : xL) (v0 : Int32) (b : Nat) (st : List Value) (h : xH) (hb : (xob h b).1 = 1) (hl : st.length ≤ 4) : xf 26 37 L (.int v0 :: .ref b :: st) h = xgo 26 37 40 L st (xev 12 [.ref b, .int v0] h) := xo_callV (as := [.int v0]) (by decide +kernel) rfl ⟨(by decide +kernel : xna 12 = 1), Nat.le_of_ble_eq_true rfl, rfl, by decide⟩ hb hl
set_option maxRecDepth 20000 in
theorem u_X3_usesOf_40 (l0 l2 l3 : Option Value) (x : Int32) (st : List Value) (h : xH) : xf 26 40 [l0, some (.int x), l2, l3] st h = xf 26 41 [l0, some (.int x), l2, l3] (.int x :: st) h := xo_iload (k := 1) (by decide +kernel) rfl
set_option maxRecDepth 20000 in
theorem u_X3_usesOf_41 (L : xL) (a b : Int32) (st : List Value) (h : xH) : xf 26 41 L (.int b :: .int a :: st) h = if a = b then xf 26 44 L st h else xf 26 48 L st h := xo_icmp_ne (t := 48) (by decide +kernel) rfl
set_option maxRecDepth 20000 in
theorem u_X3_usesOf_44 (L : xL) (st : List Value) (h : xH) : xf 26 44 L st h = xf 26 45 L (.int 1 :: st) h := xo_iconst (k := 1) (by decide +kernel) (by decide)
set_option maxRecDepth 20000 in
theorem u_X3_usesOf_45 (L : xL) (st : List Value) (h : xH) : xf 26 45 L st h = xf 26 49 L st h := xo_goto (n := 48) (t := 49) (by decide +kernel) rfl
set_option maxRecDepth 20000 in
theorem u_X3_usesOf_48 (L : xL) (st : List Value) (h : xH) : xf 26 48 L st h = xf 26 49 L (.int 0 :: st) h := xo_iconst (k := 0) (by decide +kernel) (by decide)
set_option maxRecDepth 20000 in
theorem u_X3_usesOf_49 (L : xL) (a b : Int32) (st : List Value) (h : xH) : xf 26 49 L (.int b :: .int a :: st) h = xf 26 50 L (.int (a + b) :: st) h := xo_iadd (by decide +kernel)
set_option maxRecDepth 20000 in
theorem u_X3_usesOf_50 (l0 l1 l2 l3 : Option Value) (x : Int32) (st : List Value) (h : xH) : xf 26 50 [l0, l1, l2, l3] (.int x :: st) h = xf 26 51 [l0, xcat l1, some (.int x), l3] st h := xo_istore (k := 2) (by decide +kernel) (Nat.le_of_ble_eq_true rfl) rfl
set_option maxRecDepth 20000 in
theorem u_X3_usesOf_51 (l0 l1 l2 : Option Value) (x : Int32) (st : List Value) (h : xH) : xf 26 51 [l0, l1, l2, some (.int x)] st h = xf 26 54 [l0, l1, xcat l2, some (.int (x + 1))] st h := xo_iinc (k := 3) (c := 1) (by decide +kernel) rfl (by decide) rfl
set_option maxRecDepth 20000 in
theorem u_X3_usesOf_54 (L : xL) (st : List Value) (h : xH) : xf 26 54 L st h = xf 26 5 L st h := xo_goto (n := 57) (t := 5) (by decide +kernel) rfl
set_option maxRecDepth 20000 in
theorem u_X3_usesOf_57 (l0 l1 l3 : Option Value) (x : Int32) (st : List Value) (h : xH) : xf 26 57 [l0, l1, some (.int x), l3] st h = xf 26 58 [l0, l1, some (.int x), l3] (.int x :: st) h := xo_iload (k := 2) (by decide +kernel) rfl
set_option maxRecDepth 20000 in
theorem u_X3_usesOf_58 (L : xL) (x : Int32) (h : xH) : xf 26 58 L [.int x] h = some (.inl (some (.int x)), h) := xo_ireturn (n := 59) (by decide +kernel) rfl
set_option maxRecDepth 20000 in
theorem e_X3_usesOf (v0 : Nat) (v1 : Int32) (h : xH) : xev 26 [.ref v0, .int v1] h = xf 26 0 [some (.ref v0), some (.int v1), none, none] [] h := rfl
set_option maxRecDepth 20000 in
theorem u_X3_signIn_0 (l0 l2 l3 l4 l5 l6 l7 : Option Value) (x : Int32) (st : List Value) (h : xH) : xf 27 0 [l0, some (.int x), l2, l3, l4, l5, l6, l7] st h = xf 27 1 [l0, some (.int x), l2, l3, l4, l5, l6, l7] (.int x :: st) h := xo_iload (k := 1) (by decide +kernel) rfl
set_option maxRecDepth 20000 in
theorem u_X3_signIn_1 (l0 l1 l2 l3 l4 l5 l6 l7 : Option Value) (x : Int32) (st : List Value) (h : xH) : xf 27 1 [l0, l1, l2, l3, l4, l5, l6, l7] (.int x :: st) h = xf 27 2 [l0, l1, xcat l2, some (.int x), l4, l5, l6, l7] st h := xo_istore (k := 3) (by decide +kernel) (Nat.le_of_ble_eq_true rfl) rfl
set_option maxRecDepth 20000 in
theorem u_X3_signIn_2 (l0 l1 l3 l4 l5 l6 l7 : Option Value) (x : Int32) (st : List Value) (h : xH) : xf 27 2 [l0, l1, some (.int x), l3, l4, l5, l6, l7] st h = xf 27 3 [l0, l1, some (.int x), l3, l4, l5, l6, l7] (.int x :: st) h := xo_iload (k := 2) (by decide +kernel) rfl
set_option maxRecDepth 20000 in
theorem u_X3_signIn_3 (l0 l1 l2 l3 l4 l5 l6 l7 : Option Value) (x : Int32) (st : List Value) (h : xH) : xf 27 3 [l0, l1, l2, l3, l4, l5, l6, l7] (.int x :: st) h = xf 27 5 [l0, l1, l2, xcat l3, some (.int x), l5, l6, l7] st h := xo_istore (k := 4) (by decide +kernel) (Nat.le_of_ble_eq_true rfl) rfl
set_option maxRecDepth 20000 in
theorem u_X3_signIn_5 (L : xL) (st : List Value) (h : xH) : xf 27 5 L st h = xf 27 6 L (.int 0 :: st) h := xo_iconst (k := 0) (by decide +kernel) (by decide)
set_option maxRecDepth 20000 in
theorem u_X3_signIn_6 (l0 l1 l2 l3 l4 l5 l6 l7 : Option Value) (x : Int32) (st : List Value) (h : xH) : xf 27 6 [l0, l1, l2, l3, l4, l5, l6, l7] (.int x :: st) h = xf 27 8 [l0, l1, l2, l3, xcat l4, some (.int x), l6, l7] st h := xo_istore (k := 5) (by decide +kernel) (Nat.le_of_ble_eq_true rfl) rfl
set_option maxRecDepth 20000 in
theorem u_X3_signIn_8 (l0 l1 l2 l3 l4 l6 l7 : Option Value) (x : Int32) (st : List Value) (h : xH) : xf 27 8 [l0, l1, l2, l3, l4, some (.int x), l6, l7] st h = xf 27 10 [l0, l1, l2, l3, l4, some (.int x), l6, l7] (.int x :: st) h := xo_iload (k := 5) (by decide +kernel) rfl
set_option maxRecDepth 20000 in
theorem u_X3_signIn_10 (L : xL) (st : List Value) (h : xH) : xf 27 10 L st h = xf 27 12 L (.int 16 :: st) h := xo_iconst (k := 16) (by decide +kernel) (by decide)
set_option maxRecDepth 20000 in
theorem u_X3_signIn_12 (L : xL) (a b : Int32) (st : List Value) (h : xH) : xf 27 12 L (.int b :: .int a :: st) h = if a < b then xf 27 15 L st h else xf 27 77 L st h := xo_icmp_ge (t := 77) (by decide +kernel) rfl
set_option maxRecDepth 20000 in
theorem u_X3_signIn_15 (l0 l1 l2 l4 l5 l6 l7 : Option Value) (x : Int32) (st : List Value) (h : xH) : xf 27 15 [l0, l1, l2, some (.int x), l4, l5, l6, l7] st h = xf 27 16 [l0, l1, l2, some (.int x), l4, l5, l6, l7] (.int x :: st) h := xo_iload (k := 3) (by decide +kernel) rfl
set_option maxRecDepth 20000 in
theorem u_X3_signIn_16 (L : xL) (st : List Value) (h : xH) : xf 27 16 L st h = xf 27 18 L (.int 8 :: st) h := xo_iconst (k := 8) (by decide +kernel) (by decide)
set_option maxRecDepth 20000 in
theorem u_X3_signIn_18 (L : xL) (a b : Int32) (st : List Value) (h : xH) : xf 27 18 L (.int b :: .int a :: st) h = if a < b then xf 27 77 L st h else xf 27 21 L st h := xo_icmp_lt (t := 77) (by decide +kernel) rfl
set_option maxRecDepth 20000 in
theorem u_X3_signIn_21 (l1 l2 l3 l4 l5 l6 l7 : Option Value) (x : Nat) (st : List Value) (h : xH) : xf 27 21 [some (.ref x), l1, l2, l3, l4, l5, l6, l7] st h = xf 27 22 [some (.ref x), l1, l2, l3, l4, l5, l6, l7] (.ref x :: st) h := xo_aload (k := 0) (by decide +kernel) rfl
set_option maxRecDepth 20000 in
theorem u_X3_signIn_22 (L : xL) (a : Nat) (st : List Value) (h : xH) (hc : (xob h a).1 = 3) : xf 27 22 L (.ref a :: st) h = xf 27 25 L ((xob h a).2.getD 0 .null :: st) h := xo_getf (r := 192) (by decide +kernel) (by decide) hc
set_option maxRecDepth 20000 in
theorem u_X3_signIn_25 (l0 l1 l2 l4 l5 l6 l7 : Option Value) (x : Int32) (st : List Value) (h : xH) : xf 27 25 [l0, l1, l2, some (.int x), l4, l5, l6, l7] st h = xf 27 26 [l0, l1, l2, some (.int x), l4, l5, l6, l7] (.int x :: st) h := xo_iload (k := 3) (by decide +kernel) rfl
set_option maxRecDepth 20000 in
theorem u_X3_signIn_26 (L : xL) (v0 : Int32) (b : Nat) (st : List Value) (h : xH) (hb : (xob h b).1 = 1) (hl : st.length ≤ 4) : xf 27 26 L (.int v0 :: .ref b :: st) h = xgo 27 26 29 L st (xev 12 [.ref b, .int v0] h) := xo_callV (as := [.int v0]) (by decide +kernel) rfl ⟨(by decide +kernel : xna 12 = 1), Nat.le_of_ble_eq_true rfl, rfl, by decide⟩ hb hl
set_option maxRecDepth 20000 in
theorem u_X3_signIn_29 (l0 l1 l2 l3 l4 l5 l6 l7 : Option Value) (x : Int32) (st : List Value) (h : xH) : xf 27 29 [l0, l1, l2, l3, l4, l5, l6, l7] (.int x :: st) h = xf 27 31 [l0, l1, l2, l3, l4, xcat l5, some (.int x), l7] st h := xo_istore (k := 6) (by decide +kernel) (Nat.le_of_ble_eq_true rfl) rfl
set_option maxRecDepth 20000 in
theorem u_X3_signIn_31 (l1 l2 l3 l4 l5 l6 l7 : Option Value) (x : Nat) (st : List Value) (h : xH) : xf 27 31 [some (.ref x), l1, l2, l3, l4, l5, l6, l7] st h = xf 27 32 [some (.ref x), l1, l2, l3, l4, l5, l6, l7] (.ref x :: st) h := xo_aload (k := 0) (by decide +kernel) rfl
set_option maxRecDepth 20000 in
theorem u_X3_signIn_32 (L : xL) (a : Nat) (st : List Value) (h : xH) (hc : (xob h a).1 = 3) : xf 27 32 L (.ref a :: st) h = xf 27 35 L ((xob h a).2.getD 3 .null :: st) h := xo_getf (r := 195) (by decide +kernel) (by decide) hc
set_option maxRecDepth 20000 in
theorem u_X3_signIn_35 (l0 l1 l2 l3 l4 l5 l7 : Option Value) (x : Int32) (st : List Value) (h : xH) : xf 27 35 [l0, l1, l2, l3, l4, l5, some (.int x), l7] st h = xf 27 37 [l0, l1, l2, l3, l4, l5, some (.int x), l7] (.int x :: st) h := xo_iload (k := 6) (by decide +kernel) rfl
set_option maxRecDepth 20000 in
theorem u_X3_signIn_37 (L : xL) (v0 : Int32) (b : Nat) (st : List Value) (h : xH) (hb : (xob h b).1 = 1) (hl : st.length ≤ 4) : xf 27 37 L (.int v0 :: .ref b :: st) h = xgo 27 37 40 L st (xev 12 [.ref b, .int v0] h) := xo_callV (as := [.int v0]) (by decide +kernel) rfl ⟨(by decide +kernel : xna 12 = 1), Nat.le_of_ble_eq_true rfl, rfl, by decide⟩ hb hl
set_option maxRecDepth 20000 in
theorem u_X3_signIn_40 (l0 l1 l2 l3 l4 l5 l6 l7 : Option Value) (x : Int32) (st : List Value) (h : xH) : xf 27 40 [l0, l1, l2, l3, l4, l5, l6, l7] (.int x :: st) h = xf 27 42 [l0, l1, l2, l3, l4, l5, xcat l6, some (.int x)] st h := xo_istore (k := 7) (by decide +kernel) (Nat.le_of_ble_eq_true rfl) rfl
set_option maxRecDepth 20000 in
theorem u_X3_signIn_42 (l0 l1 l2 l3 l5 l6 l7 : Option Value) (x : Int32) (st : List Value) (h : xH) : xf 27 42 [l0, l1, l2, l3, some (.int x), l5, l6, l7] st h = xf 27 44 [l0, l1, l2, l3, some (.int x), l5, l6, l7] (.int x :: st) h := xo_iload (k := 4) (by decide +kernel) rfl
set_option maxRecDepth 20000 in
theorem u_X3_signIn_44 (l0 l1 l2 l3 l4 l5 l6 : Option Value) (x : Int32) (st : List Value) (h : xH) : xf 27 44 [l0, l1, l2, l3, l4, l5, l6, some (.int x)] st h = xf 27 46 [l0, l1, l2, l3, l4, l5, l6, some (.int x)] (.int x :: st) h := xo_iload (k := 7) (by decide +kernel) rfl
set_option maxRecDepth 20000 in
theorem u_X3_signIn_46 (L : xL) (a b : Int32) (st : List Value) (h : xH) : xf 27 46 L (.int b :: .int a :: st) h = if a < b then xf 27 49 L st h else xf 27 55 L st h := xo_icmp_ge (t := 55) (by decide +kernel) rfl
set_option maxRecDepth 20000 in
theorem u_X3_signIn_49 (l0 l1 l2 l3 l4 l5 l7 : Option Value) (x : Int32) (st : List Value) (h : xH) : xf 27 49 [l0, l1, l2, l3, l4, l5, some (.int x), l7] st h = xf 27 51 [l0, l1, l2, l3, l4, l5, some (.int x), l7] (.int x :: st) h := xo_iload (k := 6) (by decide +kernel) rfl
set_option maxRecDepth 20000 in
theorem u_X3_signIn_51 (l0 l1 l2 l3 l4 l5 l6 l7 : Option Value) (x : Int32) (st : List Value) (h : xH) : xf 27 51 [l0, l1, l2, l3, l4, l5, l6, l7] (.int x :: st) h = xf 27 52 [l0, l1, xcat l2, some (.int x), l4, l5, l6, l7] st h := xo_istore (k := 3) (by decide +kernel) (Nat.le_of_ble_eq_true rfl) rfl
set_option maxRecDepth 20000 in
theorem u_X3_signIn_52 (L : xL) (st : List Value) (h : xH) : xf 27 52 L st h = xf 27 71 L st h := xo_goto (n := 55) (t := 71) (by decide +kernel) rfl
set_option maxRecDepth 20000 in
theorem u_X3_signIn_55 (l0 l1 l2 l3 l5 l6 l7 : Option Value) (x : Int32) (st : List Value) (h : xH) : xf 27 55 [l0, l1, l2, l3, some (.int x), l5, l6, l7] st h = xf 27 57 [l0, l1, l2, l3, some (.int x), l5, l6, l7] (.int x :: st) h := xo_iload (k := 4) (by decide +kernel) rfl
set_option maxRecDepth 20000 in
theorem u_X3_signIn_57 (l0 l1 l2 l3 l4 l5 l6 : Option Value) (x : Int32) (st : List Value) (h : xH) : xf 27 57 [l0, l1, l2, l3, l4, l5, l6, some (.int x)] st h = xf 27 59 [l0, l1, l2, l3, l4, l5, l6, some (.int x)] (.int x :: st) h := xo_iload (k := 7) (by decide +kernel) rfl
set_option maxRecDepth 20000 in
theorem u_X3_signIn_59 (L : xL) (a b : Int32) (st : List Value) (h : xH) : xf 27 59 L (.int b :: .int a :: st) h = xf 27 60 L (.int (a - b) :: st) h := xo_isub (by decide +kernel)
set_option maxRecDepth 20000 in
theorem u_X3_signIn_60 (l0 l1 l2 l3 l4 l5 l6 l7 : Option Value) (x : Int32) (st : List Value) (h : xH) : xf 27 60 [l0, l1, l2, l3, l4, l5, l6, l7] (.int x :: st) h = xf 27 62 [l0, l1, l2, xcat l3, some (.int x), l5, l6, l7] st h := xo_istore (k := 4) (by decide +kernel) (Nat.le_of_ble_eq_true rfl) rfl
set_option maxRecDepth 20000 in
theorem u_X3_signIn_62 (l1 l2 l3 l4 l5 l6 l7 : Option Value) (x : Nat) (st : List Value) (h : xH) : xf 27 62 [some (.ref x), l1, l2, l3, l4, l5, l6, l7] st h = xf 27 63 [some (.ref x), l1, l2, l3, l4, l5, l6, l7] (.ref x :: st) h := xo_aload (k := 0) (by decide +kernel) rfl
set_option maxRecDepth 20000 in
theorem u_X3_signIn_63 (L : xL) (a : Nat) (st : List Value) (h : xH) (hc : (xob h a).1 = 3) : xf 27 63 L (.ref a :: st) h = xf 27 66 L ((xob h a).2.getD 1 .null :: st) h := xo_getf (r := 193) (by decide +kernel) (by decide) hc
set_option maxRecDepth 20000 in
theorem u_X3_signIn_66 (l0 l1 l2 l4 l5 l6 l7 : Option Value) (x : Int32) (st : List Value) (h : xH) : xf 27 66 [l0, l1, l2, some (.int x), l4, l5, l6, l7] st h = xf 27 67 [l0, l1, l2, some (.int x), l4, l5, l6, l7] (.int x :: st) h := xo_iload (k := 3) (by decide +kernel) rfl
set_option maxRecDepth 20000 in
theorem u_X3_signIn_67 (L : xL) (v0 : Int32) (b : Nat) (st : List Value) (h : xH) (hb : (xob h b).1 = 1) (hl : st.length ≤ 4) : xf 27 67 L (.int v0 :: .ref b :: st) h = xgo 27 67 70 L st (xev 12 [.ref b, .int v0] h) := xo_callV (as := [.int v0]) (by decide +kernel) rfl ⟨(by decide +kernel : xna 12 = 1), Nat.le_of_ble_eq_true rfl, rfl, by decide⟩ hb hl
set_option maxRecDepth 20000 in
theorem u_X3_signIn_70 (l0 l1 l2 l3 l4 l5 l6 l7 : Option Value) (x : Int32) (st : List Value) (h : xH) : xf 27 70 [l0, l1, l2, l3, l4, l5, l6, l7] (.int x :: st) h = xf 27 71 [l0, l1, xcat l2, some (.int x), l4, l5, l6, l7] st h := xo_istore (k := 3) (by decide +kernel) (Nat.le_of_ble_eq_true rfl) rfl
set_option maxRecDepth 20000 in
theorem u_X3_signIn_71 (l0 l1 l2 l3 l4 l6 l7 : Option Value) (x : Int32) (st : List Value) (h : xH) : xf 27 71 [l0, l1, l2, l3, l4, some (.int x), l6, l7] st h = xf 27 74 [l0, l1, l2, l3, xcat l4, some (.int (x + 1)), l6, l7] st h := xo_iinc (k := 5) (c := 1) (by decide +kernel) rfl (by decide) rfl
set_option maxRecDepth 20000 in
theorem u_X3_signIn_74 (L : xL) (st : List Value) (h : xH) : xf 27 74 L st h = xf 27 8 L st h := xo_goto (n := 77) (t := 8) (by decide +kernel) rfl
set_option maxRecDepth 20000 in
theorem u_X3_signIn_77 (l0 l1 l2 l4 l5 l6 l7 : Option Value) (x : Int32) (st : List Value) (h : xH) : xf 27 77 [l0, l1, l2, some (.int x), l4, l5, l6, l7] st h = xf 27 78 [l0, l1, l2, some (.int x), l4, l5, l6, l7] (.int x :: st) h := xo_iload (k := 3) (by decide +kernel) rfl
set_option maxRecDepth 20000 in
theorem u_X3_signIn_78 (L : xL) (x : Int32) (h : xH) : xf 27 78 L [.int x] h = some (.inl (some (.int x)), h) := xo_ireturn (n := 79) (by decide +kernel) rfl
set_option maxRecDepth 20000 in
theorem e_X3_signIn (v0 : Nat) (v1 : Int32) (v2 : Int32) (h : xH) : xev 27 [.ref v0, .int v1, .int v2] h = xf 27 0 [some (.ref v0), some (.int v1), some (.int v2), none, none, none, none, none] [] h := rfl
set_option maxRecDepth 20000 in
theorem u_X4_init_0 (x : Nat) (st : List Value) (h : xH) : xf 28 0 [some (.ref x)] st h = xf 28 1 [some (.ref x)] (.ref x :: st) h := xo_aload (k := 0) (by decide +kernel) rfl
set_option maxRecDepth 20000 in
theorem u_X4_init_1 (L : xL) (a : Nat) (st : List Value) (h : xH) (hl : st.length ≤ 4) : xf 28 1 L (.ref a :: st) h = xf 28 4 L st h := xo_objinit (by decide +kernel) hl
set_option maxRecDepth 20000 in
theorem u_X4_init_4 (x : Nat) (st : List Value) (h : xH) : xf 28 4 [some (.ref x)] st h = xf 28 5 [some (.ref x)] (.ref x :: st) h := xo_aload (k := 0) (by decide +kernel) rfl
set_option maxRecDepth 20000 in
theorem u_X4_init_5 (L : xL) (st : List Value) (h : xH) (hn : h.2.1 ≠ 0) : xf 28 5 L st h = xf 28 8 L (.ref h.2.1 :: st) (xnew h (.inr (1, xdef 1)) 1) := xo_new (c := 1) (by decide +kernel) (by decide) hn
set_option maxRecDepth 20000 in
theorem u_X4_init_8 (L : xL) (a : Nat) (st : List Value) (h : xH) : xf 28 8 L (.ref a :: st) h = xf 28 9 L (.ref a :: .ref a :: st) h := xo_dupR (by decide +kernel)
set_option maxRecDepth 20000 in
theorem u_X4_init_9 (L : xL) (st : List Value) (h : xH) : xf 28 9 L st h = xf 28 12 L (.int 576 :: st) h := xo_iconst (k := 576) (by decide +kernel) (by decide)
set_option maxRecDepth 20000 in
theorem u_X4_init_12 (L : xL) (v0 : Int32) (b : Nat) (st : List Value) (h : xH) (hl : st.length ≤ 4) : xf 28 12 L (.int v0 :: .ref b :: st) h = xgoI 28 12 15 L st (xev 11 [.ref b, .int v0] h) := xo_callI (as := [.int v0]) (by decide +kernel) rfl ⟨(by decide +kernel : xna 11 = 1), Nat.le_of_ble_eq_true rfl, by decide⟩ hl
set_option maxRecDepth 20000 in
theorem u_X4_init_15 (L : xL) (v : Nat) (a : Nat) (st : List Value) (h : xH) (hc : (xob h a).1 = 4) : xf 28 15 L (.ref v :: .ref a :: st) h = xf 28 18 L st (xso h a 0 (.ref v)) := xo_putf (r := 256) (by decide +kernel) (by decide) rfl hc
set_option maxRecDepth 20000 in
theorem u_X4_init_18 (x : Nat) (st : List Value) (h : xH) : xf 28 18 [some (.ref x)] st h = xf 28 19 [some (.ref x)] (.ref x :: st) h := xo_aload (k := 0) (by decide +kernel) rfl
set_option maxRecDepth 20000 in
theorem u_X4_init_19 (L : xL) (st : List Value) (h : xH) (hn : h.2.1 ≠ 0) : xf 28 19 L st h = xf 28 22 L (.ref h.2.1 :: st) (xnew h (.inr (1, xdef 1)) 1) := xo_new (c := 1) (by decide +kernel) (by decide) hn
set_option maxRecDepth 20000 in
theorem u_X4_init_22 (L : xL) (a : Nat) (st : List Value) (h : xH) : xf 28 22 L (.ref a :: st) h = xf 28 23 L (.ref a :: .ref a :: st) h := xo_dupR (by decide +kernel)
set_option maxRecDepth 20000 in
theorem u_X4_init_23 (L : xL) (st : List Value) (h : xH) : xf 28 23 L st h = xf 28 25 L (.int 64 :: st) h := xo_iconst (k := 64) (by decide +kernel) (by decide)
set_option maxRecDepth 20000 in
theorem u_X4_init_25 (L : xL) (v0 : Int32) (b : Nat) (st : List Value) (h : xH) (hl : st.length ≤ 4) : xf 28 25 L (.int v0 :: .ref b :: st) h = xgoI 28 25 28 L st (xev 11 [.ref b, .int v0] h) := xo_callI (as := [.int v0]) (by decide +kernel) rfl ⟨(by decide +kernel : xna 11 = 1), Nat.le_of_ble_eq_true rfl, by decide⟩ hl
set_option maxRecDepth 20000 in
theorem u_X4_init_28 (L : xL) (v : Nat) (a : Nat) (st : List Value) (h : xH) (hc : (xob h a).1 = 4) : xf 28 28 L (.ref v :: .ref a :: st) h = xf 28 31 L st (xso h a 1 (.ref v)) := xo_putf (r := 257) (by decide +kernel) (by decide) rfl hc
set_option maxRecDepth 20000 in
theorem u_X4_init_31 (x : Nat) (st : List Value) (h : xH) : xf 28 31 [some (.ref x)] st h = xf 28 32 [some (.ref x)] (.ref x :: st) h := xo_aload (k := 0) (by decide +kernel) rfl
set_option maxRecDepth 20000 in
theorem u_X4_init_32 (L : xL) (st : List Value) (h : xH) : xf 28 32 L st h = xf 28 33 L (.int (-1) :: st) h := xo_iconst (k := (-1)) (by decide +kernel) (by decide)
set_option maxRecDepth 20000 in
theorem u_X4_init_33 (L : xL) (v : Int32) (a : Nat) (st : List Value) (h : xH) (hc : (xob h a).1 = 4) : xf 28 33 L (.int v :: .ref a :: st) h = xf 28 36 L st (xso h a 2 (.int v)) := xo_putf (r := 258) (by decide +kernel) (by decide) rfl hc
set_option maxRecDepth 20000 in
theorem u_X4_init_36 (x : Nat) (st : List Value) (h : xH) : xf 28 36 [some (.ref x)] st h = xf 28 37 [some (.ref x)] (.ref x :: st) h := xo_aload (k := 0) (by decide +kernel) rfl
set_option maxRecDepth 20000 in
theorem u_X4_init_37 (L : xL) (st : List Value) (h : xH) : xf 28 37 L st h = xf 28 38 L (.int (-1) :: st) h := xo_iconst (k := (-1)) (by decide +kernel) (by decide)
set_option maxRecDepth 20000 in
theorem u_X4_init_38 (L : xL) (v : Int32) (a : Nat) (st : List Value) (h : xH) (hc : (xob h a).1 = 4) : xf 28 38 L (.int v :: .ref a :: st) h = xf 28 41 L st (xso h a 3 (.int v)) := xo_putf (r := 259) (by decide +kernel) (by decide) rfl hc
set_option maxRecDepth 20000 in
theorem u_X4_init_41 (x : Nat) (st : List Value) (h : xH) : xf 28 41 [some (.ref x)] st h = xf 28 42 [some (.ref x)] (.ref x :: st) h := xo_aload (k := 0) (by decide +kernel) rfl
set_option maxRecDepth 20000 in
theorem u_X4_init_42 (L : xL) (st : List Value) (h : xH) : xf 28 42 L st h = xf 28 43 L (.int (-1) :: st) h := xo_iconst (k := (-1)) (by decide +kernel) (by decide)
set_option maxRecDepth 20000 in
theorem u_X4_init_43 (L : xL) (v : Int32) (a : Nat) (st : List Value) (h : xH) (hc : (xob h a).1 = 4) : xf 28 43 L (.int v :: .ref a :: st) h = xf 28 46 L st (xso h a 4 (.int v)) := xo_putf (r := 260) (by decide +kernel) (by decide) rfl hc
set_option maxRecDepth 20000 in
theorem u_X4_init_46 (x : Nat) (st : List Value) (h : xH) : xf 28 46 [some (.ref x)] st h = xf 28 47 [some (.ref x)] (.ref x :: st) h := xo_aload (k := 0) (by decide +kernel) rfl
set_option maxRecDepth 20000 in
theorem u_X4_init_47 (L : xL) (st : List Value) (h : xH) : xf 28 47 L st h = xf 28 48 L (.int (-1) :: st) h := xo_iconst (k := (-1)) (by decide +kernel) (by decide)
set_option maxRecDepth 20000 in
theorem u_X4_init_48 (L : xL) (v : Int32) (a : Nat) (st : List Value) (h : xH) (hc : (xob h a).1 = 4) : xf 28 48 L (.int v :: .ref a :: st) h = xf 28 51 L st (xso h a 5 (.int v)) := xo_putf (r := 261) (by decide +kernel) (by decide) rfl hc
set_option maxRecDepth 20000 in
theorem u_X4_init_51 (L : xL) (h : xH) : xf 28 51 L [] h = some (.inl none, h) := xo_return (n := 52) (by decide +kernel) rfl
set_option maxRecDepth 20000 in
theorem e_X4_init (v0 : Nat) (h : xH) : xev 28 [.ref v0] h = xf 28 0 [some (.ref v0)] [] h := rfl
set_option maxRecDepth 20000 in
theorem u_X4_find_0 (l1 : Option Value) (x : Nat) (st : List Value) (h : xH) : xf 29 0 [some (.ref x), l1] st h = xf 29 1 [some (.ref x), l1] (.ref x :: st) h := xo_aload (k := 0) (by decide +kernel) rfl
set_option maxRecDepth 20000 in
theorem u_X4_find_1 (l0 : Option Value) (x : Nat) (st : List Value) (h : xH) : xf 29 1 [l0, some (.ref x)] st h = xf 29 2 [l0, some (.ref x)] (.ref x :: st) h := xo_aload (k := 1) (by decide +kernel) rfl
set_option maxRecDepth 20000 in
theorem u_X4_find_2 (L : xL) (a : Nat) (st : List Value) (h : xH) (hc : (xob h a).1 = 6) : xf 29 2 L (.ref a :: st) h = xf 29 5 L ((xob h a).2.getD 0 .null :: st) h := xo_getf (r := 384) (by decide +kernel) (by decide) hc
set_option maxRecDepth 20000 in
theorem u_X4_find_5 (L : xL) (v0 : Nat) (b : Nat) (st : List Value) (h : xH) (hb : (xob h b).1 = 4) (hl : st.length ≤ 4) : xf 29 5 L (.ref v0 :: .ref b :: st) h = xgo 29 5 8 L st (xev 30 [.ref b, .ref v0] h) := xo_callV (as := [.ref v0]) (by decide +kernel) rfl ⟨(by decide +kernel : xna 30 = 1), Nat.le_of_ble_eq_true rfl, rfl, by decide⟩ hb hl
set_option maxRecDepth 20000 in
theorem u_X4_find_8 (l1 : Option Value) (x : Nat) (st : List Value) (h : xH) : xf 29 8 [some (.ref x), l1] st h = xf 29 9 [some (.ref x), l1] (.ref x :: st) h := xo_aload (k := 0) (by decide +kernel) rfl
set_option maxRecDepth 20000 in
theorem u_X4_find_9 (l0 : Option Value) (x : Nat) (st : List Value) (h : xH) : xf 29 9 [l0, some (.ref x)] st h = xf 29 10 [l0, some (.ref x)] (.ref x :: st) h := xo_aload (k := 1) (by decide +kernel) rfl
set_option maxRecDepth 20000 in
theorem u_X4_find_10 (L : xL) (a : Nat) (st : List Value) (h : xH) (hc : (xob h a).1 = 6) : xf 29 10 L (.ref a :: st) h = xf 29 13 L ((xob h a).2.getD 0 .null :: st) h := xo_getf (r := 384) (by decide +kernel) (by decide) hc
set_option maxRecDepth 20000 in
theorem u_X4_find_13 (L : xL) (v0 : Nat) (b : Nat) (st : List Value) (h : xH) (hb : (xob h b).1 = 4) (hl : st.length ≤ 4) : xf 29 13 L (.ref v0 :: .ref b :: st) h = xgo 29 13 16 L st (xev 31 [.ref b, .ref v0] h) := xo_callV (as := [.ref v0]) (by decide +kernel) rfl ⟨(by decide +kernel : xna 31 = 1), Nat.le_of_ble_eq_true rfl, rfl, by decide⟩ hb hl
set_option maxRecDepth 20000 in
theorem u_X4_find_16 (l1 : Option Value) (x : Nat) (st : List Value) (h : xH) : xf 29 16 [some (.ref x), l1] st h = xf 29 17 [some (.ref x), l1] (.ref x :: st) h := xo_aload (k := 0) (by decide +kernel) rfl
set_option maxRecDepth 20000 in
theorem u_X4_find_17 (L : xL) (a : Nat) (st : List Value) (h : xH) (hc : (xob h a).1 = 4) : xf 29 17 L (.ref a :: st) h = xf 29 20 L ((xob h a).2.getD 4 .null :: st) h := xo_getf (r := 260) (by decide +kernel) (by decide) hc
set_option maxRecDepth 20000 in
theorem u_X4_find_20 (l0 : Option Value) (x : Nat) (st : List Value) (h : xH) : xf 29 20 [l0, some (.ref x)] st h = xf 29 21 [l0, some (.ref x)] (.ref x :: st) h := xo_aload (k := 1) (by decide +kernel) rfl
set_option maxRecDepth 20000 in
theorem u_X4_find_21 (L : xL) (a : Nat) (st : List Value) (h : xH) (hc : (xob h a).1 = 6) : xf 29 21 L (.ref a :: st) h = xf 29 24 L ((xob h a).2.getD 2 .null :: st) h := xo_getf (r := 386) (by decide +kernel) (by decide) hc
set_option maxRecDepth 20000 in
theorem u_X4_find_24 (L : xL) (st : List Value) (h : xH) : xf 29 24 L st h = xf 29 25 L (.int 0 :: st) h := xo_iconst (k := 0) (by decide +kernel) (by decide)
set_option maxRecDepth 20000 in
theorem u_X4_find_25 (L : xL) (v0 : Int32) (b : Nat) (st : List Value) (h : xH) (hb : (xob h b).1 = 1) (hl : st.length ≤ 4) : xf 29 25 L (.int v0 :: .ref b :: st) h = xgo 29 25 28 L st (xev 12 [.ref b, .int v0] h) := xo_callV (as := [.int v0]) (by decide +kernel) rfl ⟨(by decide +kernel : xna 12 = 1), Nat.le_of_ble_eq_true rfl, rfl, by decide⟩ hb hl
set_option maxRecDepth 20000 in
theorem u_X4_find_28 (L : xL) (a b : Int32) (st : List Value) (h : xH) : xf 29 28 L (.int b :: .int a :: st) h = if a < b then xf 29 53 L st h else xf 29 31 L st h := xo_icmp_lt (t := 53) (by decide +kernel) rfl
set_option maxRecDepth 20000 in
theorem u_X4_find_31 (l1 : Option Value) (x : Nat) (st : List Value) (h : xH) : xf 29 31 [some (.ref x), l1] st h = xf 29 32 [some (.ref x), l1] (.ref x :: st) h := xo_aload (k := 0) (by decide +kernel) rfl
set_option maxRecDepth 20000 in
theorem u_X4_find_32 (l0 : Option Value) (x : Nat) (st : List Value) (h : xH) : xf 29 32 [l0, some (.ref x)] st h = xf 29 33 [l0, some (.ref x)] (.ref x :: st) h := xo_aload (k := 1) (by decide +kernel) rfl
set_option maxRecDepth 20000 in
theorem u_X4_find_33 (L : xL) (a : Nat) (st : List Value) (h : xH) (hc : (xob h a).1 = 6) : xf 29 33 L (.ref a :: st) h = xf 29 36 L ((xob h a).2.getD 1 .null :: st) h := xo_getf (r := 385) (by decide +kernel) (by decide) hc
set_option maxRecDepth 20000 in
theorem u_X4_find_36 (l1 : Option Value) (x : Nat) (st : List Value) (h : xH) : xf 29 36 [some (.ref x), l1] st h = xf 29 37 [some (.ref x), l1] (.ref x :: st) h := xo_aload (k := 0) (by decide +kernel) rfl
set_option maxRecDepth 20000 in
theorem u_X4_find_37 (L : xL) (a : Nat) (st : List Value) (h : xH) (hc : (xob h a).1 = 4) : xf 29 37 L (.ref a :: st) h = xf 29 40 L ((xob h a).2.getD 2 .null :: st) h := xo_getf (r := 258) (by decide +kernel) (by decide) hc
set_option maxRecDepth 20000 in
theorem u_X4_find_40 (l1 : Option Value) (x : Nat) (st : List Value) (h : xH) : xf 29 40 [some (.ref x), l1] st h = xf 29 41 [some (.ref x), l1] (.ref x :: st) h := xo_aload (k := 0) (by decide +kernel) rfl
set_option maxRecDepth 20000 in
theorem u_X4_find_41 (L : xL) (a : Nat) (st : List Value) (h : xH) (hc : (xob h a).1 = 4) : xf 29 41 L (.ref a :: st) h = xf 29 44 L ((xob h a).2.getD 3 .null :: st) h := xo_getf (r := 259) (by decide +kernel) (by decide) hc
set_option maxRecDepth 20000 in
theorem u_X4_find_44 (L : xL) (v0 : Int32) (v1 : Int32) (b : Nat) (st : List Value) (h : xH) (hb : (xob h b).1 = 3) (hl : st.length ≤ 4) : xf 29 44 L (.int v1 :: .int v0 :: .ref b :: st) h = xgo 29 44 47 L st (xev 25 [.ref b, .int v0, .int v1] h) := xo_callV (as := [.int v0, .int v1]) (by decide +kernel) rfl ⟨(by decide +kernel : xna 25 = 2), Nat.le_of_ble_eq_true rfl, rfl, by decide⟩ hb hl
set_option maxRecDepth 20000 in
theorem u_X4_find_47 (L : xL) (v : Int32) (a : Nat) (st : List Value) (h : xH) (hc : (xob h a).1 = 4) : xf 29 47 L (.int v :: .ref a :: st) h = xf 29 50 L st (xso h a 5 (.int v)) := xo_putf (r := 261) (by decide +kernel) (by decide) rfl hc
set_option maxRecDepth 20000 in
theorem u_X4_find_50 (L : xL) (st : List Value) (h : xH) : xf 29 50 L st h = xf 29 58 L st h := xo_goto (n := 53) (t := 58) (by decide +kernel) rfl
set_option maxRecDepth 20000 in
theorem u_X4_find_53 (l1 : Option Value) (x : Nat) (st : List Value) (h : xH) : xf 29 53 [some (.ref x), l1] st h = xf 29 54 [some (.ref x), l1] (.ref x :: st) h := xo_aload (k := 0) (by decide +kernel) rfl
set_option maxRecDepth 20000 in
theorem u_X4_find_54 (L : xL) (st : List Value) (h : xH) : xf 29 54 L st h = xf 29 55 L (.int (-1) :: st) h := xo_iconst (k := (-1)) (by decide +kernel) (by decide)
set_option maxRecDepth 20000 in
theorem u_X4_find_55 (L : xL) (v : Int32) (a : Nat) (st : List Value) (h : xH) (hc : (xob h a).1 = 4) : xf 29 55 L (.int v :: .ref a :: st) h = xf 29 58 L st (xso h a 5 (.int v)) := xo_putf (r := 261) (by decide +kernel) (by decide) rfl hc
set_option maxRecDepth 20000 in
theorem u_X4_find_58 (l1 : Option Value) (x : Nat) (st : List Value) (h : xH) : xf 29 58 [some (.ref x), l1] st h = xf 29 59 [some (.ref x), l1] (.ref x :: st) h := xo_aload (k := 0) (by decide +kernel) rfl
set_option maxRecDepth 20000 in
theorem u_X4_find_59 (L : xL) (a : Nat) (st : List Value) (h : xH) (hc : (xob h a).1 = 4) : xf 29 59 L (.ref a :: st) h = xf 29 62 L ((xob h a).2.getD 5 .null :: st) h := xo_getf (r := 261) (by decide +kernel) (by decide) hc
set_option maxRecDepth 20000 in
theorem u_X4_find_62 (L : xL) (st : List Value) (h : xH) : xf 29 62 L st h = xf 29 63 L (.int (-1) :: st) h := xo_iconst (k := (-1)) (by decide +kernel) (by decide)
set_option maxRecDepth 20000 in
theorem u_X4_find_63 (L : xL) (a b : Int32) (st : List Value) (h : xH) : xf 29 63 L (.int b :: .int a :: st) h = if a = b then xf 29 66 L st h else xf 29 81 L st h := xo_icmp_ne (t := 81) (by decide +kernel) rfl
set_option maxRecDepth 20000 in
theorem u_X4_find_66 (l1 : Option Value) (x : Nat) (st : List Value) (h : xH) : xf 29 66 [some (.ref x), l1] st h = xf 29 67 [some (.ref x), l1] (.ref x :: st) h := xo_aload (k := 0) (by decide +kernel) rfl
set_option maxRecDepth 20000 in
theorem u_X4_find_67 (L : xL) (st : List Value) (h : xH) : xf 29 67 L st h = xf 29 68 L (.int (-1) :: st) h := xo_iconst (k := (-1)) (by decide +kernel) (by decide)
set_option maxRecDepth 20000 in
theorem u_X4_find_68 (L : xL) (v : Int32) (a : Nat) (st : List Value) (h : xH) (hc : (xob h a).1 = 4) : xf 29 68 L (.int v :: .ref a :: st) h = xf 29 71 L st (xso h a 2 (.int v)) := xo_putf (r := 258) (by decide +kernel) (by decide) rfl hc
set_option maxRecDepth 20000 in
theorem u_X4_find_71 (l1 : Option Value) (x : Nat) (st : List Value) (h : xH) : xf 29 71 [some (.ref x), l1] st h = xf 29 72 [some (.ref x), l1] (.ref x :: st) h := xo_aload (k := 0) (by decide +kernel) rfl
set_option maxRecDepth 20000 in
theorem u_X4_find_72 (L : xL) (st : List Value) (h : xH) : xf 29 72 L st h = xf 29 73 L (.int (-1) :: st) h := xo_iconst (k := (-1)) (by decide +kernel) (by decide)
set_option maxRecDepth 20000 in
theorem u_X4_find_73 (L : xL) (v : Int32) (a : Nat) (st : List Value) (h : xH) (hc : (xob h a).1 = 4) : xf 29 73 L (.int v :: .ref a :: st) h = xf 29 76 L st (xso h a 3 (.int v)) := xo_putf (r := 259) (by decide +kernel) (by decide) rfl hc
set_option maxRecDepth 20000 in
theorem u_X4_find_76 (l1 : Option Value) (x : Nat) (st : List Value) (h : xH) : xf 29 76 [some (.ref x), l1] st h = xf 29 77 [some (.ref x), l1] (.ref x :: st) h := xo_aload (k := 0) (by decide +kernel) rfl
set_option maxRecDepth 20000 in
theorem u_X4_find_77 (L : xL) (st : List Value) (h : xH) : xf 29 77 L st h = xf 29 78 L (.int (-1) :: st) h := xo_iconst (k := (-1)) (by decide +kernel) (by decide)
set_option maxRecDepth 20000 in
theorem u_X4_find_78 (L : xL) (v : Int32) (a : Nat) (st : List Value) (h : xH) (hc : (xob h a).1 = 4) : xf 29 78 L (.int v :: .ref a :: st) h = xf 29 81 L st (xso h a 4 (.int v)) := xo_putf (r := 260) (by decide +kernel) (by decide) rfl hc
set_option maxRecDepth 20000 in
theorem u_X4_find_81 (L : xL) (h : xH) : xf 29 81 L [] h = some (.inl none, h) := xo_return (n := 82) (by decide +kernel) rfl
set_option maxRecDepth 20000 in
theorem e_X4_find (v0 : Nat) (v1 : Nat) (h : xH) : xev 29 [.ref v0, .ref v1] h = xf 29 0 [some (.ref v0), some (.ref v1)] [] h := rfl
set_option maxRecDepth 20000 in
theorem u_X4_tally_0 (L : xL) (st : List Value) (h : xH) : xf 30 0 L st h = xf 30 1 L (.int 0 :: st) h := xo_iconst (k := 0) (by decide +kernel) (by decide)
set_option maxRecDepth 20000 in
theorem u_X4_tally_1 (l0 l1 l2 l3 l4 l5 : Option Value) (x : Int32) (st : List Value) (h : xH) : xf 30 1 [l0, l1, l2, l3, l4, l5] (.int x :: st) h = xf 30 2 [l0, xcat l1, some (.int x), l3, l4, l5] st h := xo_istore (k := 2) (by decide +kernel) (Nat.le_of_ble_eq_true rfl) rfl
set_option maxRecDepth 20000 in
theorem u_X4_tally_2 (l0 l1 l3 l4 l5 : Option Value) (x : Int32) (st : List Value) (h : xH) : xf 30 2 [l0, l1, some (.int x), l3, l4, l5] st h = xf 30 3 [l0, l1, some (.int x), l3, l4, l5] (.int x :: st) h := xo_iload (k := 2) (by decide +kernel) rfl
set_option maxRecDepth 20000 in
theorem u_X4_tally_3 (L : xL) (st : List Value) (h : xH) : xf 30 3 L st h = xf 30 4 L (.int 1 :: st) h := xo_iconst (k := 1) (by decide +kernel) (by decide)
set_option maxRecDepth 20000 in
theorem u_X4_tally_4 (L : xL) (a b : Int32) (st : List Value) (h : xH) : xf 30 4 L (.int b :: .int a :: st) h = xf 30 5 L (.int (a + b) :: st) h := xo_iadd (by decide +kernel)
set_option maxRecDepth 20000 in
theorem u_X4_tally_5 (l0 l2 l3 l4 l5 : Option Value) (x : Nat) (st : List Value) (h : xH) : xf 30 5 [l0, some (.ref x), l2, l3, l4, l5] st h = xf 30 6 [l0, some (.ref x), l2, l3, l4, l5] (.ref x :: st) h := xo_aload (k := 1) (by decide +kernel) rfl
set_option maxRecDepth 20000 in
theorem u_X4_tally_6 (L : xL) (a : Nat) (st : List Value) (h : xH) (hc : (xob h a).1 = 5) : xf 30 6 L (.ref a :: st) h = xf 30 9 L ((xob h a).2.getD 1 .null :: st) h := xo_getf (r := 321) (by decide +kernel) (by decide) hc
set_option maxRecDepth 20000 in
theorem u_X4_tally_9 (L : xL) (a b : Int32) (st : List Value) (h : xH) : xf 30 9 L (.int b :: .int a :: st) h = if a < b then xf 30 12 L st h else xf 30 53 L st h := xo_icmp_ge (t := 53) (by decide +kernel) rfl
set_option maxRecDepth 20000 in
theorem u_X4_tally_12 (l0 l2 l3 l4 l5 : Option Value) (x : Nat) (st : List Value) (h : xH) : xf 30 12 [l0, some (.ref x), l2, l3, l4, l5] st h = xf 30 13 [l0, some (.ref x), l2, l3, l4, l5] (.ref x :: st) h := xo_aload (k := 1) (by decide +kernel) rfl
set_option maxRecDepth 20000 in
theorem u_X4_tally_13 (l0 l1 l3 l4 l5 : Option Value) (x : Int32) (st : List Value) (h : xH) : xf 30 13 [l0, l1, some (.int x), l3, l4, l5] st h = xf 30 14 [l0, l1, some (.int x), l3, l4, l5] (.int x :: st) h := xo_iload (k := 2) (by decide +kernel) rfl
set_option maxRecDepth 20000 in
theorem u_X4_tally_14 (L : xL) (v0 : Int32) (b : Nat) (st : List Value) (h : xH) (hb : (xob h b).1 = 5) (hl : st.length ≤ 4) : xf 30 14 L (.int v0 :: .ref b :: st) h = xgo 30 14 17 L st (xev 36 [.ref b, .int v0] h) := xo_callV (as := [.int v0]) (by decide +kernel) rfl ⟨(by decide +kernel : xna 36 = 1), Nat.le_of_ble_eq_true rfl, rfl, by decide⟩ hb hl
set_option maxRecDepth 20000 in
theorem u_X4_tally_17 (L : xL) (st : List Value) (h : xH) : xf 30 17 L st h = xf 30 19 L (.int 24 :: st) h := xo_iconst (k := 24) (by decide +kernel) (by decide)
set_option maxRecDepth 20000 in
theorem u_X4_tally_19 (L : xL) (a b : Int32) (st : List Value) (h : xH) : xf 30 19 L (.int b :: .int a :: st) h = xf 30 20 L (.int (a * b) :: st) h := xo_imul (by decide +kernel)
set_option maxRecDepth 20000 in
theorem u_X4_tally_20 (l0 l2 l3 l4 l5 : Option Value) (x : Nat) (st : List Value) (h : xH) : xf 30 20 [l0, some (.ref x), l2, l3, l4, l5] st h = xf 30 21 [l0, some (.ref x), l2, l3, l4, l5] (.ref x :: st) h := xo_aload (k := 1) (by decide +kernel) rfl
set_option maxRecDepth 20000 in
theorem u_X4_tally_21 (l0 l1 l3 l4 l5 : Option Value) (x : Int32) (st : List Value) (h : xH) : xf 30 21 [l0, l1, some (.int x), l3, l4, l5] st h = xf 30 22 [l0, l1, some (.int x), l3, l4, l5] (.int x :: st) h := xo_iload (k := 2) (by decide +kernel) rfl
set_option maxRecDepth 20000 in
theorem u_X4_tally_22 (L : xL) (st : List Value) (h : xH) : xf 30 22 L st h = xf 30 23 L (.int 1 :: st) h := xo_iconst (k := 1) (by decide +kernel) (by decide)
set_option maxRecDepth 20000 in
theorem u_X4_tally_23 (L : xL) (a b : Int32) (st : List Value) (h : xH) : xf 30 23 L (.int b :: .int a :: st) h = xf 30 24 L (.int (a + b) :: st) h := xo_iadd (by decide +kernel)
set_option maxRecDepth 20000 in
theorem u_X4_tally_24 (L : xL) (v0 : Int32) (b : Nat) (st : List Value) (h : xH) (hb : (xob h b).1 = 5) (hl : st.length ≤ 4) : xf 30 24 L (.int v0 :: .ref b :: st) h = xgo 30 24 27 L st (xev 36 [.ref b, .int v0] h) := xo_callV (as := [.int v0]) (by decide +kernel) rfl ⟨(by decide +kernel : xna 36 = 1), Nat.le_of_ble_eq_true rfl, rfl, by decide⟩ hb hl
set_option maxRecDepth 20000 in
theorem u_X4_tally_27 (L : xL) (a b : Int32) (st : List Value) (h : xH) : xf 30 27 L (.int b :: .int a :: st) h = xf 30 28 L (.int (a + b) :: st) h := xo_iadd (by decide +kernel)
set_option maxRecDepth 20000 in
theorem u_X4_tally_28 (l0 l1 l2 l3 l4 l5 : Option Value) (x : Int32) (st : List Value) (h : xH) : xf 30 28 [l0, l1, l2, l3, l4, l5] (.int x :: st) h = xf 30 29 [l0, l1, xcat l2, some (.int x), l4, l5] st h := xo_istore (k := 3) (by decide +kernel) (Nat.le_of_ble_eq_true rfl) rfl
set_option maxRecDepth 20000 in
theorem u_X4_tally_29 (l1 l2 l3 l4 l5 : Option Value) (x : Nat) (st : List Value) (h : xH) : xf 30 29 [some (.ref x), l1, l2, l3, l4, l5] st h = xf 30 30 [some (.ref x), l1, l2, l3, l4, l5] (.ref x :: st) h := xo_aload (k := 0) (by decide +kernel) rfl
set_option maxRecDepth 20000 in
theorem u_X4_tally_30 (L : xL) (a : Nat) (st : List Value) (h : xH) (hc : (xob h a).1 = 4) : xf 30 30 L (.ref a :: st) h = xf 30 33 L ((xob h a).2.getD 1 .null :: st) h := xo_getf (r := 257) (by decide +kernel) (by decide) hc
set_option maxRecDepth 20000 in
theorem u_X4_tally_33 (l0 l1 l3 l4 l5 : Option Value) (x : Int32) (st : List Value) (h : xH) : xf 30 33 [l0, l1, some (.int x), l3, l4, l5] st h = xf 30 34 [l0, l1, some (.int x), l3, l4, l5] (.int x :: st) h := xo_iload (k := 2) (by decide +kernel) rfl
set_option maxRecDepth 20000 in
theorem u_X4_tally_34 (l0 l1 l2 l4 l5 : Option Value) (x : Int32) (st : List Value) (h : xH) : xf 30 34 [l0, l1, l2, some (.int x), l4, l5] st h = xf 30 35 [l0, l1, l2, some (.int x), l4, l5] (.int x :: st) h := xo_iload (k := 3) (by decide +kernel) rfl
set_option maxRecDepth 20000 in
theorem u_X4_tally_35 (L : xL) (v0 : Int32) (v1 : Int32) (b : Nat) (st : List Value) (h : xH) (hb : (xob h b).1 = 1) (hl : st.length ≤ 4) : xf 30 35 L (.int v1 :: .int v0 :: .ref b :: st) h = xgo 30 35 38 L st (xev 13 [.ref b, .int v0, .int v1] h) := xo_callV (as := [.int v0, .int v1]) (by decide +kernel) rfl ⟨(by decide +kernel : xna 13 = 2), Nat.le_of_ble_eq_true rfl, rfl, by decide⟩ hb hl
set_option maxRecDepth 20000 in
theorem u_X4_tally_38 (l1 l2 l3 l4 l5 : Option Value) (x : Nat) (st : List Value) (h : xH) : xf 30 38 [some (.ref x), l1, l2, l3, l4, l5] st h = xf 30 39 [some (.ref x), l1, l2, l3, l4, l5] (.ref x :: st) h := xo_aload (k := 0) (by decide +kernel) rfl
set_option maxRecDepth 20000 in
theorem u_X4_tally_39 (L : xL) (a : Nat) (st : List Value) (h : xH) (hc : (xob h a).1 = 4) : xf 30 39 L (.ref a :: st) h = xf 30 42 L ((xob h a).2.getD 0 .null :: st) h := xo_getf (r := 256) (by decide +kernel) (by decide) hc
set_option maxRecDepth 20000 in
theorem u_X4_tally_42 (l0 l1 l2 l4 l5 : Option Value) (x : Int32) (st : List Value) (h : xH) : xf 30 42 [l0, l1, l2, some (.int x), l4, l5] st h = xf 30 43 [l0, l1, l2, some (.int x), l4, l5] (.int x :: st) h := xo_iload (k := 3) (by decide +kernel) rfl
set_option maxRecDepth 20000 in
theorem u_X4_tally_43 (L : xL) (st : List Value) (h : xH) : xf 30 43 L st h = xf 30 44 L (.int 0 :: st) h := xo_iconst (k := 0) (by decide +kernel) (by decide)
set_option maxRecDepth 20000 in
theorem u_X4_tally_44 (L : xL) (v0 : Int32) (v1 : Int32) (b : Nat) (st : List Value) (h : xH) (hb : (xob h b).1 = 1) (hl : st.length ≤ 4) : xf 30 44 L (.int v1 :: .int v0 :: .ref b :: st) h = xgo 30 44 47 L st (xev 13 [.ref b, .int v0, .int v1] h) := xo_callV (as := [.int v0, .int v1]) (by decide +kernel) rfl ⟨(by decide +kernel : xna 13 = 2), Nat.le_of_ble_eq_true rfl, rfl, by decide⟩ hb hl
set_option maxRecDepth 20000 in
theorem u_X4_tally_47 (l0 l1 l3 l4 l5 : Option Value) (x : Int32) (st : List Value) (h : xH) : xf 30 47 [l0, l1, some (.int x), l3, l4, l5] st h = xf 30 50 [l0, xcat l1, some (.int (x + 1)), l3, l4, l5] st h := xo_iinc (k := 2) (c := 1) (by decide +kernel) rfl (by decide) rfl
set_option maxRecDepth 20000 in
theorem u_X4_tally_50 (L : xL) (st : List Value) (h : xH) : xf 30 50 L st h = xf 30 2 L st h := xo_goto (n := 53) (t := 2) (by decide +kernel) rfl
set_option maxRecDepth 20000 in
theorem u_X4_tally_53 (L : xL) (st : List Value) (h : xH) : xf 30 53 L st h = xf 30 55 L (.int (-2) :: st) h := xo_iconst (k := (-2)) (by decide +kernel) (by decide)
set_option maxRecDepth 20000 in
theorem u_X4_tally_55 (l0 l1 l2 l3 l4 l5 : Option Value) (x : Int32) (st : List Value) (h : xH) : xf 30 55 [l0, l1, l2, l3, l4, l5] (.int x :: st) h = xf 30 56 [l0, xcat l1, some (.int x), l3, l4, l5] st h := xo_istore (k := 2) (by decide +kernel) (Nat.le_of_ble_eq_true rfl) rfl
set_option maxRecDepth 20000 in
theorem u_X4_tally_56 (L : xL) (st : List Value) (h : xH) : xf 30 56 L st h = xf 30 57 L (.int 0 :: st) h := xo_iconst (k := 0) (by decide +kernel) (by decide)
set_option maxRecDepth 20000 in
theorem u_X4_tally_57 (l0 l1 l2 l3 l4 l5 : Option Value) (x : Int32) (st : List Value) (h : xH) : xf 30 57 [l0, l1, l2, l3, l4, l5] (.int x :: st) h = xf 30 58 [l0, l1, xcat l2, some (.int x), l4, l5] st h := xo_istore (k := 3) (by decide +kernel) (Nat.le_of_ble_eq_true rfl) rfl
set_option maxRecDepth 20000 in
theorem u_X4_tally_58 (l0 l1 l2 l4 l5 : Option Value) (x : Int32) (st : List Value) (h : xH) : xf 30 58 [l0, l1, l2, some (.int x), l4, l5] st h = xf 30 59 [l0, l1, l2, some (.int x), l4, l5] (.int x :: st) h := xo_iload (k := 3) (by decide +kernel) rfl
set_option maxRecDepth 20000 in
theorem u_X4_tally_59 (L : xL) (st : List Value) (h : xH) : xf 30 59 L st h = xf 30 60 L (.int 1 :: st) h := xo_iconst (k := 1) (by decide +kernel) (by decide)
set_option maxRecDepth 20000 in
theorem u_X4_tally_60 (L : xL) (a b : Int32) (st : List Value) (h : xH) : xf 30 60 L (.int b :: .int a :: st) h = xf 30 61 L (.int (a + b) :: st) h := xo_iadd (by decide +kernel)
set_option maxRecDepth 20000 in
theorem u_X4_tally_61 (l0 l2 l3 l4 l5 : Option Value) (x : Nat) (st : List Value) (h : xH) : xf 30 61 [l0, some (.ref x), l2, l3, l4, l5] st h = xf 30 62 [l0, some (.ref x), l2, l3, l4, l5] (.ref x :: st) h := xo_aload (k := 1) (by decide +kernel) rfl
set_option maxRecDepth 20000 in
theorem u_X4_tally_62 (L : xL) (a : Nat) (st : List Value) (h : xH) (hc : (xob h a).1 = 5) : xf 30 62 L (.ref a :: st) h = xf 30 65 L ((xob h a).2.getD 1 .null :: st) h := xo_getf (r := 321) (by decide +kernel) (by decide) hc
set_option maxRecDepth 20000 in
theorem u_X4_tally_65 (L : xL) (a b : Int32) (st : List Value) (h : xH) : xf 30 65 L (.int b :: .int a :: st) h = if a < b then xf 30 68 L st h else xf 30 149 L st h := xo_icmp_ge (t := 149) (by decide +kernel) rfl
set_option maxRecDepth 20000 in
theorem u_X4_tally_68 (l0 l2 l3 l4 l5 : Option Value) (x : Nat) (st : List Value) (h : xH) : xf 30 68 [l0, some (.ref x), l2, l3, l4, l5] st h = xf 30 69 [l0, some (.ref x), l2, l3, l4, l5] (.ref x :: st) h := xo_aload (k := 1) (by decide +kernel) rfl
set_option maxRecDepth 20000 in
theorem u_X4_tally_69 (l0 l1 l2 l4 l5 : Option Value) (x : Int32) (st : List Value) (h : xH) : xf 30 69 [l0, l1, l2, some (.int x), l4, l5] st h = xf 30 70 [l0, l1, l2, some (.int x), l4, l5] (.int x :: st) h := xo_iload (k := 3) (by decide +kernel) rfl
set_option maxRecDepth 20000 in
theorem u_X4_tally_70 (L : xL) (v0 : Int32) (b : Nat) (st : List Value) (h : xH) (hb : (xob h b).1 = 5) (hl : st.length ≤ 4) : xf 30 70 L (.int v0 :: .ref b :: st) h = xgo 30 70 73 L st (xev 36 [.ref b, .int v0] h) := xo_callV (as := [.int v0]) (by decide +kernel) rfl ⟨(by decide +kernel : xna 36 = 1), Nat.le_of_ble_eq_true rfl, rfl, by decide⟩ hb hl
set_option maxRecDepth 20000 in
theorem u_X4_tally_73 (l0 l2 l3 l4 l5 : Option Value) (x : Nat) (st : List Value) (h : xH) : xf 30 73 [l0, some (.ref x), l2, l3, l4, l5] st h = xf 30 74 [l0, some (.ref x), l2, l3, l4, l5] (.ref x :: st) h := xo_aload (k := 1) (by decide +kernel) rfl
set_option maxRecDepth 20000 in
theorem u_X4_tally_74 (l0 l1 l2 l4 l5 : Option Value) (x : Int32) (st : List Value) (h : xH) : xf 30 74 [l0, l1, l2, some (.int x), l4, l5] st h = xf 30 75 [l0, l1, l2, some (.int x), l4, l5] (.int x :: st) h := xo_iload (k := 3) (by decide +kernel) rfl
set_option maxRecDepth 20000 in
theorem u_X4_tally_75 (L : xL) (st : List Value) (h : xH) : xf 30 75 L st h = xf 30 76 L (.int 1 :: st) h := xo_iconst (k := 1) (by decide +kernel) (by decide)
set_option maxRecDepth 20000 in
theorem u_X4_tally_76 (L : xL) (a b : Int32) (st : List Value) (h : xH) : xf 30 76 L (.int b :: .int a :: st) h = xf 30 77 L (.int (a + b) :: st) h := xo_iadd (by decide +kernel)
set_option maxRecDepth 20000 in
theorem u_X4_tally_77 (L : xL) (v0 : Int32) (b : Nat) (st : List Value) (h : xH) (hb : (xob h b).1 = 5) (hl : st.length ≤ 4) : xf 30 77 L (.int v0 :: .ref b :: st) h = xgo 30 77 80 L st (xev 36 [.ref b, .int v0] h) := xo_callV (as := [.int v0]) (by decide +kernel) rfl ⟨(by decide +kernel : xna 36 = 1), Nat.le_of_ble_eq_true rfl, rfl, by decide⟩ hb hl
set_option maxRecDepth 20000 in
theorem u_X4_tally_80 (L : xL) (a b : Int32) (st : List Value) (h : xH) : xf 30 80 L (.int b :: .int a :: st) h = if a = b then xf 30 83 L st h else xf 30 87 L st h := xo_icmp_ne (t := 87) (by decide +kernel) rfl
set_option maxRecDepth 20000 in
theorem u_X4_tally_83 (L : xL) (st : List Value) (h : xH) : xf 30 83 L st h = xf 30 84 L (.int 1 :: st) h := xo_iconst (k := 1) (by decide +kernel) (by decide)
set_option maxRecDepth 20000 in
theorem u_X4_tally_84 (L : xL) (st : List Value) (h : xH) : xf 30 84 L st h = xf 30 88 L st h := xo_goto (n := 87) (t := 88) (by decide +kernel) rfl
set_option maxRecDepth 20000 in
theorem u_X4_tally_87 (L : xL) (st : List Value) (h : xH) : xf 30 87 L st h = xf 30 88 L (.int 0 :: st) h := xo_iconst (k := 0) (by decide +kernel) (by decide)
set_option maxRecDepth 20000 in
theorem u_X4_tally_88 (l0 l1 l2 l3 l4 l5 : Option Value) (x : Int32) (st : List Value) (h : xH) : xf 30 88 [l0, l1, l2, l3, l4, l5] (.int x :: st) h = xf 30 90 [l0, l1, l2, xcat l3, some (.int x), l5] st h := xo_istore (k := 4) (by decide +kernel) (Nat.le_of_ble_eq_true rfl) rfl
set_option maxRecDepth 20000 in
theorem u_X4_tally_90 (l0 l1 l2 l3 l5 : Option Value) (x : Int32) (st : List Value) (h : xH) : xf 30 90 [l0, l1, l2, l3, some (.int x), l5] st h = xf 30 92 [l0, l1, l2, l3, some (.int x), l5] (.int x :: st) h := xo_iload (k := 4) (by decide +kernel) rfl
set_option maxRecDepth 20000 in
theorem u_X4_tally_92 (L : xL) (a : Int32) (st : List Value) (h : xH) : xf 30 92 L (.int a :: st) h = if a = 0 then xf 30 102 L st h else xf 30 95 L st h := xo_if_eq (t := 102) (by decide +kernel) rfl
set_option maxRecDepth 20000 in
theorem u_X4_tally_95 (l0 l1 l3 l4 l5 : Option Value) (x : Int32) (st : List Value) (h : xH) : xf 30 95 [l0, l1, some (.int x), l3, l4, l5] st h = xf 30 96 [l0, l1, some (.int x), l3, l4, l5] (.int x :: st) h := xo_iload (k := 2) (by decide +kernel) rfl
set_option maxRecDepth 20000 in
theorem u_X4_tally_96 (l0 l1 l2 l4 l5 : Option Value) (x : Int32) (st : List Value) (h : xH) : xf 30 96 [l0, l1, l2, some (.int x), l4, l5] st h = xf 30 97 [l0, l1, l2, some (.int x), l4, l5] (.int x :: st) h := xo_iload (k := 3) (by decide +kernel) rfl
set_option maxRecDepth 20000 in
theorem u_X4_tally_97 (L : xL) (st : List Value) (h : xH) : xf 30 97 L st h = xf 30 98 L (.int 1 :: st) h := xo_iconst (k := 1) (by decide +kernel) (by decide)
set_option maxRecDepth 20000 in
theorem u_X4_tally_98 (L : xL) (a b : Int32) (st : List Value) (h : xH) : xf 30 98 L (.int b :: .int a :: st) h = xf 30 99 L (.int (a - b) :: st) h := xo_isub (by decide +kernel)
set_option maxRecDepth 20000 in
theorem u_X4_tally_99 (L : xL) (a b : Int32) (st : List Value) (h : xH) : xf 30 99 L (.int b :: .int a :: st) h = if a = b then xf 30 143 L st h else xf 30 102 L st h := xo_icmp_eq (t := 143) (by decide +kernel) rfl
set_option maxRecDepth 20000 in
theorem u_X4_tally_102 (l1 l2 l3 l4 l5 : Option Value) (x : Nat) (st : List Value) (h : xH) : xf 30 102 [some (.ref x), l1, l2, l3, l4, l5] st h = xf 30 103 [some (.ref x), l1, l2, l3, l4, l5] (.ref x :: st) h := xo_aload (k := 0) (by decide +kernel) rfl
set_option maxRecDepth 20000 in
theorem u_X4_tally_103 (L : xL) (a : Nat) (st : List Value) (h : xH) (hc : (xob h a).1 = 4) : xf 30 103 L (.ref a :: st) h = xf 30 106 L ((xob h a).2.getD 1 .null :: st) h := xo_getf (r := 257) (by decide +kernel) (by decide) hc
set_option maxRecDepth 20000 in
theorem u_X4_tally_106 (l0 l1 l2 l4 l5 : Option Value) (x : Int32) (st : List Value) (h : xH) : xf 30 106 [l0, l1, l2, some (.int x), l4, l5] st h = xf 30 107 [l0, l1, l2, some (.int x), l4, l5] (.int x :: st) h := xo_iload (k := 3) (by decide +kernel) rfl
set_option maxRecDepth 20000 in
theorem u_X4_tally_107 (L : xL) (v0 : Int32) (b : Nat) (st : List Value) (h : xH) (hb : (xob h b).1 = 1) (hl : st.length ≤ 4) : xf 30 107 L (.int v0 :: .ref b :: st) h = xgo 30 107 110 L st (xev 12 [.ref b, .int v0] h) := xo_callV (as := [.int v0]) (by decide +kernel) rfl ⟨(by decide +kernel : xna 12 = 1), Nat.le_of_ble_eq_true rfl, rfl, by decide⟩ hb hl
set_option maxRecDepth 20000 in
theorem u_X4_tally_110 (l0 l1 l2 l3 l4 l5 : Option Value) (x : Int32) (st : List Value) (h : xH) : xf 30 110 [l0, l1, l2, l3, l4, l5] (.int x :: st) h = xf 30 112 [l0, l1, l2, l3, xcat l4, some (.int x)] st h := xo_istore (k := 5) (by decide +kernel) (Nat.le_of_ble_eq_true rfl) rfl
set_option maxRecDepth 20000 in
theorem u_X4_tally_112 (l1 l2 l3 l4 l5 : Option Value) (x : Nat) (st : List Value) (h : xH) : xf 30 112 [some (.ref x), l1, l2, l3, l4, l5] st h = xf 30 113 [some (.ref x), l1, l2, l3, l4, l5] (.ref x :: st) h := xo_aload (k := 0) (by decide +kernel) rfl
set_option maxRecDepth 20000 in
theorem u_X4_tally_113 (L : xL) (a : Nat) (st : List Value) (h : xH) (hc : (xob h a).1 = 4) : xf 30 113 L (.ref a :: st) h = xf 30 116 L ((xob h a).2.getD 0 .null :: st) h := xo_getf (r := 256) (by decide +kernel) (by decide) hc
set_option maxRecDepth 20000 in
theorem u_X4_tally_116 (l0 l1 l2 l3 l4 : Option Value) (x : Int32) (st : List Value) (h : xH) : xf 30 116 [l0, l1, l2, l3, l4, some (.int x)] st h = xf 30 118 [l0, l1, l2, l3, l4, some (.int x)] (.int x :: st) h := xo_iload (k := 5) (by decide +kernel) rfl
set_option maxRecDepth 20000 in
theorem u_X4_tally_118 (l1 l2 l3 l4 l5 : Option Value) (x : Nat) (st : List Value) (h : xH) : xf 30 118 [some (.ref x), l1, l2, l3, l4, l5] st h = xf 30 119 [some (.ref x), l1, l2, l3, l4, l5] (.ref x :: st) h := xo_aload (k := 0) (by decide +kernel) rfl
set_option maxRecDepth 20000 in
theorem u_X4_tally_119 (L : xL) (a : Nat) (st : List Value) (h : xH) (hc : (xob h a).1 = 4) : xf 30 119 L (.ref a :: st) h = xf 30 122 L ((xob h a).2.getD 0 .null :: st) h := xo_getf (r := 256) (by decide +kernel) (by decide) hc
set_option maxRecDepth 20000 in
theorem u_X4_tally_122 (l0 l1 l2 l3 l4 : Option Value) (x : Int32) (st : List Value) (h : xH) : xf 30 122 [l0, l1, l2, l3, l4, some (.int x)] st h = xf 30 124 [l0, l1, l2, l3, l4, some (.int x)] (.int x :: st) h := xo_iload (k := 5) (by decide +kernel) rfl
set_option maxRecDepth 20000 in
theorem u_X4_tally_124 (L : xL) (v0 : Int32) (b : Nat) (st : List Value) (h : xH) (hb : (xob h b).1 = 1) (hl : st.length ≤ 4) : xf 30 124 L (.int v0 :: .ref b :: st) h = xgo 30 124 127 L st (xev 12 [.ref b, .int v0] h) := xo_callV (as := [.int v0]) (by decide +kernel) rfl ⟨(by decide +kernel : xna 12 = 1), Nat.le_of_ble_eq_true rfl, rfl, by decide⟩ hb hl
set_option maxRecDepth 20000 in
theorem u_X4_tally_127 (L : xL) (st : List Value) (h : xH) : xf 30 127 L st h = xf 30 128 L (.int 1 :: st) h := xo_iconst (k := 1) (by decide +kernel) (by decide)
set_option maxRecDepth 20000 in
theorem u_X4_tally_128 (L : xL) (a b : Int32) (st : List Value) (h : xH) : xf 30 128 L (.int b :: .int a :: st) h = xf 30 129 L (.int (a + b) :: st) h := xo_iadd (by decide +kernel)
set_option maxRecDepth 20000 in
theorem u_X4_tally_129 (L : xL) (v0 : Int32) (v1 : Int32) (b : Nat) (st : List Value) (h : xH) (hb : (xob h b).1 = 1) (hl : st.length ≤ 4) : xf 30 129 L (.int v1 :: .int v0 :: .ref b :: st) h = xgo 30 129 132 L st (xev 13 [.ref b, .int v0, .int v1] h) := xo_callV (as := [.int v0, .int v1]) (by decide +kernel) rfl ⟨(by decide +kernel : xna 13 = 2), Nat.le_of_ble_eq_true rfl, rfl, by decide⟩ hb hl
set_option maxRecDepth 20000 in
theorem u_X4_tally_132 (l0 l1 l2 l3 l5 : Option Value) (x : Int32) (st : List Value) (h : xH) : xf 30 132 [l0, l1, l2, l3, some (.int x), l5] st h = xf 30 134 [l0, l1, l2, l3, some (.int x), l5] (.int x :: st) h := xo_iload (k := 4) (by decide +kernel) rfl
set_option maxRecDepth 20000 in
theorem u_X4_tally_134 (L : xL) (a : Int32) (st : List Value) (h : xH) : xf 30 134 L (.int a :: st) h = if a = 0 then xf 30 141 L st h else xf 30 137 L st h := xo_if_eq (t := 141) (by decide +kernel) rfl
set_option maxRecDepth 20000 in
theorem u_X4_tally_137 (l0 l1 l2 l4 l5 : Option Value) (x : Int32) (st : List Value) (h : xH) : xf 30 137 [l0, l1, l2, some (.int x), l4, l5] st h = xf 30 138 [l0, l1, l2, some (.int x), l4, l5] (.int x :: st) h := xo_iload (k := 3) (by decide +kernel) rfl
set_option maxRecDepth 20000 in
theorem u_X4_tally_138 (L : xL) (st : List Value) (h : xH) : xf 30 138 L st h = xf 30 142 L st h := xo_goto (n := 141) (t := 142) (by decide +kernel) rfl
set_option maxRecDepth 20000 in
theorem u_X4_tally_141 (l0 l1 l3 l4 l5 : Option Value) (x : Int32) (st : List Value) (h : xH) : xf 30 141 [l0, l1, some (.int x), l3, l4, l5] st h = xf 30 142 [l0, l1, some (.int x), l3, l4, l5] (.int x :: st) h := xo_iload (k := 2) (by decide +kernel) rfl
set_option maxRecDepth 20000 in
theorem u_X4_tally_142 (l0 l1 l2 l3 l4 l5 : Option Value) (x : Int32) (st : List Value) (h : xH) : xf 30 142 [l0, l1, l2, l3, l4, l5] (.int x :: st) h = xf 30 143 [l0, xcat l1, some (.int x), l3, l4, l5] st h := xo_istore (k := 2) (by decide +kernel) (Nat.le_of_ble_eq_true rfl) rfl
set_option maxRecDepth 20000 in
theorem u_X4_tally_143 (l0 l1 l2 l4 l5 : Option Value) (x : Int32) (st : List Value) (h : xH) : xf 30 143 [l0, l1, l2, some (.int x), l4, l5] st h = xf 30 146 [l0, l1, xcat l2, some (.int (x + 1)), l4, l5] st h := xo_iinc (k := 3) (c := 1) (by decide +kernel) rfl (by decide) rfl
set_option maxRecDepth 20000 in
theorem u_X4_tally_146 (L : xL) (st : List Value) (h : xH) : xf 30 146 L st h = xf 30 58 L st h := xo_goto (n := 149) (t := 58) (by decide +kernel) rfl
set_option maxRecDepth 20000 in
theorem u_X4_tally_149 (L : xL) (h : xH) : xf 30 149 L [] h = some (.inl none, h) := xo_return (n := 150) (by decide +kernel) rfl
set_option maxRecDepth 20000 in
theorem e_X4_tally (v0 : Nat) (v1 : Nat) (h : xH) : xev 30 [.ref v0, .ref v1] h = xf 30 0 [some (.ref v0), some (.ref v1), none, none, none, none] [] h := rfl
set_option maxRecDepth 20000 in
theorem u_X4_choose_0 (l1 l2 l3 l4 l5 : Option Value) (x : Nat) (st : List Value) (h : xH) : xf 31 0 [some (.ref x), l1, l2, l3, l4, l5] st h = xf 31 1 [some (.ref x), l1, l2, l3, l4, l5] (.ref x :: st) h := xo_aload (k := 0) (by decide +kernel) rfl
set_option maxRecDepth 20000 in
theorem u_X4_choose_1 (L : xL) (st : List Value) (h : xH) : xf 31 1 L st h = xf 31 2 L (.int 0 :: st) h := xo_iconst (k := 0) (by decide +kernel) (by decide)
set_option maxRecDepth 20000 in
theorem u_X4_choose_2 (L : xL) (v : Int32) (a : Nat) (st : List Value) (h : xH) (hc : (xob h a).1 = 4) : xf 31 2 L (.int v :: .ref a :: st) h = xf 31 5 L st (xso h a 4 (.int v)) := xo_putf (r := 260) (by decide +kernel) (by decide) rfl hc
set_option maxRecDepth 20000 in
theorem u_X4_choose_5 (L : xL) (st : List Value) (h : xH) : xf 31 5 L st h = xf 31 6 L (.int 0 :: st) h := xo_iconst (k := 0) (by decide +kernel) (by decide)
set_option maxRecDepth 20000 in
theorem u_X4_choose_6 (l0 l1 l2 l3 l4 l5 : Option Value) (x : Int32) (st : List Value) (h : xH) : xf 31 6 [l0, l1, l2, l3, l4, l5] (.int x :: st) h = xf 31 7 [l0, xcat l1, some (.int x), l3, l4, l5] st h := xo_istore (k := 2) (by decide +kernel) (Nat.le_of_ble_eq_true rfl) rfl
set_option maxRecDepth 20000 in
theorem u_X4_choose_7 (L : xL) (st : List Value) (h : xH) : xf 31 7 L st h = xf 31 8 L (.int 0 :: st) h := xo_iconst (k := 0) (by decide +kernel) (by decide)
set_option maxRecDepth 20000 in
theorem u_X4_choose_8 (l0 l1 l2 l3 l4 l5 : Option Value) (x : Int32) (st : List Value) (h : xH) : xf 31 8 [l0, l1, l2, l3, l4, l5] (.int x :: st) h = xf 31 9 [l0, l1, xcat l2, some (.int x), l4, l5] st h := xo_istore (k := 3) (by decide +kernel) (Nat.le_of_ble_eq_true rfl) rfl
set_option maxRecDepth 20000 in
theorem u_X4_choose_9 (l0 l1 l2 l4 l5 : Option Value) (x : Int32) (st : List Value) (h : xH) : xf 31 9 [l0, l1, l2, some (.int x), l4, l5] st h = xf 31 10 [l0, l1, l2, some (.int x), l4, l5] (.int x :: st) h := xo_iload (k := 3) (by decide +kernel) rfl
set_option maxRecDepth 20000 in
theorem u_X4_choose_10 (L : xL) (st : List Value) (h : xH) : xf 31 10 L st h = xf 31 11 L (.int 1 :: st) h := xo_iconst (k := 1) (by decide +kernel) (by decide)
set_option maxRecDepth 20000 in
theorem u_X4_choose_11 (L : xL) (a b : Int32) (st : List Value) (h : xH) : xf 31 11 L (.int b :: .int a :: st) h = xf 31 12 L (.int (a + b) :: st) h := xo_iadd (by decide +kernel)
set_option maxRecDepth 20000 in
theorem u_X4_choose_12 (l0 l2 l3 l4 l5 : Option Value) (x : Nat) (st : List Value) (h : xH) : xf 31 12 [l0, some (.ref x), l2, l3, l4, l5] st h = xf 31 13 [l0, some (.ref x), l2, l3, l4, l5] (.ref x :: st) h := xo_aload (k := 1) (by decide +kernel) rfl
set_option maxRecDepth 20000 in
theorem u_X4_choose_13 (L : xL) (a : Nat) (st : List Value) (h : xH) (hc : (xob h a).1 = 5) : xf 31 13 L (.ref a :: st) h = xf 31 16 L ((xob h a).2.getD 1 .null :: st) h := xo_getf (r := 321) (by decide +kernel) (by decide) hc
set_option maxRecDepth 20000 in
theorem u_X4_choose_16 (L : xL) (a b : Int32) (st : List Value) (h : xH) : xf 31 16 L (.int b :: .int a :: st) h = if a < b then xf 31 19 L st h else xf 31 99 L st h := xo_icmp_ge (t := 99) (by decide +kernel) rfl
set_option maxRecDepth 20000 in
theorem u_X4_choose_19 (l1 l2 l3 l4 l5 : Option Value) (x : Nat) (st : List Value) (h : xH) : xf 31 19 [some (.ref x), l1, l2, l3, l4, l5] st h = xf 31 20 [some (.ref x), l1, l2, l3, l4, l5] (.ref x :: st) h := xo_aload (k := 0) (by decide +kernel) rfl
set_option maxRecDepth 20000 in
theorem u_X4_choose_20 (L : xL) (a : Nat) (st : List Value) (h : xH) (hc : (xob h a).1 = 4) : xf 31 20 L (.ref a :: st) h = xf 31 23 L ((xob h a).2.getD 1 .null :: st) h := xo_getf (r := 257) (by decide +kernel) (by decide) hc
set_option maxRecDepth 20000 in
theorem u_X4_choose_23 (l0 l1 l2 l4 l5 : Option Value) (x : Int32) (st : List Value) (h : xH) : xf 31 23 [l0, l1, l2, some (.int x), l4, l5] st h = xf 31 24 [l0, l1, l2, some (.int x), l4, l5] (.int x :: st) h := xo_iload (k := 3) (by decide +kernel) rfl
set_option maxRecDepth 20000 in
theorem u_X4_choose_24 (L : xL) (v0 : Int32) (b : Nat) (st : List Value) (h : xH) (hb : (xob h b).1 = 1) (hl : st.length ≤ 4) : xf 31 24 L (.int v0 :: .ref b :: st) h = xgo 31 24 27 L st (xev 12 [.ref b, .int v0] h) := xo_callV (as := [.int v0]) (by decide +kernel) rfl ⟨(by decide +kernel : xna 12 = 1), Nat.le_of_ble_eq_true rfl, rfl, by decide⟩ hb hl
set_option maxRecDepth 20000 in
theorem u_X4_choose_27 (l0 l1 l2 l3 l4 l5 : Option Value) (x : Int32) (st : List Value) (h : xH) : xf 31 27 [l0, l1, l2, l3, l4, l5] (.int x :: st) h = xf 31 29 [l0, l1, l2, xcat l3, some (.int x), l5] st h := xo_istore (k := 4) (by decide +kernel) (Nat.le_of_ble_eq_true rfl) rfl
set_option maxRecDepth 20000 in
theorem u_X4_choose_29 (l1 l2 l3 l4 l5 : Option Value) (x : Nat) (st : List Value) (h : xH) : xf 31 29 [some (.ref x), l1, l2, l3, l4, l5] st h = xf 31 30 [some (.ref x), l1, l2, l3, l4, l5] (.ref x :: st) h := xo_aload (k := 0) (by decide +kernel) rfl
set_option maxRecDepth 20000 in
theorem u_X4_choose_30 (L : xL) (a : Nat) (st : List Value) (h : xH) (hc : (xob h a).1 = 4) : xf 31 30 L (.ref a :: st) h = xf 31 33 L ((xob h a).2.getD 0 .null :: st) h := xo_getf (r := 256) (by decide +kernel) (by decide) hc
set_option maxRecDepth 20000 in
theorem u_X4_choose_33 (l0 l1 l2 l3 l5 : Option Value) (x : Int32) (st : List Value) (h : xH) : xf 31 33 [l0, l1, l2, l3, some (.int x), l5] st h = xf 31 35 [l0, l1, l2, l3, some (.int x), l5] (.int x :: st) h := xo_iload (k := 4) (by decide +kernel) rfl
set_option maxRecDepth 20000 in
theorem u_X4_choose_35 (L : xL) (v0 : Int32) (b : Nat) (st : List Value) (h : xH) (hb : (xob h b).1 = 1) (hl : st.length ≤ 4) : xf 31 35 L (.int v0 :: .ref b :: st) h = xgo 31 35 38 L st (xev 12 [.ref b, .int v0] h) := xo_callV (as := [.int v0]) (by decide +kernel) rfl ⟨(by decide +kernel : xna 12 = 1), Nat.le_of_ble_eq_true rfl, rfl, by decide⟩ hb hl
set_option maxRecDepth 20000 in
theorem u_X4_choose_38 (l0 l1 l2 l3 l4 l5 : Option Value) (x : Int32) (st : List Value) (h : xH) : xf 31 38 [l0, l1, l2, l3, l4, l5] (.int x :: st) h = xf 31 40 [l0, l1, l2, l3, xcat l4, some (.int x)] st h := xo_istore (k := 5) (by decide +kernel) (Nat.le_of_ble_eq_true rfl) rfl
set_option maxRecDepth 20000 in
theorem u_X4_choose_40 (l0 l1 l2 l3 l4 : Option Value) (x : Int32) (st : List Value) (h : xH) : xf 31 40 [l0, l1, l2, l3, l4, some (.int x)] st h = xf 31 42 [l0, l1, l2, l3, l4, some (.int x)] (.int x :: st) h := xo_iload (k := 5) (by decide +kernel) rfl
set_option maxRecDepth 20000 in
theorem u_X4_choose_42 (l1 l2 l3 l4 l5 : Option Value) (x : Nat) (st : List Value) (h : xH) : xf 31 42 [some (.ref x), l1, l2, l3, l4, l5] st h = xf 31 43 [some (.ref x), l1, l2, l3, l4, l5] (.ref x :: st) h := xo_aload (k := 0) (by decide +kernel) rfl
set_option maxRecDepth 20000 in
theorem u_X4_choose_43 (L : xL) (a : Nat) (st : List Value) (h : xH) (hc : (xob h a).1 = 4) : xf 31 43 L (.ref a :: st) h = xf 31 46 L ((xob h a).2.getD 4 .null :: st) h := xo_getf (r := 260) (by decide +kernel) (by decide) hc
set_option maxRecDepth 20000 in
theorem u_X4_choose_46 (L : xL) (a b : Int32) (st : List Value) (h : xH) : xf 31 46 L (.int b :: .int a :: st) h = if b < a then xf 31 64 L st h else xf 31 49 L st h := xo_icmp_gt (t := 64) (by decide +kernel) rfl
set_option maxRecDepth 20000 in
theorem u_X4_choose_49 (l0 l1 l2 l3 l4 : Option Value) (x : Int32) (st : List Value) (h : xH) : xf 31 49 [l0, l1, l2, l3, l4, some (.int x)] st h = xf 31 51 [l0, l1, l2, l3, l4, some (.int x)] (.int x :: st) h := xo_iload (k := 5) (by decide +kernel) rfl
set_option maxRecDepth 20000 in
theorem u_X4_choose_51 (l1 l2 l3 l4 l5 : Option Value) (x : Nat) (st : List Value) (h : xH) : xf 31 51 [some (.ref x), l1, l2, l3, l4, l5] st h = xf 31 52 [some (.ref x), l1, l2, l3, l4, l5] (.ref x :: st) h := xo_aload (k := 0) (by decide +kernel) rfl
set_option maxRecDepth 20000 in
theorem u_X4_choose_52 (L : xL) (a : Nat) (st : List Value) (h : xH) (hc : (xob h a).1 = 4) : xf 31 52 L (.ref a :: st) h = xf 31 55 L ((xob h a).2.getD 4 .null :: st) h := xo_getf (r := 260) (by decide +kernel) (by decide) hc
set_option maxRecDepth 20000 in
theorem u_X4_choose_55 (L : xL) (a b : Int32) (st : List Value) (h : xH) : xf 31 55 L (.int b :: .int a :: st) h = if a = b then xf 31 58 L st h else xf 31 93 L st h := xo_icmp_ne (t := 93) (by decide +kernel) rfl
set_option maxRecDepth 20000 in
theorem u_X4_choose_58 (l0 l1 l2 l3 l5 : Option Value) (x : Int32) (st : List Value) (h : xH) : xf 31 58 [l0, l1, l2, l3, some (.int x), l5] st h = xf 31 60 [l0, l1, l2, l3, some (.int x), l5] (.int x :: st) h := xo_iload (k := 4) (by decide +kernel) rfl
set_option maxRecDepth 20000 in
theorem u_X4_choose_60 (l0 l1 l3 l4 l5 : Option Value) (x : Int32) (st : List Value) (h : xH) : xf 31 60 [l0, l1, some (.int x), l3, l4, l5] st h = xf 31 61 [l0, l1, some (.int x), l3, l4, l5] (.int x :: st) h := xo_iload (k := 2) (by decide +kernel) rfl
set_option maxRecDepth 20000 in
theorem u_X4_choose_61 (L : xL) (a b : Int32) (st : List Value) (h : xH) : xf 31 61 L (.int b :: .int a :: st) h = if a < b then xf 31 64 L st h else xf 31 93 L st h := xo_icmp_ge (t := 93) (by decide +kernel) rfl
set_option maxRecDepth 20000 in
theorem u_X4_choose_64 (l1 l2 l3 l4 l5 : Option Value) (x : Nat) (st : List Value) (h : xH) : xf 31 64 [some (.ref x), l1, l2, l3, l4, l5] st h = xf 31 65 [some (.ref x), l1, l2, l3, l4, l5] (.ref x :: st) h := xo_aload (k := 0) (by decide +kernel) rfl
set_option maxRecDepth 20000 in
theorem u_X4_choose_65 (l0 l1 l2 l3 l4 : Option Value) (x : Int32) (st : List Value) (h : xH) : xf 31 65 [l0, l1, l2, l3, l4, some (.int x)] st h = xf 31 67 [l0, l1, l2, l3, l4, some (.int x)] (.int x :: st) h := xo_iload (k := 5) (by decide +kernel) rfl
set_option maxRecDepth 20000 in
theorem u_X4_choose_67 (L : xL) (v : Int32) (a : Nat) (st : List Value) (h : xH) (hc : (xob h a).1 = 4) : xf 31 67 L (.int v :: .ref a :: st) h = xf 31 70 L st (xso h a 4 (.int v)) := xo_putf (r := 260) (by decide +kernel) (by decide) rfl hc
set_option maxRecDepth 20000 in
theorem u_X4_choose_70 (l0 l1 l2 l3 l5 : Option Value) (x : Int32) (st : List Value) (h : xH) : xf 31 70 [l0, l1, l2, l3, some (.int x), l5] st h = xf 31 72 [l0, l1, l2, l3, some (.int x), l5] (.int x :: st) h := xo_iload (k := 4) (by decide +kernel) rfl
set_option maxRecDepth 20000 in
theorem u_X4_choose_72 (l0 l1 l2 l3 l4 l5 : Option Value) (x : Int32) (st : List Value) (h : xH) : xf 31 72 [l0, l1, l2, l3, l4, l5] (.int x :: st) h = xf 31 73 [l0, xcat l1, some (.int x), l3, l4, l5] st h := xo_istore (k := 2) (by decide +kernel) (Nat.le_of_ble_eq_true rfl) rfl
set_option maxRecDepth 20000 in
theorem u_X4_choose_73 (l1 l2 l3 l4 l5 : Option Value) (x : Nat) (st : List Value) (h : xH) : xf 31 73 [some (.ref x), l1, l2, l3, l4, l5] st h = xf 31 74 [some (.ref x), l1, l2, l3, l4, l5] (.ref x :: st) h := xo_aload (k := 0) (by decide +kernel) rfl
set_option maxRecDepth 20000 in
theorem u_X4_choose_74 (l0 l2 l3 l4 l5 : Option Value) (x : Nat) (st : List Value) (h : xH) : xf 31 74 [l0, some (.ref x), l2, l3, l4, l5] st h = xf 31 75 [l0, some (.ref x), l2, l3, l4, l5] (.ref x :: st) h := xo_aload (k := 1) (by decide +kernel) rfl
set_option maxRecDepth 20000 in
theorem u_X4_choose_75 (l0 l1 l2 l4 l5 : Option Value) (x : Int32) (st : List Value) (h : xH) : xf 31 75 [l0, l1, l2, some (.int x), l4, l5] st h = xf 31 76 [l0, l1, l2, some (.int x), l4, l5] (.int x :: st) h := xo_iload (k := 3) (by decide +kernel) rfl
set_option maxRecDepth 20000 in
theorem u_X4_choose_76 (L : xL) (v0 : Int32) (b : Nat) (st : List Value) (h : xH) (hb : (xob h b).1 = 5) (hl : st.length ≤ 4) : xf 31 76 L (.int v0 :: .ref b :: st) h = xgo 31 76 79 L st (xev 36 [.ref b, .int v0] h) := xo_callV (as := [.int v0]) (by decide +kernel) rfl ⟨(by decide +kernel : xna 36 = 1), Nat.le_of_ble_eq_true rfl, rfl, by decide⟩ hb hl
set_option maxRecDepth 20000 in
theorem u_X4_choose_79 (L : xL) (v : Int32) (a : Nat) (st : List Value) (h : xH) (hc : (xob h a).1 = 4) : xf 31 79 L (.int v :: .ref a :: st) h = xf 31 82 L st (xso h a 2 (.int v)) := xo_putf (r := 258) (by decide +kernel) (by decide) rfl hc
set_option maxRecDepth 20000 in
theorem u_X4_choose_82 (l1 l2 l3 l4 l5 : Option Value) (x : Nat) (st : List Value) (h : xH) : xf 31 82 [some (.ref x), l1, l2, l3, l4, l5] st h = xf 31 83 [some (.ref x), l1, l2, l3, l4, l5] (.ref x :: st) h := xo_aload (k := 0) (by decide +kernel) rfl
set_option maxRecDepth 20000 in
theorem u_X4_choose_83 (l0 l2 l3 l4 l5 : Option Value) (x : Nat) (st : List Value) (h : xH) : xf 31 83 [l0, some (.ref x), l2, l3, l4, l5] st h = xf 31 84 [l0, some (.ref x), l2, l3, l4, l5] (.ref x :: st) h := xo_aload (k := 1) (by decide +kernel) rfl
set_option maxRecDepth 20000 in
theorem u_X4_choose_84 (l0 l1 l2 l4 l5 : Option Value) (x : Int32) (st : List Value) (h : xH) : xf 31 84 [l0, l1, l2, some (.int x), l4, l5] st h = xf 31 85 [l0, l1, l2, some (.int x), l4, l5] (.int x :: st) h := xo_iload (k := 3) (by decide +kernel) rfl
set_option maxRecDepth 20000 in
theorem u_X4_choose_85 (L : xL) (st : List Value) (h : xH) : xf 31 85 L st h = xf 31 86 L (.int 1 :: st) h := xo_iconst (k := 1) (by decide +kernel) (by decide)
set_option maxRecDepth 20000 in
theorem u_X4_choose_86 (L : xL) (a b : Int32) (st : List Value) (h : xH) : xf 31 86 L (.int b :: .int a :: st) h = xf 31 87 L (.int (a + b) :: st) h := xo_iadd (by decide +kernel)
set_option maxRecDepth 20000 in
theorem u_X4_choose_87 (L : xL) (v0 : Int32) (b : Nat) (st : List Value) (h : xH) (hb : (xob h b).1 = 5) (hl : st.length ≤ 4) : xf 31 87 L (.int v0 :: .ref b :: st) h = xgo 31 87 90 L st (xev 36 [.ref b, .int v0] h) := xo_callV (as := [.int v0]) (by decide +kernel) rfl ⟨(by decide +kernel : xna 36 = 1), Nat.le_of_ble_eq_true rfl, rfl, by decide⟩ hb hl
set_option maxRecDepth 20000 in
theorem u_X4_choose_90 (L : xL) (v : Int32) (a : Nat) (st : List Value) (h : xH) (hc : (xob h a).1 = 4) : xf 31 90 L (.int v :: .ref a :: st) h = xf 31 93 L st (xso h a 3 (.int v)) := xo_putf (r := 259) (by decide +kernel) (by decide) rfl hc
set_option maxRecDepth 20000 in
theorem u_X4_choose_93 (l0 l1 l2 l4 l5 : Option Value) (x : Int32) (st : List Value) (h : xH) : xf 31 93 [l0, l1, l2, some (.int x), l4, l5] st h = xf 31 96 [l0, l1, xcat l2, some (.int (x + 1)), l4, l5] st h := xo_iinc (k := 3) (c := 1) (by decide +kernel) rfl (by decide) rfl
set_option maxRecDepth 20000 in
theorem u_X4_choose_96 (L : xL) (st : List Value) (h : xH) : xf 31 96 L st h = xf 31 9 L st h := xo_goto (n := 99) (t := 9) (by decide +kernel) rfl
set_option maxRecDepth 20000 in
theorem u_X4_choose_99 (L : xL) (h : xH) : xf 31 99 L [] h = some (.inl none, h) := xo_return (n := 100) (by decide +kernel) rfl
set_option maxRecDepth 20000 in
theorem e_X4_choose (v0 : Nat) (v1 : Nat) (h : xH) : xev 31 [.ref v0, .ref v1] h = xf 31 0 [some (.ref v0), some (.ref v1), none, none, none, none] [] h := rfl
set_option maxRecDepth 20000 in
theorem u_X4_finding_0 (l0 : Option Value) (x : Int32) (st : List Value) (h : xH) : xf 32 0 [l0, some (.int x)] st h = xf 32 1 [l0, some (.int x)] (.int x :: st) h := xo_iload (k := 1) (by decide +kernel) rfl
set_option maxRecDepth 20000 in
theorem u_X4_finding_1 (L : xL) (a : Int32) (st : List Value) (h : xH) : xf 32 1 L (.int a :: st) h = if a = 0 then xf 32 28 L st h else if a = 1 then xf 32 33 L st h else if a = 2 then xf 32 38 L st h else xf 32 43 L st h := by
  have ho : xop 32 1 = some (.tableswitch 43 0 2 #[28, 33, 38], 1) := by decide +kernel
  by_cases h0 : a = 0
  · subst h0
    rw [if_pos rfl]
    exact xo_tsw (t := 28) ho (by decide) (by decide) rfl
  rw [if_neg h0]
  by_cases h1 : a = 1
  · subst h1
    rw [if_pos rfl]
    exact xo_tsw (t := 33) ho (by decide) (by decide) rfl
  rw [if_neg h1]
  by_cases h2 : a = 2
  · subst h2
    rw [if_pos rfl]
    exact xo_tsw (t := 38) ho (by decide) (by decide) rfl
  rw [if_neg h2]
  refine xo_tswO ho rfl ?_
  have g0 := xi_ne h0
  rw [show (0 : Int32).toInt = 0 by decide] at g0
  have g1 := xi_ne h1
  rw [show (1 : Int32).toInt = 1 by decide] at g1
  have g2 := xi_ne h2
  rw [show (2 : Int32).toInt = 2 by decide] at g2
  omega
set_option maxRecDepth 20000 in
theorem u_X4_finding_28 (l1 : Option Value) (x : Nat) (st : List Value) (h : xH) : xf 32 28 [some (.ref x), l1] st h = xf 32 29 [some (.ref x), l1] (.ref x :: st) h := xo_aload (k := 0) (by decide +kernel) rfl
set_option maxRecDepth 20000 in
theorem u_X4_finding_29 (L : xL) (a : Nat) (st : List Value) (h : xH) (hc : (xob h a).1 = 4) : xf 32 29 L (.ref a :: st) h = xf 32 32 L ((xob h a).2.getD 2 .null :: st) h := xo_getf (r := 258) (by decide +kernel) (by decide) hc
set_option maxRecDepth 20000 in
theorem u_X4_finding_32 (L : xL) (x : Int32) (h : xH) : xf 32 32 L [.int x] h = some (.inl (some (.int x)), h) := xo_ireturn (n := 33) (by decide +kernel) rfl
set_option maxRecDepth 20000 in
theorem u_X4_finding_33 (l1 : Option Value) (x : Nat) (st : List Value) (h : xH) : xf 32 33 [some (.ref x), l1] st h = xf 32 34 [some (.ref x), l1] (.ref x :: st) h := xo_aload (k := 0) (by decide +kernel) rfl
set_option maxRecDepth 20000 in
theorem u_X4_finding_34 (L : xL) (a : Nat) (st : List Value) (h : xH) (hc : (xob h a).1 = 4) : xf 32 34 L (.ref a :: st) h = xf 32 37 L ((xob h a).2.getD 3 .null :: st) h := xo_getf (r := 259) (by decide +kernel) (by decide) hc
set_option maxRecDepth 20000 in
theorem u_X4_finding_37 (L : xL) (x : Int32) (h : xH) : xf 32 37 L [.int x] h = some (.inl (some (.int x)), h) := xo_ireturn (n := 38) (by decide +kernel) rfl
set_option maxRecDepth 20000 in
theorem u_X4_finding_38 (l1 : Option Value) (x : Nat) (st : List Value) (h : xH) : xf 32 38 [some (.ref x), l1] st h = xf 32 39 [some (.ref x), l1] (.ref x :: st) h := xo_aload (k := 0) (by decide +kernel) rfl
set_option maxRecDepth 20000 in
theorem u_X4_finding_39 (L : xL) (a : Nat) (st : List Value) (h : xH) (hc : (xob h a).1 = 4) : xf 32 39 L (.ref a :: st) h = xf 32 42 L ((xob h a).2.getD 4 .null :: st) h := xo_getf (r := 260) (by decide +kernel) (by decide) hc
set_option maxRecDepth 20000 in
theorem u_X4_finding_42 (L : xL) (x : Int32) (h : xH) : xf 32 42 L [.int x] h = some (.inl (some (.int x)), h) := xo_ireturn (n := 43) (by decide +kernel) rfl
set_option maxRecDepth 20000 in
theorem u_X4_finding_43 (l1 : Option Value) (x : Nat) (st : List Value) (h : xH) : xf 32 43 [some (.ref x), l1] st h = xf 32 44 [some (.ref x), l1] (.ref x :: st) h := xo_aload (k := 0) (by decide +kernel) rfl
set_option maxRecDepth 20000 in
theorem u_X4_finding_44 (L : xL) (a : Nat) (st : List Value) (h : xH) (hc : (xob h a).1 = 4) : xf 32 44 L (.ref a :: st) h = xf 32 47 L ((xob h a).2.getD 5 .null :: st) h := xo_getf (r := 261) (by decide +kernel) (by decide) hc
set_option maxRecDepth 20000 in
theorem u_X4_finding_47 (L : xL) (x : Int32) (h : xH) : xf 32 47 L [.int x] h = some (.inl (some (.int x)), h) := xo_ireturn (n := 48) (by decide +kernel) rfl
set_option maxRecDepth 20000 in
theorem e_X4_finding (v0 : Nat) (v1 : Int32) (h : xH) : xev 32 [.ref v0, .int v1] h = xf 32 0 [some (.ref v0), some (.int v1)] [] h := rfl
set_option maxRecDepth 20000 in
theorem u_X4_apply_0 (l1 : Option Value) (x : Nat) (st : List Value) (h : xH) : xf 33 0 [some (.ref x), l1] st h = xf 33 1 [some (.ref x), l1] (.ref x :: st) h := xo_aload (k := 0) (by decide +kernel) rfl
set_option maxRecDepth 20000 in
theorem u_X4_apply_1 (L : xL) (a : Nat) (st : List Value) (h : xH) (hc : (xob h a).1 = 4) : xf 33 1 L (.ref a :: st) h = xf 33 4 L ((xob h a).2.getD 5 .null :: st) h := xo_getf (r := 261) (by decide +kernel) (by decide) hc
set_option maxRecDepth 20000 in
theorem u_X4_apply_4 (L : xL) (st : List Value) (h : xH) : xf 33 4 L st h = xf 33 5 L (.int (-1) :: st) h := xo_iconst (k := (-1)) (by decide +kernel) (by decide)
set_option maxRecDepth 20000 in
theorem u_X4_apply_5 (L : xL) (a b : Int32) (st : List Value) (h : xH) : xf 33 5 L (.int b :: .int a :: st) h = if a = b then xf 33 8 L st h else xf 33 9 L st h := xo_icmp_ne (t := 9) (by decide +kernel) rfl
set_option maxRecDepth 20000 in
theorem u_X4_apply_8 (L : xL) (h : xH) : xf 33 8 L [] h = some (.inl none, h) := xo_return (n := 9) (by decide +kernel) rfl
set_option maxRecDepth 20000 in
theorem u_X4_apply_9 (l0 : Option Value) (x : Nat) (st : List Value) (h : xH) : xf 33 9 [l0, some (.ref x)] st h = xf 33 10 [l0, some (.ref x)] (.ref x :: st) h := xo_aload (k := 1) (by decide +kernel) rfl
set_option maxRecDepth 20000 in
theorem u_X4_apply_10 (L : xL) (a : Nat) (st : List Value) (h : xH) (hc : (xob h a).1 = 6) : xf 33 10 L (.ref a :: st) h = xf 33 13 L ((xob h a).2.getD 1 .null :: st) h := xo_getf (r := 385) (by decide +kernel) (by decide) hc
set_option maxRecDepth 20000 in
theorem u_X4_apply_13 (l1 : Option Value) (x : Nat) (st : List Value) (h : xH) : xf 33 13 [some (.ref x), l1] st h = xf 33 14 [some (.ref x), l1] (.ref x :: st) h := xo_aload (k := 0) (by decide +kernel) rfl
set_option maxRecDepth 20000 in
theorem u_X4_apply_14 (L : xL) (a : Nat) (st : List Value) (h : xH) (hc : (xob h a).1 = 4) : xf 33 14 L (.ref a :: st) h = xf 33 17 L ((xob h a).2.getD 5 .null :: st) h := xo_getf (r := 261) (by decide +kernel) (by decide) hc
set_option maxRecDepth 20000 in
theorem u_X4_apply_17 (L : xL) (v0 : Int32) (b : Nat) (st : List Value) (h : xH) (hb : (xob h b).1 = 3) (hl : st.length ≤ 4) : xf 33 17 L (.int v0 :: .ref b :: st) h = xgo 33 17 20 L st (xev 21 [.ref b, .int v0] h) := xo_callV (as := [.int v0]) (by decide +kernel) rfl ⟨(by decide +kernel : xna 21 = 1), Nat.le_of_ble_eq_true rfl, rfl, by decide⟩ hb hl
set_option maxRecDepth 20000 in
theorem u_X4_apply_20 (L : xL) (a : Int32) (st : List Value) (h : xH) : xf 33 20 L (.int a :: st) h = if a = 0 then xf 33 23 L st h else xf 33 42 L st h := xo_if_ne (t := 42) (by decide +kernel) rfl
set_option maxRecDepth 20000 in
theorem u_X4_apply_23 (l0 : Option Value) (x : Nat) (st : List Value) (h : xH) : xf 33 23 [l0, some (.ref x)] st h = xf 33 24 [l0, some (.ref x)] (.ref x :: st) h := xo_aload (k := 1) (by decide +kernel) rfl
set_option maxRecDepth 20000 in
theorem u_X4_apply_24 (L : xL) (a : Nat) (st : List Value) (h : xH) (hc : (xob h a).1 = 6) : xf 33 24 L (.ref a :: st) h = xf 33 27 L ((xob h a).2.getD 1 .null :: st) h := xo_getf (r := 385) (by decide +kernel) (by decide) hc
set_option maxRecDepth 20000 in
theorem u_X4_apply_27 (l1 : Option Value) (x : Nat) (st : List Value) (h : xH) : xf 33 27 [some (.ref x), l1] st h = xf 33 28 [some (.ref x), l1] (.ref x :: st) h := xo_aload (k := 0) (by decide +kernel) rfl
set_option maxRecDepth 20000 in
theorem u_X4_apply_28 (L : xL) (a : Nat) (st : List Value) (h : xH) (hc : (xob h a).1 = 4) : xf 33 28 L (.ref a :: st) h = xf 33 31 L ((xob h a).2.getD 5 .null :: st) h := xo_getf (r := 261) (by decide +kernel) (by decide) hc
set_option maxRecDepth 20000 in
theorem u_X4_apply_31 (l1 : Option Value) (x : Nat) (st : List Value) (h : xH) : xf 33 31 [some (.ref x), l1] st h = xf 33 32 [some (.ref x), l1] (.ref x :: st) h := xo_aload (k := 0) (by decide +kernel) rfl
set_option maxRecDepth 20000 in
theorem u_X4_apply_32 (L : xL) (a : Nat) (st : List Value) (h : xH) (hc : (xob h a).1 = 4) : xf 33 32 L (.ref a :: st) h = xf 33 35 L ((xob h a).2.getD 2 .null :: st) h := xo_getf (r := 258) (by decide +kernel) (by decide) hc
set_option maxRecDepth 20000 in
theorem u_X4_apply_35 (l1 : Option Value) (x : Nat) (st : List Value) (h : xH) : xf 33 35 [some (.ref x), l1] st h = xf 33 36 [some (.ref x), l1] (.ref x :: st) h := xo_aload (k := 0) (by decide +kernel) rfl
set_option maxRecDepth 20000 in
theorem u_X4_apply_36 (L : xL) (a : Nat) (st : List Value) (h : xH) (hc : (xob h a).1 = 4) : xf 33 36 L (.ref a :: st) h = xf 33 39 L ((xob h a).2.getD 3 .null :: st) h := xo_getf (r := 259) (by decide +kernel) (by decide) hc
set_option maxRecDepth 20000 in
theorem u_X4_apply_39 (L : xL) (v0 : Int32) (v1 : Int32) (v2 : Int32) (b : Nat) (st : List Value) (h : xH) (hb : (xob h b).1 = 3) (hl : st.length ≤ 4) : xf 33 39 L (.int v2 :: .int v1 :: .int v0 :: .ref b :: st) h = xgo 33 39 42 L st (xev 23 [.ref b, .int v0, .int v1, .int v2] h) := xo_callV (as := [.int v0, .int v1, .int v2]) (by decide +kernel) rfl ⟨(by decide +kernel : xna 23 = 3), Nat.le_of_ble_eq_true rfl, rfl, by decide⟩ hb hl
set_option maxRecDepth 20000 in
theorem u_X4_apply_42 (l0 : Option Value) (x : Nat) (st : List Value) (h : xH) : xf 33 42 [l0, some (.ref x)] st h = xf 33 43 [l0, some (.ref x)] (.ref x :: st) h := xo_aload (k := 1) (by decide +kernel) rfl
set_option maxRecDepth 20000 in
theorem u_X4_apply_43 (L : xL) (a : Nat) (st : List Value) (h : xH) (hc : (xob h a).1 = 6) : xf 33 43 L (.ref a :: st) h = xf 33 46 L ((xob h a).2.getD 0 .null :: st) h := xo_getf (r := 384) (by decide +kernel) (by decide) hc
set_option maxRecDepth 20000 in
theorem u_X4_apply_46 (l1 : Option Value) (x : Nat) (st : List Value) (h : xH) : xf 33 46 [some (.ref x), l1] st h = xf 33 47 [some (.ref x), l1] (.ref x :: st) h := xo_aload (k := 0) (by decide +kernel) rfl
set_option maxRecDepth 20000 in
theorem u_X4_apply_47 (L : xL) (a : Nat) (st : List Value) (h : xH) (hc : (xob h a).1 = 4) : xf 33 47 L (.ref a :: st) h = xf 33 50 L ((xob h a).2.getD 2 .null :: st) h := xo_getf (r := 258) (by decide +kernel) (by decide) hc
set_option maxRecDepth 20000 in
theorem u_X4_apply_50 (l1 : Option Value) (x : Nat) (st : List Value) (h : xH) : xf 33 50 [some (.ref x), l1] st h = xf 33 51 [some (.ref x), l1] (.ref x :: st) h := xo_aload (k := 0) (by decide +kernel) rfl
set_option maxRecDepth 20000 in
theorem u_X4_apply_51 (L : xL) (a : Nat) (st : List Value) (h : xH) (hc : (xob h a).1 = 4) : xf 33 51 L (.ref a :: st) h = xf 33 54 L ((xob h a).2.getD 3 .null :: st) h := xo_getf (r := 259) (by decide +kernel) (by decide) hc
set_option maxRecDepth 20000 in
theorem u_X4_apply_54 (l1 : Option Value) (x : Nat) (st : List Value) (h : xH) : xf 33 54 [some (.ref x), l1] st h = xf 33 55 [some (.ref x), l1] (.ref x :: st) h := xo_aload (k := 0) (by decide +kernel) rfl
set_option maxRecDepth 20000 in
theorem u_X4_apply_55 (L : xL) (a : Nat) (st : List Value) (h : xH) (hc : (xob h a).1 = 4) : xf 33 55 L (.ref a :: st) h = xf 33 58 L ((xob h a).2.getD 5 .null :: st) h := xo_getf (r := 261) (by decide +kernel) (by decide) hc
set_option maxRecDepth 20000 in
theorem u_X4_apply_58 (L : xL) (v0 : Int32) (v1 : Int32) (v2 : Int32) (b : Nat) (st : List Value) (h : xH) (hb : (xob h b).1 = 5) (hl : st.length ≤ 4) : xf 33 58 L (.int v2 :: .int v1 :: .int v0 :: .ref b :: st) h = xgo 33 58 61 L st (xev 43 [.ref b, .int v0, .int v1, .int v2] h) := xo_callV (as := [.int v0, .int v1, .int v2]) (by decide +kernel) rfl ⟨(by decide +kernel : xna 43 = 3), Nat.le_of_ble_eq_true rfl, rfl, by decide⟩ hb hl
set_option maxRecDepth 20000 in
theorem u_X4_apply_61 (l0 : Option Value) (x : Nat) (st : List Value) (h : xH) : xf 33 61 [l0, some (.ref x)] st h = xf 33 62 [l0, some (.ref x)] (.ref x :: st) h := xo_aload (k := 1) (by decide +kernel) rfl
set_option maxRecDepth 20000 in
theorem u_X4_apply_62 (L : xL) (a : Nat) (st : List Value) (h : xH) : xf 33 62 L (.ref a :: st) h = xf 33 63 L (.ref a :: .ref a :: st) h := xo_dupR (by decide +kernel)
set_option maxRecDepth 20000 in
theorem u_X4_apply_63 (L : xL) (a : Nat) (st : List Value) (h : xH) (hc : (xob h a).1 = 6) : xf 33 63 L (.ref a :: st) h = xf 33 66 L ((xob h a).2.getD 3 .null :: st) h := xo_getf (r := 387) (by decide +kernel) (by decide) hc
set_option maxRecDepth 20000 in
theorem u_X4_apply_66 (L : xL) (st : List Value) (h : xH) : xf 33 66 L st h = xf 33 67 L (.int 1 :: st) h := xo_iconst (k := 1) (by decide +kernel) (by decide)
set_option maxRecDepth 20000 in
theorem u_X4_apply_67 (L : xL) (a b : Int32) (st : List Value) (h : xH) : xf 33 67 L (.int b :: .int a :: st) h = xf 33 68 L (.int (a + b) :: st) h := xo_iadd (by decide +kernel)
set_option maxRecDepth 20000 in
theorem u_X4_apply_68 (L : xL) (v : Int32) (a : Nat) (st : List Value) (h : xH) (hc : (xob h a).1 = 6) : xf 33 68 L (.int v :: .ref a :: st) h = xf 33 71 L st (xso h a 3 (.int v)) := xo_putf (r := 387) (by decide +kernel) (by decide) rfl hc
set_option maxRecDepth 20000 in
theorem u_X4_apply_71 (L : xL) (h : xH) : xf 33 71 L [] h = some (.inl none, h) := xo_return (n := 72) (by decide +kernel) rfl
set_option maxRecDepth 20000 in
theorem e_X4_apply (v0 : Nat) (v1 : Nat) (h : xH) : xev 33 [.ref v0, .ref v1] h = xf 33 0 [some (.ref v0), some (.ref v1)] [] h := rfl
set_option maxRecDepth 20000 in
theorem u_X4_applyAll_0 (L : xL) (st : List Value) (h : xH) : xf 34 0 L st h = xf 34 1 L (.int 0 :: st) h := xo_iconst (k := 0) (by decide +kernel) (by decide)
set_option maxRecDepth 20000 in
theorem u_X4_applyAll_1 (l0 l1 l2 : Option Value) (x : Int32) (st : List Value) (h : xH) : xf 34 1 [l0, l1, l2] (.int x :: st) h = xf 34 2 [l0, xcat l1, some (.int x)] st h := xo_istore (k := 2) (by decide +kernel) (Nat.le_of_ble_eq_true rfl) rfl
set_option maxRecDepth 20000 in
theorem u_X4_applyAll_2 (l0 l1 : Option Value) (x : Int32) (st : List Value) (h : xH) : xf 34 2 [l0, l1, some (.int x)] st h = xf 34 3 [l0, l1, some (.int x)] (.int x :: st) h := xo_iload (k := 2) (by decide +kernel) rfl
set_option maxRecDepth 20000 in
theorem u_X4_applyAll_3 (L : xL) (st : List Value) (h : xH) : xf 34 3 L st h = xf 34 5 L (.int 64 :: st) h := xo_iconst (k := 64) (by decide +kernel) (by decide)
set_option maxRecDepth 20000 in
theorem u_X4_applyAll_5 (L : xL) (a b : Int32) (st : List Value) (h : xH) : xf 34 5 L (.int b :: .int a :: st) h = if a < b then xf 34 8 L st h else xf 34 34 L st h := xo_icmp_ge (t := 34) (by decide +kernel) rfl
set_option maxRecDepth 20000 in
theorem u_X4_applyAll_8 (l1 l2 : Option Value) (x : Nat) (st : List Value) (h : xH) : xf 34 8 [some (.ref x), l1, l2] st h = xf 34 9 [some (.ref x), l1, l2] (.ref x :: st) h := xo_aload (k := 0) (by decide +kernel) rfl
set_option maxRecDepth 20000 in
theorem u_X4_applyAll_9 (l0 l2 : Option Value) (x : Nat) (st : List Value) (h : xH) : xf 34 9 [l0, some (.ref x), l2] st h = xf 34 10 [l0, some (.ref x), l2] (.ref x :: st) h := xo_aload (k := 1) (by decide +kernel) rfl
set_option maxRecDepth 20000 in
theorem u_X4_applyAll_10 (L : xL) (v0 : Nat) (b : Nat) (st : List Value) (h : xH) (hb : (xob h b).1 = 4) (hl : st.length ≤ 4) : xf 34 10 L (.ref v0 :: .ref b :: st) h = xgo 34 10 13 L st (xev 29 [.ref b, .ref v0] h) := xo_callV (as := [.ref v0]) (by decide +kernel) rfl ⟨(by decide +kernel : xna 29 = 1), Nat.le_of_ble_eq_true rfl, rfl, by decide⟩ hb hl
set_option maxRecDepth 20000 in
theorem u_X4_applyAll_13 (l1 l2 : Option Value) (x : Nat) (st : List Value) (h : xH) : xf 34 13 [some (.ref x), l1, l2] st h = xf 34 14 [some (.ref x), l1, l2] (.ref x :: st) h := xo_aload (k := 0) (by decide +kernel) rfl
set_option maxRecDepth 20000 in
theorem u_X4_applyAll_14 (L : xL) (a : Nat) (st : List Value) (h : xH) (hc : (xob h a).1 = 4) : xf 34 14 L (.ref a :: st) h = xf 34 17 L ((xob h a).2.getD 5 .null :: st) h := xo_getf (r := 261) (by decide +kernel) (by decide) hc
set_option maxRecDepth 20000 in
theorem u_X4_applyAll_17 (L : xL) (st : List Value) (h : xH) : xf 34 17 L st h = xf 34 18 L (.int (-1) :: st) h := xo_iconst (k := (-1)) (by decide +kernel) (by decide)
set_option maxRecDepth 20000 in
theorem u_X4_applyAll_18 (L : xL) (a b : Int32) (st : List Value) (h : xH) : xf 34 18 L (.int b :: .int a :: st) h = if a = b then xf 34 21 L st h else xf 34 23 L st h := xo_icmp_ne (t := 23) (by decide +kernel) rfl
set_option maxRecDepth 20000 in
theorem u_X4_applyAll_21 (l0 l1 : Option Value) (x : Int32) (st : List Value) (h : xH) : xf 34 21 [l0, l1, some (.int x)] st h = xf 34 22 [l0, l1, some (.int x)] (.int x :: st) h := xo_iload (k := 2) (by decide +kernel) rfl
set_option maxRecDepth 20000 in
theorem u_X4_applyAll_22 (L : xL) (x : Int32) (h : xH) : xf 34 22 L [.int x] h = some (.inl (some (.int x)), h) := xo_ireturn (n := 23) (by decide +kernel) rfl
set_option maxRecDepth 20000 in
theorem u_X4_applyAll_23 (l1 l2 : Option Value) (x : Nat) (st : List Value) (h : xH) : xf 34 23 [some (.ref x), l1, l2] st h = xf 34 24 [some (.ref x), l1, l2] (.ref x :: st) h := xo_aload (k := 0) (by decide +kernel) rfl
set_option maxRecDepth 20000 in
theorem u_X4_applyAll_24 (l0 l2 : Option Value) (x : Nat) (st : List Value) (h : xH) : xf 34 24 [l0, some (.ref x), l2] st h = xf 34 25 [l0, some (.ref x), l2] (.ref x :: st) h := xo_aload (k := 1) (by decide +kernel) rfl
set_option maxRecDepth 20000 in
theorem u_X4_applyAll_25 (L : xL) (v0 : Nat) (b : Nat) (st : List Value) (h : xH) (hb : (xob h b).1 = 4) (hl : st.length ≤ 4) : xf 34 25 L (.ref v0 :: .ref b :: st) h = xgo 34 25 28 L st (xev 33 [.ref b, .ref v0] h) := xo_callV (as := [.ref v0]) (by decide +kernel) rfl ⟨(by decide +kernel : xna 33 = 1), Nat.le_of_ble_eq_true rfl, rfl, by decide⟩ hb hl
set_option maxRecDepth 20000 in
theorem u_X4_applyAll_28 (l0 l1 : Option Value) (x : Int32) (st : List Value) (h : xH) : xf 34 28 [l0, l1, some (.int x)] st h = xf 34 31 [l0, xcat l1, some (.int (x + 1))] st h := xo_iinc (k := 2) (c := 1) (by decide +kernel) rfl (by decide) rfl
set_option maxRecDepth 20000 in
theorem u_X4_applyAll_31 (L : xL) (st : List Value) (h : xH) : xf 34 31 L st h = xf 34 2 L st h := xo_goto (n := 34) (t := 2) (by decide +kernel) rfl
set_option maxRecDepth 20000 in
theorem u_X4_applyAll_34 (L : xL) (st : List Value) (h : xH) : xf 34 34 L st h = xf 34 36 L (.int 64 :: st) h := xo_iconst (k := 64) (by decide +kernel) (by decide)
set_option maxRecDepth 20000 in
theorem u_X4_applyAll_36 (L : xL) (x : Int32) (h : xH) : xf 34 36 L [.int x] h = some (.inl (some (.int x)), h) := xo_ireturn (n := 37) (by decide +kernel) rfl
set_option maxRecDepth 20000 in
theorem e_X4_applyAll (v0 : Nat) (v1 : Nat) (h : xH) : xev 34 [.ref v0, .ref v1] h = xf 34 0 [some (.ref v0), some (.ref v1), none] [] h := rfl
set_option maxRecDepth 20000 in
theorem u_X5_init_0 (x : Nat) (st : List Value) (h : xH) : xf 35 0 [some (.ref x)] st h = xf 35 1 [some (.ref x)] (.ref x :: st) h := xo_aload (k := 0) (by decide +kernel) rfl
set_option maxRecDepth 20000 in
theorem u_X5_init_1 (L : xL) (a : Nat) (st : List Value) (h : xH) (hl : st.length ≤ 4) : xf 35 1 L (.ref a :: st) h = xf 35 4 L st h := xo_objinit (by decide +kernel) hl
set_option maxRecDepth 20000 in
theorem u_X5_init_4 (x : Nat) (st : List Value) (h : xH) : xf 35 4 [some (.ref x)] st h = xf 35 5 [some (.ref x)] (.ref x :: st) h := xo_aload (k := 0) (by decide +kernel) rfl
set_option maxRecDepth 20000 in
theorem u_X5_init_5 (L : xL) (st : List Value) (h : xH) : xf 35 5 L st h = xf 35 7 L (.int 64 :: st) h := xo_iconst (k := 64) (by decide +kernel) (by decide)
set_option maxRecDepth 20000 in
theorem u_X5_init_7 (L : xL) (i : Int32) (m : Nat) (st : List Value) (h : xH) (hi : ¬ i < 0 ∧ i.toNatClampNeg = m ∧ m ≤ 1000) (hn : h.2.1 ≠ 0) : xf 35 7 L (.int i :: st) h = xf 35 9 L (.ref h.2.1 :: st) (xnew h (.inl (0, m, .inl (fun _ => 0))) m) := xo_newi (by decide +kernel) hi hn
set_option maxRecDepth 20000 in
theorem u_X5_init_9 (L : xL) (v : Nat) (a : Nat) (st : List Value) (h : xH) (hc : (xob h a).1 = 5) : xf 35 9 L (.ref v :: .ref a :: st) h = xf 35 12 L st (xso h a 0 (.ref v)) := xo_putf (r := 320) (by decide +kernel) (by decide) rfl hc
set_option maxRecDepth 20000 in
theorem u_X5_init_12 (L : xL) (h : xH) : xf 35 12 L [] h = some (.inl none, h) := xo_return (n := 13) (by decide +kernel) rfl
set_option maxRecDepth 20000 in
theorem e_X5_init (v0 : Nat) (h : xH) : xev 35 [.ref v0] h = xf 35 0 [some (.ref v0)] [] h := rfl
set_option maxRecDepth 20000 in
theorem u_X5_at_0 (l0 : Option Value) (x : Int32) (st : List Value) (h : xH) : xf 36 0 [l0, some (.int x)] st h = xf 36 1 [l0, some (.int x)] (.int x :: st) h := xo_iload (k := 1) (by decide +kernel) rfl
set_option maxRecDepth 20000 in
theorem u_X5_at_1 (L : xL) (a : Int32) (st : List Value) (h : xH) : xf 36 1 L (.int a :: st) h = if a < 0 then xf 36 30 L st h else xf 36 4 L st h := xo_if_lt (t := 30) (by decide +kernel) rfl
set_option maxRecDepth 20000 in
theorem u_X5_at_4 (l0 : Option Value) (x : Int32) (st : List Value) (h : xH) : xf 36 4 [l0, some (.int x)] st h = xf 36 5 [l0, some (.int x)] (.int x :: st) h := xo_iload (k := 1) (by decide +kernel) rfl
set_option maxRecDepth 20000 in
theorem u_X5_at_5 (l1 : Option Value) (x : Nat) (st : List Value) (h : xH) : xf 36 5 [some (.ref x), l1] st h = xf 36 6 [some (.ref x), l1] (.ref x :: st) h := xo_aload (k := 0) (by decide +kernel) rfl
set_option maxRecDepth 20000 in
theorem u_X5_at_6 (L : xL) (a : Nat) (st : List Value) (h : xH) (hc : (xob h a).1 = 5) : xf 36 6 L (.ref a :: st) h = xf 36 9 L ((xob h a).2.getD 1 .null :: st) h := xo_getf (r := 321) (by decide +kernel) (by decide) hc
set_option maxRecDepth 20000 in
theorem u_X5_at_9 (L : xL) (a b : Int32) (st : List Value) (h : xH) : xf 36 9 L (.int b :: .int a :: st) h = if a < b then xf 36 12 L st h else xf 36 30 L st h := xo_icmp_ge (t := 30) (by decide +kernel) rfl
set_option maxRecDepth 20000 in
theorem u_X5_at_12 (l0 : Option Value) (x : Int32) (st : List Value) (h : xH) : xf 36 12 [l0, some (.int x)] st h = xf 36 13 [l0, some (.int x)] (.int x :: st) h := xo_iload (k := 1) (by decide +kernel) rfl
set_option maxRecDepth 20000 in
theorem u_X5_at_13 (l1 : Option Value) (x : Nat) (st : List Value) (h : xH) : xf 36 13 [some (.ref x), l1] st h = xf 36 14 [some (.ref x), l1] (.ref x :: st) h := xo_aload (k := 0) (by decide +kernel) rfl
set_option maxRecDepth 20000 in
theorem u_X5_at_14 (L : xL) (a : Nat) (st : List Value) (h : xH) (hc : (xob h a).1 = 5) : xf 36 14 L (.ref a :: st) h = xf 36 17 L ((xob h a).2.getD 0 .null :: st) h := xo_getf (r := 320) (by decide +kernel) (by decide) hc
set_option maxRecDepth 20000 in
theorem u_X5_at_17 (L : xL) (a : Nat) (st : List Value) (h : xH) (hx : 0 < (xai h a).1) : xf 36 17 L (.ref a :: st) h = xf 36 18 L (.int (Int32.ofNat (xai h a).1) :: st) h := xo_alen (by decide +kernel) hx
set_option maxRecDepth 20000 in
theorem u_X5_at_18 (L : xL) (a b : Int32) (st : List Value) (h : xH) : xf 36 18 L (.int b :: .int a :: st) h = if a < b then xf 36 21 L st h else xf 36 30 L st h := xo_icmp_ge (t := 30) (by decide +kernel) rfl
set_option maxRecDepth 20000 in
theorem u_X5_at_21 (l1 : Option Value) (x : Nat) (st : List Value) (h : xH) : xf 36 21 [some (.ref x), l1] st h = xf 36 22 [some (.ref x), l1] (.ref x :: st) h := xo_aload (k := 0) (by decide +kernel) rfl
set_option maxRecDepth 20000 in
theorem u_X5_at_22 (L : xL) (a : Nat) (st : List Value) (h : xH) (hc : (xob h a).1 = 5) : xf 36 22 L (.ref a :: st) h = xf 36 25 L ((xob h a).2.getD 0 .null :: st) h := xo_getf (r := 320) (by decide +kernel) (by decide) hc
set_option maxRecDepth 20000 in
theorem u_X5_at_25 (l0 : Option Value) (x : Int32) (st : List Value) (h : xH) : xf 36 25 [l0, some (.int x)] st h = xf 36 26 [l0, some (.int x)] (.int x :: st) h := xo_iload (k := 1) (by decide +kernel) rfl
set_option maxRecDepth 20000 in
theorem u_X5_at_26 (L : xL) (i : Int32) (a : Nat) (st : List Value) (h : xH) (hx : xix i (xai h a).1) : xf 36 26 L (.int i :: .ref a :: st) h = xf 36 27 L (.int ((xai h a).2 i.toNatClampNeg) :: st) h := xo_iaload (by decide +kernel) hx
set_option maxRecDepth 20000 in
theorem u_X5_at_27 (L : xL) (st : List Value) (h : xH) : xf 36 27 L st h = xf 36 31 L st h := xo_goto (n := 30) (t := 31) (by decide +kernel) rfl
set_option maxRecDepth 20000 in
theorem u_X5_at_30 (L : xL) (st : List Value) (h : xH) : xf 36 30 L st h = xf 36 31 L (.int (-1) :: st) h := xo_iconst (k := (-1)) (by decide +kernel) (by decide)
set_option maxRecDepth 20000 in
theorem u_X5_at_31 (L : xL) (x : Int32) (h : xH) : xf 36 31 L [.int x] h = some (.inl (some (.int x)), h) := xo_ireturn (n := 32) (by decide +kernel) rfl
set_option maxRecDepth 20000 in
theorem e_X5_at (v0 : Nat) (v1 : Int32) (h : xH) : xev 36 [.ref v0, .int v1] h = xf 36 0 [some (.ref v0), some (.int v1)] [] h := rfl
set_option maxRecDepth 20000 in
theorem u_X5_takes_0 (l0 : Option Value) (x : Int32) (st : List Value) (h : xH) : xf 37 0 [l0, some (.int x)] st h = xf 37 1 [l0, some (.int x)] (.int x :: st) h := xo_iload (k := 1) (by decide +kernel) rfl
set_option maxRecDepth 20000 in
theorem u_X5_takes_1 (L : xL) (st : List Value) (h : xH) : xf 37 1 L st h = xf 37 3 L (.int 64 :: st) h := xo_iconst (k := 64) (by decide +kernel) (by decide)
set_option maxRecDepth 20000 in
theorem u_X5_takes_3 (l1 : Option Value) (x : Nat) (st : List Value) (h : xH) : xf 37 3 [some (.ref x), l1] st h = xf 37 4 [some (.ref x), l1] (.ref x :: st) h := xo_aload (k := 0) (by decide +kernel) rfl
set_option maxRecDepth 20000 in
theorem u_X5_takes_4 (L : xL) (a : Nat) (st : List Value) (h : xH) (hc : (xob h a).1 = 5) : xf 37 4 L (.ref a :: st) h = xf 37 7 L ((xob h a).2.getD 1 .null :: st) h := xo_getf (r := 321) (by decide +kernel) (by decide) hc
set_option maxRecDepth 20000 in
theorem u_X5_takes_7 (L : xL) (a b : Int32) (st : List Value) (h : xH) : xf 37 7 L (.int b :: .int a :: st) h = xf 37 8 L (.int (a - b) :: st) h := xo_isub (by decide +kernel)
set_option maxRecDepth 20000 in
theorem u_X5_takes_8 (L : xL) (a b : Int32) (st : List Value) (h : xH) : xf 37 8 L (.int b :: .int a :: st) h = if b < a then xf 37 15 L st h else xf 37 11 L st h := xo_icmp_gt (t := 15) (by decide +kernel) rfl
set_option maxRecDepth 20000 in
theorem u_X5_takes_11 (L : xL) (st : List Value) (h : xH) : xf 37 11 L st h = xf 37 12 L (.int 1 :: st) h := xo_iconst (k := 1) (by decide +kernel) (by decide)
set_option maxRecDepth 20000 in
theorem u_X5_takes_12 (L : xL) (st : List Value) (h : xH) : xf 37 12 L st h = xf 37 16 L st h := xo_goto (n := 15) (t := 16) (by decide +kernel) rfl
set_option maxRecDepth 20000 in
theorem u_X5_takes_15 (L : xL) (st : List Value) (h : xH) : xf 37 15 L st h = xf 37 16 L (.int 0 :: st) h := xo_iconst (k := 0) (by decide +kernel) (by decide)
set_option maxRecDepth 20000 in
theorem u_X5_takes_16 (L : xL) (x : Int32) (h : xH) (hv : x = 0 ∨ x = 1) : xf 37 16 L [.int x] h = some (.inl (some (.int x)), h) := xo_ireturn (n := 17) (by decide +kernel) (by rcases hv with rfl | rfl <;> rfl)
set_option maxRecDepth 20000 in
theorem e_X5_takes (v0 : Nat) (v1 : Int32) (h : xH) : xev 37 [.ref v0, .int v1] h = xf 37 0 [some (.ref v0), some (.int v1)] [] h := rfl
set_option maxRecDepth 20000 in
theorem u_X5_push_0 (l1 : Option Value) (x : Nat) (st : List Value) (h : xH) : xf 38 0 [some (.ref x), l1] st h = xf 38 1 [some (.ref x), l1] (.ref x :: st) h := xo_aload (k := 0) (by decide +kernel) rfl
set_option maxRecDepth 20000 in
theorem u_X5_push_1 (L : xL) (a : Nat) (st : List Value) (h : xH) (hc : (xob h a).1 = 5) : xf 38 1 L (.ref a :: st) h = xf 38 4 L ((xob h a).2.getD 1 .null :: st) h := xo_getf (r := 321) (by decide +kernel) (by decide) hc
set_option maxRecDepth 20000 in
theorem u_X5_push_4 (L : xL) (a : Int32) (st : List Value) (h : xH) : xf 38 4 L (.int a :: st) h = if a < 0 then xf 38 39 L st h else xf 38 7 L st h := xo_if_lt (t := 39) (by decide +kernel) rfl
set_option maxRecDepth 20000 in
theorem u_X5_push_7 (l1 : Option Value) (x : Nat) (st : List Value) (h : xH) : xf 38 7 [some (.ref x), l1] st h = xf 38 8 [some (.ref x), l1] (.ref x :: st) h := xo_aload (k := 0) (by decide +kernel) rfl
set_option maxRecDepth 20000 in
theorem u_X5_push_8 (L : xL) (a : Nat) (st : List Value) (h : xH) (hc : (xob h a).1 = 5) : xf 38 8 L (.ref a :: st) h = xf 38 11 L ((xob h a).2.getD 1 .null :: st) h := xo_getf (r := 321) (by decide +kernel) (by decide) hc
set_option maxRecDepth 20000 in
theorem u_X5_push_11 (l1 : Option Value) (x : Nat) (st : List Value) (h : xH) : xf 38 11 [some (.ref x), l1] st h = xf 38 12 [some (.ref x), l1] (.ref x :: st) h := xo_aload (k := 0) (by decide +kernel) rfl
set_option maxRecDepth 20000 in
theorem u_X5_push_12 (L : xL) (a : Nat) (st : List Value) (h : xH) (hc : (xob h a).1 = 5) : xf 38 12 L (.ref a :: st) h = xf 38 15 L ((xob h a).2.getD 0 .null :: st) h := xo_getf (r := 320) (by decide +kernel) (by decide) hc
set_option maxRecDepth 20000 in
theorem u_X5_push_15 (L : xL) (a : Nat) (st : List Value) (h : xH) (hx : 0 < (xai h a).1) : xf 38 15 L (.ref a :: st) h = xf 38 16 L (.int (Int32.ofNat (xai h a).1) :: st) h := xo_alen (by decide +kernel) hx
set_option maxRecDepth 20000 in
theorem u_X5_push_16 (L : xL) (a b : Int32) (st : List Value) (h : xH) : xf 38 16 L (.int b :: .int a :: st) h = if a < b then xf 38 19 L st h else xf 38 39 L st h := xo_icmp_ge (t := 39) (by decide +kernel) rfl
set_option maxRecDepth 20000 in
theorem u_X5_push_19 (l1 : Option Value) (x : Nat) (st : List Value) (h : xH) : xf 38 19 [some (.ref x), l1] st h = xf 38 20 [some (.ref x), l1] (.ref x :: st) h := xo_aload (k := 0) (by decide +kernel) rfl
set_option maxRecDepth 20000 in
theorem u_X5_push_20 (L : xL) (a : Nat) (st : List Value) (h : xH) (hc : (xob h a).1 = 5) : xf 38 20 L (.ref a :: st) h = xf 38 23 L ((xob h a).2.getD 0 .null :: st) h := xo_getf (r := 320) (by decide +kernel) (by decide) hc
set_option maxRecDepth 20000 in
theorem u_X5_push_23 (l1 : Option Value) (x : Nat) (st : List Value) (h : xH) : xf 38 23 [some (.ref x), l1] st h = xf 38 24 [some (.ref x), l1] (.ref x :: st) h := xo_aload (k := 0) (by decide +kernel) rfl
set_option maxRecDepth 20000 in
theorem u_X5_push_24 (L : xL) (a : Nat) (st : List Value) (h : xH) (hc : (xob h a).1 = 5) : xf 38 24 L (.ref a :: st) h = xf 38 27 L ((xob h a).2.getD 1 .null :: st) h := xo_getf (r := 321) (by decide +kernel) (by decide) hc
set_option maxRecDepth 20000 in
theorem u_X5_push_27 (l0 : Option Value) (x : Int32) (st : List Value) (h : xH) : xf 38 27 [l0, some (.int x)] st h = xf 38 28 [l0, some (.int x)] (.int x :: st) h := xo_iload (k := 1) (by decide +kernel) rfl
set_option maxRecDepth 20000 in
theorem u_X5_push_28 (L : xL) (v i : Int32) (a : Nat) (st : List Value) (h : xH) (hx : xix i (xai h a).1) : xf 38 28 L (.int v :: .int i :: .ref a :: st) h = xf 38 29 L st (xsi h a i.toNatClampNeg v) := xo_iastore (by decide +kernel) hx
set_option maxRecDepth 20000 in
theorem u_X5_push_29 (l1 : Option Value) (x : Nat) (st : List Value) (h : xH) : xf 38 29 [some (.ref x), l1] st h = xf 38 30 [some (.ref x), l1] (.ref x :: st) h := xo_aload (k := 0) (by decide +kernel) rfl
set_option maxRecDepth 20000 in
theorem u_X5_push_30 (L : xL) (a : Nat) (st : List Value) (h : xH) : xf 38 30 L (.ref a :: st) h = xf 38 31 L (.ref a :: .ref a :: st) h := xo_dupR (by decide +kernel)
set_option maxRecDepth 20000 in
theorem u_X5_push_31 (L : xL) (a : Nat) (st : List Value) (h : xH) (hc : (xob h a).1 = 5) : xf 38 31 L (.ref a :: st) h = xf 38 34 L ((xob h a).2.getD 1 .null :: st) h := xo_getf (r := 321) (by decide +kernel) (by decide) hc
set_option maxRecDepth 20000 in
theorem u_X5_push_34 (L : xL) (st : List Value) (h : xH) : xf 38 34 L st h = xf 38 35 L (.int 1 :: st) h := xo_iconst (k := 1) (by decide +kernel) (by decide)
set_option maxRecDepth 20000 in
theorem u_X5_push_35 (L : xL) (a b : Int32) (st : List Value) (h : xH) : xf 38 35 L (.int b :: .int a :: st) h = xf 38 36 L (.int (a + b) :: st) h := xo_iadd (by decide +kernel)
set_option maxRecDepth 20000 in
theorem u_X5_push_36 (L : xL) (v : Int32) (a : Nat) (st : List Value) (h : xH) (hc : (xob h a).1 = 5) : xf 38 36 L (.int v :: .ref a :: st) h = xf 38 39 L st (xso h a 1 (.int v)) := xo_putf (r := 321) (by decide +kernel) (by decide) rfl hc
set_option maxRecDepth 20000 in
theorem u_X5_push_39 (L : xL) (h : xH) : xf 38 39 L [] h = some (.inl none, h) := xo_return (n := 40) (by decide +kernel) rfl
set_option maxRecDepth 20000 in
theorem e_X5_push (v0 : Nat) (v1 : Int32) (h : xH) : xev 38 [.ref v0, .int v1] h = xf 38 0 [some (.ref v0), some (.int v1)] [] h := rfl
set_option maxRecDepth 20000 in
theorem u_X5_shorten_0 (l0 : Option Value) (x : Int32) (st : List Value) (h : xH) : xf 39 0 [l0, some (.int x)] st h = xf 39 1 [l0, some (.int x)] (.int x :: st) h := xo_iload (k := 1) (by decide +kernel) rfl
set_option maxRecDepth 20000 in
theorem u_X5_shorten_1 (L : xL) (a : Int32) (st : List Value) (h : xH) : xf 39 1 L (.int a :: st) h = if a < 0 then xf 39 17 L st h else xf 39 4 L st h := xo_if_lt (t := 17) (by decide +kernel) rfl
set_option maxRecDepth 20000 in
theorem u_X5_shorten_4 (l0 : Option Value) (x : Int32) (st : List Value) (h : xH) : xf 39 4 [l0, some (.int x)] st h = xf 39 5 [l0, some (.int x)] (.int x :: st) h := xo_iload (k := 1) (by decide +kernel) rfl
set_option maxRecDepth 20000 in
theorem u_X5_shorten_5 (l1 : Option Value) (x : Nat) (st : List Value) (h : xH) : xf 39 5 [some (.ref x), l1] st h = xf 39 6 [some (.ref x), l1] (.ref x :: st) h := xo_aload (k := 0) (by decide +kernel) rfl
set_option maxRecDepth 20000 in
theorem u_X5_shorten_6 (L : xL) (a : Nat) (st : List Value) (h : xH) (hc : (xob h a).1 = 5) : xf 39 6 L (.ref a :: st) h = xf 39 9 L ((xob h a).2.getD 1 .null :: st) h := xo_getf (r := 321) (by decide +kernel) (by decide) hc
set_option maxRecDepth 20000 in
theorem u_X5_shorten_9 (L : xL) (a b : Int32) (st : List Value) (h : xH) : xf 39 9 L (.int b :: .int a :: st) h = if a < b then xf 39 12 L st h else xf 39 17 L st h := xo_icmp_ge (t := 17) (by decide +kernel) rfl
set_option maxRecDepth 20000 in
theorem u_X5_shorten_12 (l1 : Option Value) (x : Nat) (st : List Value) (h : xH) : xf 39 12 [some (.ref x), l1] st h = xf 39 13 [some (.ref x), l1] (.ref x :: st) h := xo_aload (k := 0) (by decide +kernel) rfl
set_option maxRecDepth 20000 in
theorem u_X5_shorten_13 (l0 : Option Value) (x : Int32) (st : List Value) (h : xH) : xf 39 13 [l0, some (.int x)] st h = xf 39 14 [l0, some (.int x)] (.int x :: st) h := xo_iload (k := 1) (by decide +kernel) rfl
set_option maxRecDepth 20000 in
theorem u_X5_shorten_14 (L : xL) (v : Int32) (a : Nat) (st : List Value) (h : xH) (hc : (xob h a).1 = 5) : xf 39 14 L (.int v :: .ref a :: st) h = xf 39 17 L st (xso h a 1 (.int v)) := xo_putf (r := 321) (by decide +kernel) (by decide) rfl hc
set_option maxRecDepth 20000 in
theorem u_X5_shorten_17 (L : xL) (h : xH) : xf 39 17 L [] h = some (.inl none, h) := xo_return (n := 18) (by decide +kernel) rfl
set_option maxRecDepth 20000 in
theorem e_X5_shorten (v0 : Nat) (v1 : Int32) (h : xH) : xev 39 [.ref v0, .int v1] h = xf 39 0 [some (.ref v0), some (.int v1)] [] h := rfl
set_option maxRecDepth 20000 in
theorem u_X5_copyFrom_0 (l1 l2 : Option Value) (x : Nat) (st : List Value) (h : xH) : xf 40 0 [some (.ref x), l1, l2] st h = xf 40 1 [some (.ref x), l1, l2] (.ref x :: st) h := xo_aload (k := 0) (by decide +kernel) rfl
set_option maxRecDepth 20000 in
theorem u_X5_copyFrom_1 (L : xL) (st : List Value) (h : xH) : xf 40 1 L st h = xf 40 2 L (.int 0 :: st) h := xo_iconst (k := 0) (by decide +kernel) (by decide)
set_option maxRecDepth 20000 in
theorem u_X5_copyFrom_2 (L : xL) (v : Int32) (a : Nat) (st : List Value) (h : xH) (hc : (xob h a).1 = 5) : xf 40 2 L (.int v :: .ref a :: st) h = xf 40 5 L st (xso h a 1 (.int v)) := xo_putf (r := 321) (by decide +kernel) (by decide) rfl hc
set_option maxRecDepth 20000 in
theorem u_X5_copyFrom_5 (L : xL) (st : List Value) (h : xH) : xf 40 5 L st h = xf 40 6 L (.int 0 :: st) h := xo_iconst (k := 0) (by decide +kernel) (by decide)
set_option maxRecDepth 20000 in
theorem u_X5_copyFrom_6 (l0 l1 l2 : Option Value) (x : Int32) (st : List Value) (h : xH) : xf 40 6 [l0, l1, l2] (.int x :: st) h = xf 40 7 [l0, xcat l1, some (.int x)] st h := xo_istore (k := 2) (by decide +kernel) (Nat.le_of_ble_eq_true rfl) rfl
set_option maxRecDepth 20000 in
theorem u_X5_copyFrom_7 (l0 l1 : Option Value) (x : Int32) (st : List Value) (h : xH) : xf 40 7 [l0, l1, some (.int x)] st h = xf 40 8 [l0, l1, some (.int x)] (.int x :: st) h := xo_iload (k := 2) (by decide +kernel) rfl
set_option maxRecDepth 20000 in
theorem u_X5_copyFrom_8 (l0 l2 : Option Value) (x : Nat) (st : List Value) (h : xH) : xf 40 8 [l0, some (.ref x), l2] st h = xf 40 9 [l0, some (.ref x), l2] (.ref x :: st) h := xo_aload (k := 1) (by decide +kernel) rfl
set_option maxRecDepth 20000 in
theorem u_X5_copyFrom_9 (L : xL) (a : Nat) (st : List Value) (h : xH) (hc : (xob h a).1 = 5) : xf 40 9 L (.ref a :: st) h = xf 40 12 L ((xob h a).2.getD 1 .null :: st) h := xo_getf (r := 321) (by decide +kernel) (by decide) hc
set_option maxRecDepth 20000 in
theorem u_X5_copyFrom_12 (L : xL) (a b : Int32) (st : List Value) (h : xH) : xf 40 12 L (.int b :: .int a :: st) h = if a < b then xf 40 15 L st h else xf 40 30 L st h := xo_icmp_ge (t := 30) (by decide +kernel) rfl
set_option maxRecDepth 20000 in
theorem u_X5_copyFrom_15 (l1 l2 : Option Value) (x : Nat) (st : List Value) (h : xH) : xf 40 15 [some (.ref x), l1, l2] st h = xf 40 16 [some (.ref x), l1, l2] (.ref x :: st) h := xo_aload (k := 0) (by decide +kernel) rfl
set_option maxRecDepth 20000 in
theorem u_X5_copyFrom_16 (l0 l2 : Option Value) (x : Nat) (st : List Value) (h : xH) : xf 40 16 [l0, some (.ref x), l2] st h = xf 40 17 [l0, some (.ref x), l2] (.ref x :: st) h := xo_aload (k := 1) (by decide +kernel) rfl
set_option maxRecDepth 20000 in
theorem u_X5_copyFrom_17 (l0 l1 : Option Value) (x : Int32) (st : List Value) (h : xH) : xf 40 17 [l0, l1, some (.int x)] st h = xf 40 18 [l0, l1, some (.int x)] (.int x :: st) h := xo_iload (k := 2) (by decide +kernel) rfl
set_option maxRecDepth 20000 in
theorem u_X5_copyFrom_18 (L : xL) (v0 : Int32) (b : Nat) (st : List Value) (h : xH) (hb : (xob h b).1 = 5) (hl : st.length ≤ 4) : xf 40 18 L (.int v0 :: .ref b :: st) h = xgo 40 18 21 L st (xev 36 [.ref b, .int v0] h) := xo_callV (as := [.int v0]) (by decide +kernel) rfl ⟨(by decide +kernel : xna 36 = 1), Nat.le_of_ble_eq_true rfl, rfl, by decide⟩ hb hl
set_option maxRecDepth 20000 in
theorem u_X5_copyFrom_21 (L : xL) (v0 : Int32) (b : Nat) (st : List Value) (h : xH) (hb : (xob h b).1 = 5) (hl : st.length ≤ 4) : xf 40 21 L (.int v0 :: .ref b :: st) h = xgo 40 21 24 L st (xev 38 [.ref b, .int v0] h) := xo_callV (as := [.int v0]) (by decide +kernel) rfl ⟨(by decide +kernel : xna 38 = 1), Nat.le_of_ble_eq_true rfl, rfl, by decide⟩ hb hl
set_option maxRecDepth 20000 in
theorem u_X5_copyFrom_24 (l0 l1 : Option Value) (x : Int32) (st : List Value) (h : xH) : xf 40 24 [l0, l1, some (.int x)] st h = xf 40 27 [l0, xcat l1, some (.int (x + 1))] st h := xo_iinc (k := 2) (c := 1) (by decide +kernel) rfl (by decide) rfl
set_option maxRecDepth 20000 in
theorem u_X5_copyFrom_27 (L : xL) (st : List Value) (h : xH) : xf 40 27 L st h = xf 40 7 L st h := xo_goto (n := 30) (t := 7) (by decide +kernel) rfl
set_option maxRecDepth 20000 in
theorem u_X5_copyFrom_30 (L : xL) (h : xH) : xf 40 30 L [] h = some (.inl none, h) := xo_return (n := 31) (by decide +kernel) rfl
set_option maxRecDepth 20000 in
theorem e_X5_copyFrom (v0 : Nat) (v1 : Nat) (h : xH) : xev 40 [.ref v0, .ref v1] h = xf 40 0 [some (.ref v0), some (.ref v1), none] [] h := rfl
set_option maxRecDepth 20000 in
theorem u_X5_put_0 (l0 l2 : Option Value) (x : Int32) (st : List Value) (h : xH) : xf 41 0 [l0, some (.int x), l2] st h = xf 41 1 [l0, some (.int x), l2] (.int x :: st) h := xo_iload (k := 1) (by decide +kernel) rfl
set_option maxRecDepth 20000 in
theorem u_X5_put_1 (L : xL) (a : Int32) (st : List Value) (h : xH) : xf 41 1 L (.int a :: st) h = if a < 0 then xf 41 28 L st h else xf 41 4 L st h := xo_if_lt (t := 28) (by decide +kernel) rfl
set_option maxRecDepth 20000 in
theorem u_X5_put_4 (l0 l2 : Option Value) (x : Int32) (st : List Value) (h : xH) : xf 41 4 [l0, some (.int x), l2] st h = xf 41 5 [l0, some (.int x), l2] (.int x :: st) h := xo_iload (k := 1) (by decide +kernel) rfl
set_option maxRecDepth 20000 in
theorem u_X5_put_5 (l1 l2 : Option Value) (x : Nat) (st : List Value) (h : xH) : xf 41 5 [some (.ref x), l1, l2] st h = xf 41 6 [some (.ref x), l1, l2] (.ref x :: st) h := xo_aload (k := 0) (by decide +kernel) rfl
set_option maxRecDepth 20000 in
theorem u_X5_put_6 (L : xL) (a : Nat) (st : List Value) (h : xH) (hc : (xob h a).1 = 5) : xf 41 6 L (.ref a :: st) h = xf 41 9 L ((xob h a).2.getD 1 .null :: st) h := xo_getf (r := 321) (by decide +kernel) (by decide) hc
set_option maxRecDepth 20000 in
theorem u_X5_put_9 (L : xL) (a b : Int32) (st : List Value) (h : xH) : xf 41 9 L (.int b :: .int a :: st) h = if a < b then xf 41 12 L st h else xf 41 28 L st h := xo_icmp_ge (t := 28) (by decide +kernel) rfl
set_option maxRecDepth 20000 in
theorem u_X5_put_12 (l0 l2 : Option Value) (x : Int32) (st : List Value) (h : xH) : xf 41 12 [l0, some (.int x), l2] st h = xf 41 13 [l0, some (.int x), l2] (.int x :: st) h := xo_iload (k := 1) (by decide +kernel) rfl
set_option maxRecDepth 20000 in
theorem u_X5_put_13 (l1 l2 : Option Value) (x : Nat) (st : List Value) (h : xH) : xf 41 13 [some (.ref x), l1, l2] st h = xf 41 14 [some (.ref x), l1, l2] (.ref x :: st) h := xo_aload (k := 0) (by decide +kernel) rfl
set_option maxRecDepth 20000 in
theorem u_X5_put_14 (L : xL) (a : Nat) (st : List Value) (h : xH) (hc : (xob h a).1 = 5) : xf 41 14 L (.ref a :: st) h = xf 41 17 L ((xob h a).2.getD 0 .null :: st) h := xo_getf (r := 320) (by decide +kernel) (by decide) hc
set_option maxRecDepth 20000 in
theorem u_X5_put_17 (L : xL) (a : Nat) (st : List Value) (h : xH) (hx : 0 < (xai h a).1) : xf 41 17 L (.ref a :: st) h = xf 41 18 L (.int (Int32.ofNat (xai h a).1) :: st) h := xo_alen (by decide +kernel) hx
set_option maxRecDepth 20000 in
theorem u_X5_put_18 (L : xL) (a b : Int32) (st : List Value) (h : xH) : xf 41 18 L (.int b :: .int a :: st) h = if a < b then xf 41 21 L st h else xf 41 28 L st h := xo_icmp_ge (t := 28) (by decide +kernel) rfl
set_option maxRecDepth 20000 in
theorem u_X5_put_21 (l1 l2 : Option Value) (x : Nat) (st : List Value) (h : xH) : xf 41 21 [some (.ref x), l1, l2] st h = xf 41 22 [some (.ref x), l1, l2] (.ref x :: st) h := xo_aload (k := 0) (by decide +kernel) rfl
set_option maxRecDepth 20000 in
theorem u_X5_put_22 (L : xL) (a : Nat) (st : List Value) (h : xH) (hc : (xob h a).1 = 5) : xf 41 22 L (.ref a :: st) h = xf 41 25 L ((xob h a).2.getD 0 .null :: st) h := xo_getf (r := 320) (by decide +kernel) (by decide) hc
set_option maxRecDepth 20000 in
theorem u_X5_put_25 (l0 l2 : Option Value) (x : Int32) (st : List Value) (h : xH) : xf 41 25 [l0, some (.int x), l2] st h = xf 41 26 [l0, some (.int x), l2] (.int x :: st) h := xo_iload (k := 1) (by decide +kernel) rfl
set_option maxRecDepth 20000 in
theorem u_X5_put_26 (l0 l1 : Option Value) (x : Int32) (st : List Value) (h : xH) : xf 41 26 [l0, l1, some (.int x)] st h = xf 41 27 [l0, l1, some (.int x)] (.int x :: st) h := xo_iload (k := 2) (by decide +kernel) rfl
set_option maxRecDepth 20000 in
theorem u_X5_put_27 (L : xL) (v i : Int32) (a : Nat) (st : List Value) (h : xH) (hx : xix i (xai h a).1) : xf 41 27 L (.int v :: .int i :: .ref a :: st) h = xf 41 28 L st (xsi h a i.toNatClampNeg v) := xo_iastore (by decide +kernel) hx
set_option maxRecDepth 20000 in
theorem u_X5_put_28 (L : xL) (h : xH) : xf 41 28 L [] h = some (.inl none, h) := xo_return (n := 29) (by decide +kernel) rfl
set_option maxRecDepth 20000 in
theorem e_X5_put (v0 : Nat) (v1 : Int32) (v2 : Int32) (h : xH) : xev 41 [.ref v0, .int v1, .int v2] h = xf 41 0 [some (.ref v0), some (.int v1), some (.int v2)] [] h := rfl
set_option maxRecDepth 20000 in
theorem u_X5_replaceByTwo_0 (l1 l2 l3 l4 : Option Value) (x : Nat) (st : List Value) (h : xH) : xf 42 0 [some (.ref x), l1, l2, l3, l4] st h = xf 42 1 [some (.ref x), l1, l2, l3, l4] (.ref x :: st) h := xo_aload (k := 0) (by decide +kernel) rfl
set_option maxRecDepth 20000 in
theorem u_X5_replaceByTwo_1 (L : xL) (st : List Value) (h : xH) : xf 42 1 L st h = xf 42 2 L (.int 1 :: st) h := xo_iconst (k := 1) (by decide +kernel) (by decide)
set_option maxRecDepth 20000 in
theorem u_X5_replaceByTwo_2 (L : xL) (v0 : Int32) (b : Nat) (st : List Value) (h : xH) (hb : (xob h b).1 = 5) (hl : st.length ≤ 4) : xf 42 2 L (.int v0 :: .ref b :: st) h = xgo 42 2 5 L st (xev 37 [.ref b, .int v0] h) := xo_callV (as := [.int v0]) (by decide +kernel) rfl ⟨(by decide +kernel : xna 37 = 1), Nat.le_of_ble_eq_true rfl, rfl, by decide⟩ hb hl
set_option maxRecDepth 20000 in
theorem u_X5_replaceByTwo_5 (L : xL) (a : Int32) (st : List Value) (h : xH) : xf 42 5 L (.int a :: st) h = if a = 0 then xf 42 8 L st h else xf 42 9 L st h := xo_if_ne (t := 9) (by decide +kernel) rfl
set_option maxRecDepth 20000 in
theorem u_X5_replaceByTwo_8 (L : xL) (h : xH) : xf 42 8 L [] h = some (.inl none, h) := xo_return (n := 9) (by decide +kernel) rfl
set_option maxRecDepth 20000 in
theorem u_X5_replaceByTwo_9 (l1 l2 l3 l4 : Option Value) (x : Nat) (st : List Value) (h : xH) : xf 42 9 [some (.ref x), l1, l2, l3, l4] st h = xf 42 10 [some (.ref x), l1, l2, l3, l4] (.ref x :: st) h := xo_aload (k := 0) (by decide +kernel) rfl
set_option maxRecDepth 20000 in
theorem u_X5_replaceByTwo_10 (L : xL) (st : List Value) (h : xH) : xf 42 10 L st h = xf 42 11 L (.int (-1) :: st) h := xo_iconst (k := (-1)) (by decide +kernel) (by decide)
set_option maxRecDepth 20000 in
theorem u_X5_replaceByTwo_11 (L : xL) (v0 : Int32) (b : Nat) (st : List Value) (h : xH) (hb : (xob h b).1 = 5) (hl : st.length ≤ 4) : xf 42 11 L (.int v0 :: .ref b :: st) h = xgo 42 11 14 L st (xev 38 [.ref b, .int v0] h) := xo_callV (as := [.int v0]) (by decide +kernel) rfl ⟨(by decide +kernel : xna 38 = 1), Nat.le_of_ble_eq_true rfl, rfl, by decide⟩ hb hl
set_option maxRecDepth 20000 in
theorem u_X5_replaceByTwo_14 (l1 l2 l3 l4 : Option Value) (x : Nat) (st : List Value) (h : xH) : xf 42 14 [some (.ref x), l1, l2, l3, l4] st h = xf 42 15 [some (.ref x), l1, l2, l3, l4] (.ref x :: st) h := xo_aload (k := 0) (by decide +kernel) rfl
set_option maxRecDepth 20000 in
theorem u_X5_replaceByTwo_15 (L : xL) (a : Nat) (st : List Value) (h : xH) (hc : (xob h a).1 = 5) : xf 42 15 L (.ref a :: st) h = xf 42 18 L ((xob h a).2.getD 1 .null :: st) h := xo_getf (r := 321) (by decide +kernel) (by decide) hc
set_option maxRecDepth 20000 in
theorem u_X5_replaceByTwo_18 (L : xL) (st : List Value) (h : xH) : xf 42 18 L st h = xf 42 19 L (.int 1 :: st) h := xo_iconst (k := 1) (by decide +kernel) (by decide)
set_option maxRecDepth 20000 in
theorem u_X5_replaceByTwo_19 (L : xL) (a b : Int32) (st : List Value) (h : xH) : xf 42 19 L (.int b :: .int a :: st) h = xf 42 20 L (.int (a - b) :: st) h := xo_isub (by decide +kernel)
set_option maxRecDepth 20000 in
theorem u_X5_replaceByTwo_20 (l0 l1 l2 l3 l4 : Option Value) (x : Int32) (st : List Value) (h : xH) : xf 42 20 [l0, l1, l2, l3, l4] (.int x :: st) h = xf 42 22 [l0, l1, l2, xcat l3, some (.int x)] st h := xo_istore (k := 4) (by decide +kernel) (Nat.le_of_ble_eq_true rfl) rfl
set_option maxRecDepth 20000 in
theorem u_X5_replaceByTwo_22 (l0 l1 l2 l3 : Option Value) (x : Int32) (st : List Value) (h : xH) : xf 42 22 [l0, l1, l2, l3, some (.int x)] st h = xf 42 24 [l0, l1, l2, l3, some (.int x)] (.int x :: st) h := xo_iload (k := 4) (by decide +kernel) rfl
set_option maxRecDepth 20000 in
theorem u_X5_replaceByTwo_24 (l0 l2 l3 l4 : Option Value) (x : Int32) (st : List Value) (h : xH) : xf 42 24 [l0, some (.int x), l2, l3, l4] st h = xf 42 25 [l0, some (.int x), l2, l3, l4] (.int x :: st) h := xo_iload (k := 1) (by decide +kernel) rfl
set_option maxRecDepth 20000 in
theorem u_X5_replaceByTwo_25 (L : xL) (st : List Value) (h : xH) : xf 42 25 L st h = xf 42 26 L (.int 1 :: st) h := xo_iconst (k := 1) (by decide +kernel) (by decide)
set_option maxRecDepth 20000 in
theorem u_X5_replaceByTwo_26 (L : xL) (a b : Int32) (st : List Value) (h : xH) : xf 42 26 L (.int b :: .int a :: st) h = xf 42 27 L (.int (a + b) :: st) h := xo_iadd (by decide +kernel)
set_option maxRecDepth 20000 in
theorem u_X5_replaceByTwo_27 (L : xL) (a b : Int32) (st : List Value) (h : xH) : xf 42 27 L (.int b :: .int a :: st) h = if b < a then xf 42 30 L st h else xf 42 50 L st h := xo_icmp_le (t := 50) (by decide +kernel) rfl
set_option maxRecDepth 20000 in
theorem u_X5_replaceByTwo_30 (l1 l2 l3 l4 : Option Value) (x : Nat) (st : List Value) (h : xH) : xf 42 30 [some (.ref x), l1, l2, l3, l4] st h = xf 42 31 [some (.ref x), l1, l2, l3, l4] (.ref x :: st) h := xo_aload (k := 0) (by decide +kernel) rfl
set_option maxRecDepth 20000 in
theorem u_X5_replaceByTwo_31 (l0 l1 l2 l3 : Option Value) (x : Int32) (st : List Value) (h : xH) : xf 42 31 [l0, l1, l2, l3, some (.int x)] st h = xf 42 33 [l0, l1, l2, l3, some (.int x)] (.int x :: st) h := xo_iload (k := 4) (by decide +kernel) rfl
set_option maxRecDepth 20000 in
theorem u_X5_replaceByTwo_33 (l1 l2 l3 l4 : Option Value) (x : Nat) (st : List Value) (h : xH) : xf 42 33 [some (.ref x), l1, l2, l3, l4] st h = xf 42 34 [some (.ref x), l1, l2, l3, l4] (.ref x :: st) h := xo_aload (k := 0) (by decide +kernel) rfl
set_option maxRecDepth 20000 in
theorem u_X5_replaceByTwo_34 (l0 l1 l2 l3 : Option Value) (x : Int32) (st : List Value) (h : xH) : xf 42 34 [l0, l1, l2, l3, some (.int x)] st h = xf 42 36 [l0, l1, l2, l3, some (.int x)] (.int x :: st) h := xo_iload (k := 4) (by decide +kernel) rfl
set_option maxRecDepth 20000 in
theorem u_X5_replaceByTwo_36 (L : xL) (st : List Value) (h : xH) : xf 42 36 L st h = xf 42 37 L (.int 1 :: st) h := xo_iconst (k := 1) (by decide +kernel) (by decide)
set_option maxRecDepth 20000 in
theorem u_X5_replaceByTwo_37 (L : xL) (a b : Int32) (st : List Value) (h : xH) : xf 42 37 L (.int b :: .int a :: st) h = xf 42 38 L (.int (a - b) :: st) h := xo_isub (by decide +kernel)
set_option maxRecDepth 20000 in
theorem u_X5_replaceByTwo_38 (L : xL) (v0 : Int32) (b : Nat) (st : List Value) (h : xH) (hb : (xob h b).1 = 5) (hl : st.length ≤ 4) : xf 42 38 L (.int v0 :: .ref b :: st) h = xgo 42 38 41 L st (xev 36 [.ref b, .int v0] h) := xo_callV (as := [.int v0]) (by decide +kernel) rfl ⟨(by decide +kernel : xna 36 = 1), Nat.le_of_ble_eq_true rfl, rfl, by decide⟩ hb hl
set_option maxRecDepth 20000 in
theorem u_X5_replaceByTwo_41 (L : xL) (v0 : Int32) (v1 : Int32) (b : Nat) (st : List Value) (h : xH) (hb : (xob h b).1 = 5) (hl : st.length ≤ 4) : xf 42 41 L (.int v1 :: .int v0 :: .ref b :: st) h = xgo 42 41 44 L st (xev 41 [.ref b, .int v0, .int v1] h) := xo_callV (as := [.int v0, .int v1]) (by decide +kernel) rfl ⟨(by decide +kernel : xna 41 = 2), Nat.le_of_ble_eq_true rfl, rfl, by decide⟩ hb hl
set_option maxRecDepth 20000 in
theorem u_X5_replaceByTwo_44 (l0 l1 l2 l3 : Option Value) (x : Int32) (st : List Value) (h : xH) : xf 42 44 [l0, l1, l2, l3, some (.int x)] st h = xf 42 47 [l0, l1, l2, xcat l3, some (.int (x + (-1)))] st h := xo_iinc (k := 4) (c := (-1)) (by decide +kernel) rfl (by decide) rfl
set_option maxRecDepth 20000 in
theorem u_X5_replaceByTwo_47 (L : xL) (st : List Value) (h : xH) : xf 42 47 L st h = xf 42 22 L st h := xo_goto (n := 50) (t := 22) (by decide +kernel) rfl
set_option maxRecDepth 20000 in
theorem u_X5_replaceByTwo_50 (l1 l2 l3 l4 : Option Value) (x : Nat) (st : List Value) (h : xH) : xf 42 50 [some (.ref x), l1, l2, l3, l4] st h = xf 42 51 [some (.ref x), l1, l2, l3, l4] (.ref x :: st) h := xo_aload (k := 0) (by decide +kernel) rfl
set_option maxRecDepth 20000 in
theorem u_X5_replaceByTwo_51 (l0 l2 l3 l4 : Option Value) (x : Int32) (st : List Value) (h : xH) : xf 42 51 [l0, some (.int x), l2, l3, l4] st h = xf 42 52 [l0, some (.int x), l2, l3, l4] (.int x :: st) h := xo_iload (k := 1) (by decide +kernel) rfl
set_option maxRecDepth 20000 in
theorem u_X5_replaceByTwo_52 (l0 l1 l3 l4 : Option Value) (x : Int32) (st : List Value) (h : xH) : xf 42 52 [l0, l1, some (.int x), l3, l4] st h = xf 42 53 [l0, l1, some (.int x), l3, l4] (.int x :: st) h := xo_iload (k := 2) (by decide +kernel) rfl
set_option maxRecDepth 20000 in
theorem u_X5_replaceByTwo_53 (L : xL) (v0 : Int32) (v1 : Int32) (b : Nat) (st : List Value) (h : xH) (hb : (xob h b).1 = 5) (hl : st.length ≤ 4) : xf 42 53 L (.int v1 :: .int v0 :: .ref b :: st) h = xgo 42 53 56 L st (xev 41 [.ref b, .int v0, .int v1] h) := xo_callV (as := [.int v0, .int v1]) (by decide +kernel) rfl ⟨(by decide +kernel : xna 41 = 2), Nat.le_of_ble_eq_true rfl, rfl, by decide⟩ hb hl
set_option maxRecDepth 20000 in
theorem u_X5_replaceByTwo_56 (l1 l2 l3 l4 : Option Value) (x : Nat) (st : List Value) (h : xH) : xf 42 56 [some (.ref x), l1, l2, l3, l4] st h = xf 42 57 [some (.ref x), l1, l2, l3, l4] (.ref x :: st) h := xo_aload (k := 0) (by decide +kernel) rfl
set_option maxRecDepth 20000 in
theorem u_X5_replaceByTwo_57 (l0 l2 l3 l4 : Option Value) (x : Int32) (st : List Value) (h : xH) : xf 42 57 [l0, some (.int x), l2, l3, l4] st h = xf 42 58 [l0, some (.int x), l2, l3, l4] (.int x :: st) h := xo_iload (k := 1) (by decide +kernel) rfl
set_option maxRecDepth 20000 in
theorem u_X5_replaceByTwo_58 (L : xL) (st : List Value) (h : xH) : xf 42 58 L st h = xf 42 59 L (.int 1 :: st) h := xo_iconst (k := 1) (by decide +kernel) (by decide)
set_option maxRecDepth 20000 in
theorem u_X5_replaceByTwo_59 (L : xL) (a b : Int32) (st : List Value) (h : xH) : xf 42 59 L (.int b :: .int a :: st) h = xf 42 60 L (.int (a + b) :: st) h := xo_iadd (by decide +kernel)
set_option maxRecDepth 20000 in
theorem u_X5_replaceByTwo_60 (l0 l1 l2 l4 : Option Value) (x : Int32) (st : List Value) (h : xH) : xf 42 60 [l0, l1, l2, some (.int x), l4] st h = xf 42 61 [l0, l1, l2, some (.int x), l4] (.int x :: st) h := xo_iload (k := 3) (by decide +kernel) rfl
set_option maxRecDepth 20000 in
theorem u_X5_replaceByTwo_61 (L : xL) (v0 : Int32) (v1 : Int32) (b : Nat) (st : List Value) (h : xH) (hb : (xob h b).1 = 5) (hl : st.length ≤ 4) : xf 42 61 L (.int v1 :: .int v0 :: .ref b :: st) h = xgo 42 61 64 L st (xev 41 [.ref b, .int v0, .int v1] h) := xo_callV (as := [.int v0, .int v1]) (by decide +kernel) rfl ⟨(by decide +kernel : xna 41 = 2), Nat.le_of_ble_eq_true rfl, rfl, by decide⟩ hb hl
set_option maxRecDepth 20000 in
theorem u_X5_replaceByTwo_64 (L : xL) (h : xH) : xf 42 64 L [] h = some (.inl none, h) := xo_return (n := 65) (by decide +kernel) rfl
set_option maxRecDepth 20000 in
theorem e_X5_replaceByTwo (v0 : Nat) (v1 : Int32) (v2 : Int32) (v3 : Int32) (h : xH) : xev 42 [.ref v0, .int v1, .int v2, .int v3] h = xf 42 0 [some (.ref v0), some (.int v1), some (.int v2), some (.int v3), none] [] h := rfl
set_option maxRecDepth 20000 in
theorem u_X5_replacePair_0 (L : xL) (st : List Value) (h : xH) : xf 43 0 L st h = xf 43 1 L (.int 0 :: st) h := xo_iconst (k := 0) (by decide +kernel) (by decide)
set_option maxRecDepth 20000 in
theorem u_X5_replacePair_1 (l0 l1 l2 l3 l4 l5 l6 : Option Value) (x : Int32) (st : List Value) (h : xH) : xf 43 1 [l0, l1, l2, l3, l4, l5, l6] (.int x :: st) h = xf 43 3 [l0, l1, l2, xcat l3, some (.int x), l5, l6] st h := xo_istore (k := 4) (by decide +kernel) (Nat.le_of_ble_eq_true rfl) rfl
set_option maxRecDepth 20000 in
theorem u_X5_replacePair_3 (L : xL) (st : List Value) (h : xH) : xf 43 3 L st h = xf 43 4 L (.int 0 :: st) h := xo_iconst (k := 0) (by decide +kernel) (by decide)
set_option maxRecDepth 20000 in
theorem u_X5_replacePair_4 (l0 l1 l2 l3 l4 l5 l6 : Option Value) (x : Int32) (st : List Value) (h : xH) : xf 43 4 [l0, l1, l2, l3, l4, l5, l6] (.int x :: st) h = xf 43 6 [l0, l1, l2, l3, xcat l4, some (.int x), l6] st h := xo_istore (k := 5) (by decide +kernel) (Nat.le_of_ble_eq_true rfl) rfl
set_option maxRecDepth 20000 in
theorem u_X5_replacePair_6 (l0 l1 l2 l3 l4 l6 : Option Value) (x : Int32) (st : List Value) (h : xH) : xf 43 6 [l0, l1, l2, l3, l4, some (.int x), l6] st h = xf 43 8 [l0, l1, l2, l3, l4, some (.int x), l6] (.int x :: st) h := xo_iload (k := 5) (by decide +kernel) rfl
set_option maxRecDepth 20000 in
theorem u_X5_replacePair_8 (l1 l2 l3 l4 l5 l6 : Option Value) (x : Nat) (st : List Value) (h : xH) : xf 43 8 [some (.ref x), l1, l2, l3, l4, l5, l6] st h = xf 43 9 [some (.ref x), l1, l2, l3, l4, l5, l6] (.ref x :: st) h := xo_aload (k := 0) (by decide +kernel) rfl
set_option maxRecDepth 20000 in
theorem u_X5_replacePair_9 (L : xL) (a : Nat) (st : List Value) (h : xH) (hc : (xob h a).1 = 5) : xf 43 9 L (.ref a :: st) h = xf 43 12 L ((xob h a).2.getD 1 .null :: st) h := xo_getf (r := 321) (by decide +kernel) (by decide) hc
set_option maxRecDepth 20000 in
theorem u_X5_replacePair_12 (L : xL) (a b : Int32) (st : List Value) (h : xH) : xf 43 12 L (.int b :: .int a :: st) h = if a < b then xf 43 15 L st h else xf 43 64 L st h := xo_icmp_ge (t := 64) (by decide +kernel) rfl
set_option maxRecDepth 20000 in
theorem u_X5_replacePair_15 (l1 l2 l3 l4 l5 l6 : Option Value) (x : Nat) (st : List Value) (h : xH) : xf 43 15 [some (.ref x), l1, l2, l3, l4, l5, l6] st h = xf 43 16 [some (.ref x), l1, l2, l3, l4, l5, l6] (.ref x :: st) h := xo_aload (k := 0) (by decide +kernel) rfl
set_option maxRecDepth 20000 in
theorem u_X5_replacePair_16 (l0 l1 l2 l3 l4 l6 : Option Value) (x : Int32) (st : List Value) (h : xH) : xf 43 16 [l0, l1, l2, l3, l4, some (.int x), l6] st h = xf 43 18 [l0, l1, l2, l3, l4, some (.int x), l6] (.int x :: st) h := xo_iload (k := 5) (by decide +kernel) rfl
set_option maxRecDepth 20000 in
theorem u_X5_replacePair_18 (L : xL) (v0 : Int32) (b : Nat) (st : List Value) (h : xH) (hb : (xob h b).1 = 5) (hl : st.length ≤ 4) : xf 43 18 L (.int v0 :: .ref b :: st) h = xgo 43 18 21 L st (xev 36 [.ref b, .int v0] h) := xo_callV (as := [.int v0]) (by decide +kernel) rfl ⟨(by decide +kernel : xna 36 = 1), Nat.le_of_ble_eq_true rfl, rfl, by decide⟩ hb hl
set_option maxRecDepth 20000 in
theorem u_X5_replacePair_21 (l0 l1 l2 l3 l4 l5 l6 : Option Value) (x : Int32) (st : List Value) (h : xH) : xf 43 21 [l0, l1, l2, l3, l4, l5, l6] (.int x :: st) h = xf 43 23 [l0, l1, l2, l3, l4, xcat l5, some (.int x)] st h := xo_istore (k := 6) (by decide +kernel) (Nat.le_of_ble_eq_true rfl) rfl
set_option maxRecDepth 20000 in
theorem u_X5_replacePair_23 (l0 l1 l2 l3 l4 l5 : Option Value) (x : Int32) (st : List Value) (h : xH) : xf 43 23 [l0, l1, l2, l3, l4, l5, some (.int x)] st h = xf 43 25 [l0, l1, l2, l3, l4, l5, some (.int x)] (.int x :: st) h := xo_iload (k := 6) (by decide +kernel) rfl
set_option maxRecDepth 20000 in
theorem u_X5_replacePair_25 (l0 l2 l3 l4 l5 l6 : Option Value) (x : Int32) (st : List Value) (h : xH) : xf 43 25 [l0, some (.int x), l2, l3, l4, l5, l6] st h = xf 43 26 [l0, some (.int x), l2, l3, l4, l5, l6] (.int x :: st) h := xo_iload (k := 1) (by decide +kernel) rfl
set_option maxRecDepth 20000 in
theorem u_X5_replacePair_26 (L : xL) (a b : Int32) (st : List Value) (h : xH) : xf 43 26 L (.int b :: .int a :: st) h = if a = b then xf 43 29 L st h else xf 43 47 L st h := xo_icmp_ne (t := 47) (by decide +kernel) rfl
set_option maxRecDepth 20000 in
theorem u_X5_replacePair_29 (l1 l2 l3 l4 l5 l6 : Option Value) (x : Nat) (st : List Value) (h : xH) : xf 43 29 [some (.ref x), l1, l2, l3, l4, l5, l6] st h = xf 43 30 [some (.ref x), l1, l2, l3, l4, l5, l6] (.ref x :: st) h := xo_aload (k := 0) (by decide +kernel) rfl
set_option maxRecDepth 20000 in
theorem u_X5_replacePair_30 (l0 l1 l2 l3 l4 l6 : Option Value) (x : Int32) (st : List Value) (h : xH) : xf 43 30 [l0, l1, l2, l3, l4, some (.int x), l6] st h = xf 43 32 [l0, l1, l2, l3, l4, some (.int x), l6] (.int x :: st) h := xo_iload (k := 5) (by decide +kernel) rfl
set_option maxRecDepth 20000 in
theorem u_X5_replacePair_32 (L : xL) (st : List Value) (h : xH) : xf 43 32 L st h = xf 43 33 L (.int 1 :: st) h := xo_iconst (k := 1) (by decide +kernel) (by decide)
set_option maxRecDepth 20000 in
theorem u_X5_replacePair_33 (L : xL) (a b : Int32) (st : List Value) (h : xH) : xf 43 33 L (.int b :: .int a :: st) h = xf 43 34 L (.int (a + b) :: st) h := xo_iadd (by decide +kernel)
set_option maxRecDepth 20000 in
theorem u_X5_replacePair_34 (L : xL) (v0 : Int32) (b : Nat) (st : List Value) (h : xH) (hb : (xob h b).1 = 5) (hl : st.length ≤ 4) : xf 43 34 L (.int v0 :: .ref b :: st) h = xgo 43 34 37 L st (xev 36 [.ref b, .int v0] h) := xo_callV (as := [.int v0]) (by decide +kernel) rfl ⟨(by decide +kernel : xna 36 = 1), Nat.le_of_ble_eq_true rfl, rfl, by decide⟩ hb hl
set_option maxRecDepth 20000 in
theorem u_X5_replacePair_37 (l0 l1 l3 l4 l5 l6 : Option Value) (x : Int32) (st : List Value) (h : xH) : xf 43 37 [l0, l1, some (.int x), l3, l4, l5, l6] st h = xf 43 38 [l0, l1, some (.int x), l3, l4, l5, l6] (.int x :: st) h := xo_iload (k := 2) (by decide +kernel) rfl
set_option maxRecDepth 20000 in
theorem u_X5_replacePair_38 (L : xL) (a b : Int32) (st : List Value) (h : xH) : xf 43 38 L (.int b :: .int a :: st) h = if a = b then xf 43 41 L st h else xf 43 47 L st h := xo_icmp_ne (t := 47) (by decide +kernel) rfl
set_option maxRecDepth 20000 in
theorem u_X5_replacePair_41 (l0 l1 l2 l4 l5 l6 : Option Value) (x : Int32) (st : List Value) (h : xH) : xf 43 41 [l0, l1, l2, some (.int x), l4, l5, l6] st h = xf 43 42 [l0, l1, l2, some (.int x), l4, l5, l6] (.int x :: st) h := xo_iload (k := 3) (by decide +kernel) rfl
set_option maxRecDepth 20000 in
theorem u_X5_replacePair_42 (l0 l1 l2 l3 l4 l5 l6 : Option Value) (x : Int32) (st : List Value) (h : xH) : xf 43 42 [l0, l1, l2, l3, l4, l5, l6] (.int x :: st) h = xf 43 44 [l0, l1, l2, l3, l4, xcat l5, some (.int x)] st h := xo_istore (k := 6) (by decide +kernel) (Nat.le_of_ble_eq_true rfl) rfl
set_option maxRecDepth 20000 in
theorem u_X5_replacePair_44 (l0 l1 l2 l3 l4 l6 : Option Value) (x : Int32) (st : List Value) (h : xH) : xf 43 44 [l0, l1, l2, l3, l4, some (.int x), l6] st h = xf 43 47 [l0, l1, l2, l3, xcat l4, some (.int (x + 1)), l6] st h := xo_iinc (k := 5) (c := 1) (by decide +kernel) rfl (by decide) rfl
set_option maxRecDepth 20000 in
theorem u_X5_replacePair_47 (l1 l2 l3 l4 l5 l6 : Option Value) (x : Nat) (st : List Value) (h : xH) : xf 43 47 [some (.ref x), l1, l2, l3, l4, l5, l6] st h = xf 43 48 [some (.ref x), l1, l2, l3, l4, l5, l6] (.ref x :: st) h := xo_aload (k := 0) (by decide +kernel) rfl
set_option maxRecDepth 20000 in
theorem u_X5_replacePair_48 (l0 l1 l2 l3 l5 l6 : Option Value) (x : Int32) (st : List Value) (h : xH) : xf 43 48 [l0, l1, l2, l3, some (.int x), l5, l6] st h = xf 43 50 [l0, l1, l2, l3, some (.int x), l5, l6] (.int x :: st) h := xo_iload (k := 4) (by decide +kernel) rfl
set_option maxRecDepth 20000 in
theorem u_X5_replacePair_50 (l0 l1 l2 l3 l4 l5 : Option Value) (x : Int32) (st : List Value) (h : xH) : xf 43 50 [l0, l1, l2, l3, l4, l5, some (.int x)] st h = xf 43 52 [l0, l1, l2, l3, l4, l5, some (.int x)] (.int x :: st) h := xo_iload (k := 6) (by decide +kernel) rfl
set_option maxRecDepth 20000 in
theorem u_X5_replacePair_52 (L : xL) (v0 : Int32) (v1 : Int32) (b : Nat) (st : List Value) (h : xH) (hb : (xob h b).1 = 5) (hl : st.length ≤ 4) : xf 43 52 L (.int v1 :: .int v0 :: .ref b :: st) h = xgo 43 52 55 L st (xev 41 [.ref b, .int v0, .int v1] h) := xo_callV (as := [.int v0, .int v1]) (by decide +kernel) rfl ⟨(by decide +kernel : xna 41 = 2), Nat.le_of_ble_eq_true rfl, rfl, by decide⟩ hb hl
set_option maxRecDepth 20000 in
theorem u_X5_replacePair_55 (l0 l1 l2 l3 l5 l6 : Option Value) (x : Int32) (st : List Value) (h : xH) : xf 43 55 [l0, l1, l2, l3, some (.int x), l5, l6] st h = xf 43 58 [l0, l1, l2, xcat l3, some (.int (x + 1)), l5, l6] st h := xo_iinc (k := 4) (c := 1) (by decide +kernel) rfl (by decide) rfl
set_option maxRecDepth 20000 in
theorem u_X5_replacePair_58 (l0 l1 l2 l3 l4 l6 : Option Value) (x : Int32) (st : List Value) (h : xH) : xf 43 58 [l0, l1, l2, l3, l4, some (.int x), l6] st h = xf 43 61 [l0, l1, l2, l3, xcat l4, some (.int (x + 1)), l6] st h := xo_iinc (k := 5) (c := 1) (by decide +kernel) rfl (by decide) rfl
set_option maxRecDepth 20000 in
theorem u_X5_replacePair_61 (L : xL) (st : List Value) (h : xH) : xf 43 61 L st h = xf 43 6 L st h := xo_goto (n := 64) (t := 6) (by decide +kernel) rfl
set_option maxRecDepth 20000 in
theorem u_X5_replacePair_64 (l1 l2 l3 l4 l5 l6 : Option Value) (x : Nat) (st : List Value) (h : xH) : xf 43 64 [some (.ref x), l1, l2, l3, l4, l5, l6] st h = xf 43 65 [some (.ref x), l1, l2, l3, l4, l5, l6] (.ref x :: st) h := xo_aload (k := 0) (by decide +kernel) rfl
set_option maxRecDepth 20000 in
theorem u_X5_replacePair_65 (l0 l1 l2 l3 l5 l6 : Option Value) (x : Int32) (st : List Value) (h : xH) : xf 43 65 [l0, l1, l2, l3, some (.int x), l5, l6] st h = xf 43 67 [l0, l1, l2, l3, some (.int x), l5, l6] (.int x :: st) h := xo_iload (k := 4) (by decide +kernel) rfl
set_option maxRecDepth 20000 in
theorem u_X5_replacePair_67 (L : xL) (v0 : Int32) (b : Nat) (st : List Value) (h : xH) (hb : (xob h b).1 = 5) (hl : st.length ≤ 4) : xf 43 67 L (.int v0 :: .ref b :: st) h = xgo 43 67 70 L st (xev 39 [.ref b, .int v0] h) := xo_callV (as := [.int v0]) (by decide +kernel) rfl ⟨(by decide +kernel : xna 39 = 1), Nat.le_of_ble_eq_true rfl, rfl, by decide⟩ hb hl
set_option maxRecDepth 20000 in
theorem u_X5_replacePair_70 (L : xL) (h : xH) : xf 43 70 L [] h = some (.inl none, h) := xo_return (n := 71) (by decide +kernel) rfl
set_option maxRecDepth 20000 in
theorem e_X5_replacePair (v0 : Nat) (v1 : Int32) (v2 : Int32) (v3 : Int32) (h : xH) : xev 43 [.ref v0, .int v1, .int v2, .int v3] h = xf 43 0 [some (.ref v0), some (.int v1), some (.int v2), some (.int v3), none, none, none] [] h := rfl
set_option maxRecDepth 20000 in
theorem u_X5_occurrences_0 (L : xL) (st : List Value) (h : xH) : xf 44 0 L st h = xf 44 1 L (.int 0 :: st) h := xo_iconst (k := 0) (by decide +kernel) (by decide)
set_option maxRecDepth 20000 in
theorem u_X5_occurrences_1 (l0 l1 l2 l3 l4 : Option Value) (x : Int32) (st : List Value) (h : xH) : xf 44 1 [l0, l1, l2, l3, l4] (.int x :: st) h = xf 44 2 [l0, l1, xcat l2, some (.int x), l4] st h := xo_istore (k := 3) (by decide +kernel) (Nat.le_of_ble_eq_true rfl) rfl
set_option maxRecDepth 20000 in
theorem u_X5_occurrences_2 (L : xL) (st : List Value) (h : xH) : xf 44 2 L st h = xf 44 3 L (.int 0 :: st) h := xo_iconst (k := 0) (by decide +kernel) (by decide)
set_option maxRecDepth 20000 in
theorem u_X5_occurrences_3 (l0 l1 l2 l3 l4 : Option Value) (x : Int32) (st : List Value) (h : xH) : xf 44 3 [l0, l1, l2, l3, l4] (.int x :: st) h = xf 44 5 [l0, l1, l2, xcat l3, some (.int x)] st h := xo_istore (k := 4) (by decide +kernel) (Nat.le_of_ble_eq_true rfl) rfl
set_option maxRecDepth 20000 in
theorem u_X5_occurrences_5 (l0 l1 l2 l3 : Option Value) (x : Int32) (st : List Value) (h : xH) : xf 44 5 [l0, l1, l2, l3, some (.int x)] st h = xf 44 7 [l0, l1, l2, l3, some (.int x)] (.int x :: st) h := xo_iload (k := 4) (by decide +kernel) rfl
set_option maxRecDepth 20000 in
theorem u_X5_occurrences_7 (L : xL) (st : List Value) (h : xH) : xf 44 7 L st h = xf 44 8 L (.int 1 :: st) h := xo_iconst (k := 1) (by decide +kernel) (by decide)
set_option maxRecDepth 20000 in
theorem u_X5_occurrences_8 (L : xL) (a b : Int32) (st : List Value) (h : xH) : xf 44 8 L (.int b :: .int a :: st) h = xf 44 9 L (.int (a + b) :: st) h := xo_iadd (by decide +kernel)
set_option maxRecDepth 20000 in
theorem u_X5_occurrences_9 (l1 l2 l3 l4 : Option Value) (x : Nat) (st : List Value) (h : xH) : xf 44 9 [some (.ref x), l1, l2, l3, l4] st h = xf 44 10 [some (.ref x), l1, l2, l3, l4] (.ref x :: st) h := xo_aload (k := 0) (by decide +kernel) rfl
set_option maxRecDepth 20000 in
theorem u_X5_occurrences_10 (L : xL) (a : Nat) (st : List Value) (h : xH) (hc : (xob h a).1 = 5) : xf 44 10 L (.ref a :: st) h = xf 44 13 L ((xob h a).2.getD 1 .null :: st) h := xo_getf (r := 321) (by decide +kernel) (by decide) hc
set_option maxRecDepth 20000 in
theorem u_X5_occurrences_13 (L : xL) (a b : Int32) (st : List Value) (h : xH) : xf 44 13 L (.int b :: .int a :: st) h = if a < b then xf 44 16 L st h else xf 44 50 L st h := xo_icmp_ge (t := 50) (by decide +kernel) rfl
set_option maxRecDepth 20000 in
theorem u_X5_occurrences_16 (l1 l2 l3 l4 : Option Value) (x : Nat) (st : List Value) (h : xH) : xf 44 16 [some (.ref x), l1, l2, l3, l4] st h = xf 44 17 [some (.ref x), l1, l2, l3, l4] (.ref x :: st) h := xo_aload (k := 0) (by decide +kernel) rfl
set_option maxRecDepth 20000 in
theorem u_X5_occurrences_17 (l0 l1 l2 l3 : Option Value) (x : Int32) (st : List Value) (h : xH) : xf 44 17 [l0, l1, l2, l3, some (.int x)] st h = xf 44 19 [l0, l1, l2, l3, some (.int x)] (.int x :: st) h := xo_iload (k := 4) (by decide +kernel) rfl
set_option maxRecDepth 20000 in
theorem u_X5_occurrences_19 (L : xL) (v0 : Int32) (b : Nat) (st : List Value) (h : xH) (hb : (xob h b).1 = 5) (hl : st.length ≤ 4) : xf 44 19 L (.int v0 :: .ref b :: st) h = xgo 44 19 22 L st (xev 36 [.ref b, .int v0] h) := xo_callV (as := [.int v0]) (by decide +kernel) rfl ⟨(by decide +kernel : xna 36 = 1), Nat.le_of_ble_eq_true rfl, rfl, by decide⟩ hb hl
set_option maxRecDepth 20000 in
theorem u_X5_occurrences_22 (l0 l2 l3 l4 : Option Value) (x : Int32) (st : List Value) (h : xH) : xf 44 22 [l0, some (.int x), l2, l3, l4] st h = xf 44 23 [l0, some (.int x), l2, l3, l4] (.int x :: st) h := xo_iload (k := 1) (by decide +kernel) rfl
set_option maxRecDepth 20000 in
theorem u_X5_occurrences_23 (L : xL) (a b : Int32) (st : List Value) (h : xH) : xf 44 23 L (.int b :: .int a :: st) h = if a = b then xf 44 26 L st h else xf 44 44 L st h := xo_icmp_ne (t := 44) (by decide +kernel) rfl
set_option maxRecDepth 20000 in
theorem u_X5_occurrences_26 (l1 l2 l3 l4 : Option Value) (x : Nat) (st : List Value) (h : xH) : xf 44 26 [some (.ref x), l1, l2, l3, l4] st h = xf 44 27 [some (.ref x), l1, l2, l3, l4] (.ref x :: st) h := xo_aload (k := 0) (by decide +kernel) rfl
set_option maxRecDepth 20000 in
theorem u_X5_occurrences_27 (l0 l1 l2 l3 : Option Value) (x : Int32) (st : List Value) (h : xH) : xf 44 27 [l0, l1, l2, l3, some (.int x)] st h = xf 44 29 [l0, l1, l2, l3, some (.int x)] (.int x :: st) h := xo_iload (k := 4) (by decide +kernel) rfl
set_option maxRecDepth 20000 in
theorem u_X5_occurrences_29 (L : xL) (st : List Value) (h : xH) : xf 44 29 L st h = xf 44 30 L (.int 1 :: st) h := xo_iconst (k := 1) (by decide +kernel) (by decide)
set_option maxRecDepth 20000 in
theorem u_X5_occurrences_30 (L : xL) (a b : Int32) (st : List Value) (h : xH) : xf 44 30 L (.int b :: .int a :: st) h = xf 44 31 L (.int (a + b) :: st) h := xo_iadd (by decide +kernel)
set_option maxRecDepth 20000 in
theorem u_X5_occurrences_31 (L : xL) (v0 : Int32) (b : Nat) (st : List Value) (h : xH) (hb : (xob h b).1 = 5) (hl : st.length ≤ 4) : xf 44 31 L (.int v0 :: .ref b :: st) h = xgo 44 31 34 L st (xev 36 [.ref b, .int v0] h) := xo_callV (as := [.int v0]) (by decide +kernel) rfl ⟨(by decide +kernel : xna 36 = 1), Nat.le_of_ble_eq_true rfl, rfl, by decide⟩ hb hl
set_option maxRecDepth 20000 in
theorem u_X5_occurrences_34 (l0 l1 l3 l4 : Option Value) (x : Int32) (st : List Value) (h : xH) : xf 44 34 [l0, l1, some (.int x), l3, l4] st h = xf 44 35 [l0, l1, some (.int x), l3, l4] (.int x :: st) h := xo_iload (k := 2) (by decide +kernel) rfl
set_option maxRecDepth 20000 in
theorem u_X5_occurrences_35 (L : xL) (a b : Int32) (st : List Value) (h : xH) : xf 44 35 L (.int b :: .int a :: st) h = if a = b then xf 44 38 L st h else xf 44 44 L st h := xo_icmp_ne (t := 44) (by decide +kernel) rfl
set_option maxRecDepth 20000 in
theorem u_X5_occurrences_38 (l0 l1 l2 l4 : Option Value) (x : Int32) (st : List Value) (h : xH) : xf 44 38 [l0, l1, l2, some (.int x), l4] st h = xf 44 41 [l0, l1, xcat l2, some (.int (x + 1)), l4] st h := xo_iinc (k := 3) (c := 1) (by decide +kernel) rfl (by decide) rfl
set_option maxRecDepth 20000 in
theorem u_X5_occurrences_41 (l0 l1 l2 l3 : Option Value) (x : Int32) (st : List Value) (h : xH) : xf 44 41 [l0, l1, l2, l3, some (.int x)] st h = xf 44 44 [l0, l1, l2, xcat l3, some (.int (x + 1))] st h := xo_iinc (k := 4) (c := 1) (by decide +kernel) rfl (by decide) rfl
set_option maxRecDepth 20000 in
theorem u_X5_occurrences_44 (l0 l1 l2 l3 : Option Value) (x : Int32) (st : List Value) (h : xH) : xf 44 44 [l0, l1, l2, l3, some (.int x)] st h = xf 44 47 [l0, l1, l2, xcat l3, some (.int (x + 1))] st h := xo_iinc (k := 4) (c := 1) (by decide +kernel) rfl (by decide) rfl
set_option maxRecDepth 20000 in
theorem u_X5_occurrences_47 (L : xL) (st : List Value) (h : xH) : xf 44 47 L st h = xf 44 5 L st h := xo_goto (n := 50) (t := 5) (by decide +kernel) rfl
set_option maxRecDepth 20000 in
theorem u_X5_occurrences_50 (l0 l1 l2 l4 : Option Value) (x : Int32) (st : List Value) (h : xH) : xf 44 50 [l0, l1, l2, some (.int x), l4] st h = xf 44 51 [l0, l1, l2, some (.int x), l4] (.int x :: st) h := xo_iload (k := 3) (by decide +kernel) rfl
set_option maxRecDepth 20000 in
theorem u_X5_occurrences_51 (L : xL) (x : Int32) (h : xH) : xf 44 51 L [.int x] h = some (.inl (some (.int x)), h) := xo_ireturn (n := 52) (by decide +kernel) rfl
set_option maxRecDepth 20000 in
theorem e_X5_occurrences (v0 : Nat) (v1 : Int32) (v2 : Int32) (h : xH) : xev 44 [.ref v0, .int v1, .int v2] h = xf 44 0 [some (.ref v0), some (.int v1), some (.int v2), none, none] [] h := rfl
set_option maxRecDepth 20000 in
theorem u_X5_usesOf_0 (L : xL) (st : List Value) (h : xH) : xf 45 0 L st h = xf 45 1 L (.int 0 :: st) h := xo_iconst (k := 0) (by decide +kernel) (by decide)
set_option maxRecDepth 20000 in
theorem u_X5_usesOf_1 (l0 l1 l2 l3 : Option Value) (x : Int32) (st : List Value) (h : xH) : xf 45 1 [l0, l1, l2, l3] (.int x :: st) h = xf 45 2 [l0, xcat l1, some (.int x), l3] st h := xo_istore (k := 2) (by decide +kernel) (Nat.le_of_ble_eq_true rfl) rfl
set_option maxRecDepth 20000 in
theorem u_X5_usesOf_2 (L : xL) (st : List Value) (h : xH) : xf 45 2 L st h = xf 45 3 L (.int 0 :: st) h := xo_iconst (k := 0) (by decide +kernel) (by decide)
set_option maxRecDepth 20000 in
theorem u_X5_usesOf_3 (l0 l1 l2 l3 : Option Value) (x : Int32) (st : List Value) (h : xH) : xf 45 3 [l0, l1, l2, l3] (.int x :: st) h = xf 45 4 [l0, l1, xcat l2, some (.int x)] st h := xo_istore (k := 3) (by decide +kernel) (Nat.le_of_ble_eq_true rfl) rfl
set_option maxRecDepth 20000 in
theorem u_X5_usesOf_4 (l0 l1 l2 : Option Value) (x : Int32) (st : List Value) (h : xH) : xf 45 4 [l0, l1, l2, some (.int x)] st h = xf 45 5 [l0, l1, l2, some (.int x)] (.int x :: st) h := xo_iload (k := 3) (by decide +kernel) rfl
set_option maxRecDepth 20000 in
theorem u_X5_usesOf_5 (l1 l2 l3 : Option Value) (x : Nat) (st : List Value) (h : xH) : xf 45 5 [some (.ref x), l1, l2, l3] st h = xf 45 6 [some (.ref x), l1, l2, l3] (.ref x :: st) h := xo_aload (k := 0) (by decide +kernel) rfl
set_option maxRecDepth 20000 in
theorem u_X5_usesOf_6 (L : xL) (a : Nat) (st : List Value) (h : xH) (hc : (xob h a).1 = 5) : xf 45 6 L (.ref a :: st) h = xf 45 9 L ((xob h a).2.getD 1 .null :: st) h := xo_getf (r := 321) (by decide +kernel) (by decide) hc
set_option maxRecDepth 20000 in
theorem u_X5_usesOf_9 (L : xL) (a b : Int32) (st : List Value) (h : xH) : xf 45 9 L (.int b :: .int a :: st) h = if a < b then xf 45 12 L st h else xf 45 30 L st h := xo_icmp_ge (t := 30) (by decide +kernel) rfl
set_option maxRecDepth 20000 in
theorem u_X5_usesOf_12 (l1 l2 l3 : Option Value) (x : Nat) (st : List Value) (h : xH) : xf 45 12 [some (.ref x), l1, l2, l3] st h = xf 45 13 [some (.ref x), l1, l2, l3] (.ref x :: st) h := xo_aload (k := 0) (by decide +kernel) rfl
set_option maxRecDepth 20000 in
theorem u_X5_usesOf_13 (l0 l1 l2 : Option Value) (x : Int32) (st : List Value) (h : xH) : xf 45 13 [l0, l1, l2, some (.int x)] st h = xf 45 14 [l0, l1, l2, some (.int x)] (.int x :: st) h := xo_iload (k := 3) (by decide +kernel) rfl
set_option maxRecDepth 20000 in
theorem u_X5_usesOf_14 (L : xL) (v0 : Int32) (b : Nat) (st : List Value) (h : xH) (hb : (xob h b).1 = 5) (hl : st.length ≤ 4) : xf 45 14 L (.int v0 :: .ref b :: st) h = xgo 45 14 17 L st (xev 36 [.ref b, .int v0] h) := xo_callV (as := [.int v0]) (by decide +kernel) rfl ⟨(by decide +kernel : xna 36 = 1), Nat.le_of_ble_eq_true rfl, rfl, by decide⟩ hb hl
set_option maxRecDepth 20000 in
theorem u_X5_usesOf_17 (l0 l2 l3 : Option Value) (x : Int32) (st : List Value) (h : xH) : xf 45 17 [l0, some (.int x), l2, l3] st h = xf 45 18 [l0, some (.int x), l2, l3] (.int x :: st) h := xo_iload (k := 1) (by decide +kernel) rfl
set_option maxRecDepth 20000 in
theorem u_X5_usesOf_18 (L : xL) (a b : Int32) (st : List Value) (h : xH) : xf 45 18 L (.int b :: .int a :: st) h = if a = b then xf 45 21 L st h else xf 45 24 L st h := xo_icmp_ne (t := 24) (by decide +kernel) rfl
set_option maxRecDepth 20000 in
theorem u_X5_usesOf_21 (l0 l1 l3 : Option Value) (x : Int32) (st : List Value) (h : xH) : xf 45 21 [l0, l1, some (.int x), l3] st h = xf 45 24 [l0, xcat l1, some (.int (x + 1)), l3] st h := xo_iinc (k := 2) (c := 1) (by decide +kernel) rfl (by decide) rfl
set_option maxRecDepth 20000 in
theorem u_X5_usesOf_24 (l0 l1 l2 : Option Value) (x : Int32) (st : List Value) (h : xH) : xf 45 24 [l0, l1, l2, some (.int x)] st h = xf 45 27 [l0, l1, xcat l2, some (.int (x + 1))] st h := xo_iinc (k := 3) (c := 1) (by decide +kernel) rfl (by decide) rfl
set_option maxRecDepth 20000 in
theorem u_X5_usesOf_27 (L : xL) (st : List Value) (h : xH) : xf 45 27 L st h = xf 45 4 L st h := xo_goto (n := 30) (t := 4) (by decide +kernel) rfl
set_option maxRecDepth 20000 in
theorem u_X5_usesOf_30 (l0 l1 l3 : Option Value) (x : Int32) (st : List Value) (h : xH) : xf 45 30 [l0, l1, some (.int x), l3] st h = xf 45 31 [l0, l1, some (.int x), l3] (.int x :: st) h := xo_iload (k := 2) (by decide +kernel) rfl
set_option maxRecDepth 20000 in
theorem u_X5_usesOf_31 (L : xL) (x : Int32) (h : xH) : xf 45 31 L [.int x] h = some (.inl (some (.int x)), h) := xo_ireturn (n := 32) (by decide +kernel) rfl
set_option maxRecDepth 20000 in
theorem e_X5_usesOf (v0 : Nat) (v1 : Int32) (h : xH) : xev 45 [.ref v0, .int v1] h = xf 45 0 [some (.ref v0), some (.int v1), none, none] [] h := rfl
set_option maxRecDepth 20000 in
theorem u_X5_unlikeParts_0 (L : xL) (st : List Value) (h : xH) : xf 46 0 L st h = xf 46 1 L (.int 0 :: st) h := xo_iconst (k := 0) (by decide +kernel) (by decide)
set_option maxRecDepth 20000 in
theorem u_X5_unlikeParts_1 (l0 l1 l2 : Option Value) (x : Int32) (st : List Value) (h : xH) : xf 46 1 [l0, l1, l2] (.int x :: st) h = xf 46 2 [xcat l0, some (.int x), l2] st h := xo_istore (k := 1) (by decide +kernel) (Nat.le_of_ble_eq_true rfl) rfl
set_option maxRecDepth 20000 in
theorem u_X5_unlikeParts_2 (L : xL) (st : List Value) (h : xH) : xf 46 2 L st h = xf 46 3 L (.int 0 :: st) h := xo_iconst (k := 0) (by decide +kernel) (by decide)
set_option maxRecDepth 20000 in
theorem u_X5_unlikeParts_3 (l0 l1 l2 : Option Value) (x : Int32) (st : List Value) (h : xH) : xf 46 3 [l0, l1, l2] (.int x :: st) h = xf 46 4 [l0, xcat l1, some (.int x)] st h := xo_istore (k := 2) (by decide +kernel) (Nat.le_of_ble_eq_true rfl) rfl
set_option maxRecDepth 20000 in
theorem u_X5_unlikeParts_4 (l0 l1 : Option Value) (x : Int32) (st : List Value) (h : xH) : xf 46 4 [l0, l1, some (.int x)] st h = xf 46 5 [l0, l1, some (.int x)] (.int x :: st) h := xo_iload (k := 2) (by decide +kernel) rfl
set_option maxRecDepth 20000 in
theorem u_X5_unlikeParts_5 (L : xL) (st : List Value) (h : xH) : xf 46 5 L st h = xf 46 7 L (.int 24 :: st) h := xo_iconst (k := 24) (by decide +kernel) (by decide)
set_option maxRecDepth 20000 in
theorem u_X5_unlikeParts_7 (L : xL) (a b : Int32) (st : List Value) (h : xH) : xf 46 7 L (.int b :: .int a :: st) h = if a < b then xf 46 10 L st h else xf 46 27 L st h := xo_icmp_ge (t := 27) (by decide +kernel) rfl
set_option maxRecDepth 20000 in
theorem u_X5_unlikeParts_10 (l1 l2 : Option Value) (x : Nat) (st : List Value) (h : xH) : xf 46 10 [some (.ref x), l1, l2] st h = xf 46 11 [some (.ref x), l1, l2] (.ref x :: st) h := xo_aload (k := 0) (by decide +kernel) rfl
set_option maxRecDepth 20000 in
theorem u_X5_unlikeParts_11 (l0 l1 : Option Value) (x : Int32) (st : List Value) (h : xH) : xf 46 11 [l0, l1, some (.int x)] st h = xf 46 12 [l0, l1, some (.int x)] (.int x :: st) h := xo_iload (k := 2) (by decide +kernel) rfl
set_option maxRecDepth 20000 in
theorem u_X5_unlikeParts_12 (L : xL) (v0 : Int32) (b : Nat) (st : List Value) (h : xH) (hb : (xob h b).1 = 5) (hl : st.length ≤ 4) : xf 46 12 L (.int v0 :: .ref b :: st) h = xgo 46 12 15 L st (xev 45 [.ref b, .int v0] h) := xo_callV (as := [.int v0]) (by decide +kernel) rfl ⟨(by decide +kernel : xna 45 = 1), Nat.le_of_ble_eq_true rfl, rfl, by decide⟩ hb hl
set_option maxRecDepth 20000 in
theorem u_X5_unlikeParts_15 (L : xL) (a : Int32) (st : List Value) (h : xH) : xf 46 15 L (.int a :: st) h = if 0 < a then xf 46 18 L st h else xf 46 21 L st h := xo_if_le (t := 21) (by decide +kernel) rfl
set_option maxRecDepth 20000 in
theorem u_X5_unlikeParts_18 (l0 l2 : Option Value) (x : Int32) (st : List Value) (h : xH) : xf 46 18 [l0, some (.int x), l2] st h = xf 46 21 [xcat l0, some (.int (x + 1)), l2] st h := xo_iinc (k := 1) (c := 1) (by decide +kernel) rfl (by decide) rfl
set_option maxRecDepth 20000 in
theorem u_X5_unlikeParts_21 (l0 l1 : Option Value) (x : Int32) (st : List Value) (h : xH) : xf 46 21 [l0, l1, some (.int x)] st h = xf 46 24 [l0, xcat l1, some (.int (x + 1))] st h := xo_iinc (k := 2) (c := 1) (by decide +kernel) rfl (by decide) rfl
set_option maxRecDepth 20000 in
theorem u_X5_unlikeParts_24 (L : xL) (st : List Value) (h : xH) : xf 46 24 L st h = xf 46 4 L st h := xo_goto (n := 27) (t := 4) (by decide +kernel) rfl
set_option maxRecDepth 20000 in
theorem u_X5_unlikeParts_27 (l0 l2 : Option Value) (x : Int32) (st : List Value) (h : xH) : xf 46 27 [l0, some (.int x), l2] st h = xf 46 28 [l0, some (.int x), l2] (.int x :: st) h := xo_iload (k := 1) (by decide +kernel) rfl
set_option maxRecDepth 20000 in
theorem u_X5_unlikeParts_28 (L : xL) (x : Int32) (h : xH) : xf 46 28 L [.int x] h = some (.inl (some (.int x)), h) := xo_ireturn (n := 29) (by decide +kernel) rfl
set_option maxRecDepth 20000 in
theorem e_X5_unlikeParts (v0 : Nat) (h : xH) : xev 46 [.ref v0] h = xf 46 0 [some (.ref v0), none, none] [] h := rfl
